-- the reference's methods as functions of its state: patches of arrays, leaves, rows and their check
def zpt (s : zSt) (a : Nat) (lo n : Int) (g : Int → Int) : zSt := fun b x => if b = a ∧ lo ≤ x ∧ x < lo + n then g x else s b x
theorem zpt_0 {s : zSt} {a : Nat} {lo : Int} {g : Int → Int} : zpt s a lo 0 g = s := funext fun b => funext fun x => if_neg (by omega)
theorem zpt_ne {s : zSt} {a b : Nat} {lo n x : Int} {g : Int → Int} (h : b ≠ a) : zpt s a lo n g b x = s b x := if_neg (fun q => h q.1)
theorem zpt_o {s : zSt} {a b : Nat} {lo n x : Int} {g : Int → Int} (h : x < lo ∨ lo + n ≤ x) : zpt s a lo n g b x = s b x := if_neg (fun q => by omega)
theorem zpt_i {s : zSt} {a : Nat} {lo n x : Int} {g : Int → Int} (h1 : lo ≤ x) (h2 : x < lo + n) : zpt s a lo n g a x = g x := if_pos ⟨rfl, h1, h2⟩
theorem zpt_s {s : zSt} {a : Nat} {lo n : Int} {g : Int → Int} (hn : 0 ≤ n) : zv (zpt s a lo n g) a (lo + n) (g (lo + n)) = zpt s a lo (n + 1) g := by
  funext b x
  by_cases e : b = a
  · subst e
    by_cases e2 : x = lo + n
    · subst e2
      rw [zv_eq]
      exact (if_pos ⟨rfl, by omega, by omega⟩).symm
    · rw [zv_nj e2]
      by_cases e3 : lo ≤ x ∧ x < lo + n
      · rw [zpt_i e3.1 e3.2, zpt_i e3.1 (by omega)]
      · rw [zpt_o (by omega), zpt_o (by omega)]
  · rw [zv_ne e, zpt_ne e, zpt_ne e]
theorem zpt_s0 {s : zSt} {a : Nat} {n : Int} {g : Int → Int} (hn : 0 ≤ n) : zv (zpt s a 0 n g) a n (g n) = zpt s a 0 (n + 1) g := by
  have h := zpt_s (s := s) (a := a) (lo := 0) (g := g) hn
  rw [Int.zero_add] at h
  exact h
theorem m_55_5_k {c : zW} {s : zSt} {Q : Option zV → zW → Prop} (hc : zKR c) {p : Int} (hp : 0 ≤ p ∧ p ≤ 7) (h0 : 0 ≤ 84) : ∀ (jj : Nat) (k : Int), 0 ≤ k → k + (jj : Int) = 84 → zR 55 5 [some (.inr (some 194)), some (.inl p), some (.inl (96 * p + k))] [] (zmk c (zpt s 201 (96 * p) k (fun x => s 201 (x + 12)))) Q = zR 55 37 [some (.inr (some 194)), some (.inl p), some (.inl (96 * p + 84))] [] (zmk c (zpt s 201 (96 * p) 84 (fun x => s 201 (x + 12)))) Q := by
  intro jj
  induction jj with
  | zero =>
    intro k hk0 hj
    rw [show k = 84 by omega]
    rw [zr_55_5, zr_55_6, zr_55_8, zr_55_9, zr_55_10, zr_55_12, zr_55_13, zN_of (x := 96 * p + 84) (by omega) (by omega), if_pos (by omega)]
  | succ jj ih =>
    intro k hk0 hj
    rw [zr_55_5, zr_55_6, zr_55_8, zr_55_9, zr_55_10, zr_55_12, zr_55_13, zN_of (x := 96 * p + k) (by omega) (by omega), zN_of (x := ((96 * p) + 84)) (by omega) (by omega), if_neg (by omega), zr_55_16, zr_55_17 (rk_194 hc), rp_79 hc, zr_55_20, zr_55_21, zr_55_22 (rk_194 hc), rp_79 hc, zr_55_25, zr_55_26, zr_55_28, zr_55_29 (ri_201 hc (by omega) (by omega)), ra (h := 201) (j := (96 * p + k + 12)) (by decide) (by decide) (by omega) (by omega), zpt_o (s := s) (x := 96 * p + k + 12) (by omega), zr_55_30 (rs_201 hc (by omega) (by omega)), rsa (h := 201) (j := 96 * p + k) (by decide) (by decide) (by omega) (by omega), zr_55_31, zr_55_34]
    rw [zpt_s (g := fun x => s 201 (x + 12)) hk0, show 96 * p + k + 1 = 96 * p + (k + 1) by omega]
    exact ih (k + 1) (by omega) (by omega)
theorem m_55_5 {c : zW} {s : zSt} {Q : Option zV → zW → Prop} (hc : zKR c) {p : Int} (hp : 0 ≤ p ∧ p ≤ 7) (h0 : 0 ≤ 84) : zR 55 5 [some (.inr (some 194)), some (.inl p), some (.inl (96 * p + 0))] [] (zmk c s) Q = zR 55 37 [some (.inr (some 194)), some (.inl p), some (.inl (96 * p + 84))] [] (zmk c (zpt s 201 (96 * p) 84 (fun x => s 201 (x + 12)))) Q := by
  have h := m_55_5_k (s := s) (Q := Q) (p := p) hc hp h0 (Int.toNat (84)) 0 (by omega) (by omega)
  rw [zpt_0] at h
  exact h
def zlvp (s : zSt) (p : Int) : zSt := zv (zv (zpt s 201 (96 * p) 84 (fun x => s 201 (x + 12))) 200 p (s 200 p - 1)) 199 p 0
theorem m_55 {c : zW} {s : zSt} {Q : Option zV → zW → Prop} (hc : zKR c) {p : Int} (hp : 0 ≤ p ∧ p ≤ 7) : zR 55 0 [some (.inr (some 194)), some (.inl p), none] [] (zmk c s) Q = Q none (zmk c (zlvp s p)) := by
  rw [zr_55_0, zr_55_2, zr_55_3, zr_55_4]
  have h := m_55_5 (s := s) (Q := Q) hc hp (by omega)
  rw [show 96 * p + 0 = 96 * p by omega] at h
  rw [h]
  rw [zr_55_37, zr_55_38 (rk_194 hc), rp_78 hc, zr_55_41, zr_55_42, zr_55_43 (ri_200 hc (by omega) (by omega)), ra (h := 200) (j := p) (by decide) (by decide) (by omega) (by omega), zpt_ne (by decide), zr_55_44, zr_55_45, zr_55_46 (rs_200 hc (by omega) (by omega)), rsa (h := 200) (j := p) (by decide) (by decide) (by omega) (by omega), zr_55_47, zr_55_48 (rk_194 hc), rp_77 hc, zr_55_51, zr_55_52, zr_55_53 (rs_199 hc (by omega) (by omega)), rsa (h := 199) (j := p) (by decide) (by decide) (by omega) (by omega), zr_55_54]
  rfl
def zput (s : zSt) (x : Int) : zSt := (zv (zv s 224 (s 104 0) x) 104 0 (s 104 0 + 1))
theorem m_47 {c : zW} {s : zSt} {Q : Option zV → zW → Prop} (hc : zKR c) {x : Int} (hn : 0 ≤ s 104 0 ∧ s 104 0 < 16) : zR 47 0 [some (.inr (some 194)), some (.inl x)] [] (zmk c s) Q = Q none (zmk c (zput s x)) := by
  rw [zr_47_0, zr_47_1 (rk_194 hc), rp_103 hc, zr_47_4, zr_47_5 (rk_194 hc), v_f (f := 104) (by decide), zr_47_8, zr_47_9 (rs_224 hc (by omega) (by omega)), rsa (h := 224) (j := s 104 0) (by decide) (by decide) (by omega) (by omega), zr_47_10, zr_47_11, zr_47_12 (rk_194 hc), v_f (f := 104) (by decide), zv_ne (a := 224) (b := 104) (by decide), zr_47_15, zr_47_16, zr_47_17 (rk_194 hc), v_sf (f := 104) (by decide), zr_47_20]
  rfl
def zsh (x : Int) : Int := if zN (2 * x) ≤ 255 then 2 * x else zo_xor (2 * x) 263
theorem m_48 {w : zW} {Q : Option zV → zW → Prop} {x : Int} : zR 48 0 [some (.inl x), none] [] w Q = Q (some (.inl (zsh x))) w := by
  by_cases h : zN (2 * x) ≤ 255
  · rw [show zsh x = 2 * x from if_pos h]
    rw [zr_48_0, zr_48_1, zr_48_2, zr_48_3, zr_48_4, zr_48_5, zr_48_8, show zN 255 = 255 by decide, if_pos h, zr_48_19, zr_48_20]
  · rw [show zsh x = zo_xor (2 * x) 263 from if_neg h]
    rw [zr_48_0, zr_48_1, zr_48_2, zr_48_3, zr_48_4, zr_48_5, zr_48_8, show zN 255 = 255 by decide, if_neg h, zr_48_11, zr_48_12, zr_48_15, zr_48_16, zr_48_20]
def zshn : Nat → Int → Int
  | 0, x => x
  | n + 1, x => zshn n (zsh x)
def zcrc (g : Int → Int) : Nat → Int
  | 0 => 0
  | k + 1 => zshn 8 (zo_xor (zcrc g k) (g (k : Int)))
theorem m_49_26 {w : zW} {Q : Option zV → zW → Prop} {b : Int} {l3 : Option zV} : ∀ (m i : Nat) (x : Int), m + i = 8 → zR 49 26 [some (.inr (some 194)), some (.inl b), some (.inl x), l3, some (.inl (i : Int))] [] w Q = zR 49 44 [some (.inr (some 194)), some (.inl b), some (.inl (zshn m x)), l3, some (.inl 8)] [] w Q := by
  intro m
  induction m with
  | zero =>
    intro i x hm
    have hi : i = 8 := by omega
    subst hi
    rw [zr_49_26, zr_49_28, zr_49_30, if_pos (by decide)]
    rfl
  | succ m ih =>
    intro i x hm
    rw [zr_49_26, zr_49_28, zr_49_30, zN_of (x := (i : Int)) (by omega) (by omega), show zN 8 = 8 by decide, if_neg (by omega), zr_49_33, zr_49_34 (by exact Nat.le_of_ble_eq_true rfl), m_48, Option.toList_some, List.cons_append, List.nil_append, zr_49_37, zr_49_38, zr_49_41]
    exact ih (i + 1) (zsh x) (by omega)
theorem m_49_4 {c : zW} {s : zSt} {Q : Option zV → zW → Prop} (hc : zKR c) {b : Int} {n : Nat} (hn : s 104 0 - b = (n : Int)) (h16 : n ≤ 16) : ∀ (m k : Nat) (l4 : Option zV), m + k = n → zR 49 4 [some (.inr (some 194)), some (.inl b), some (.inl (zcrc (s 224) k)), some (.inl (k : Int)), l4] [] (zmk c s) Q = Q (some (.inl (zcrc (s 224) n))) (zmk c s) := by
  intro m
  induction m with
  | zero =>
    intro k l4 hm
    have hk : k = n := by omega
    subst hk
    rw [zr_49_4, zr_49_5, zr_49_6 (rk_194 hc), v_f (f := 104) (by decide), zr_49_9, zr_49_10, hn, zr_49_11, if_pos (Int.le_refl _), zr_49_50, zr_49_51]
  | succ m ih =>
    intro k l4 hm
    rw [zr_49_4, zr_49_5, zr_49_6 (rk_194 hc), v_f (f := 104) (by decide), zr_49_9, zr_49_10, hn, zr_49_11, zN_of (x := (k : Int)) (by omega) (by omega), zN_of (x := (n : Int)) (by omega) (by omega), if_neg (by omega), zr_49_14, zr_49_15, zr_49_16 (rk_194 hc), rp_103 hc, zr_49_19, zr_49_20 (ri_224 hc (by omega) (by omega)), ra (h := 224) (j := (k : Int)) (by decide) (by decide) (by omega) (by omega), zr_49_21, zr_49_22, zr_49_23, zr_49_24]
    rw [show (0 : Int) = ((0 : Nat) : Int) from rfl, m_49_26 8 0 _ (by omega)]
    rw [zr_49_44, zr_49_47]
    exact ih (k + 1) _ (by omega)
theorem m_49 {c : zW} {s : zSt} {Q : Option zV → zW → Prop} (hc : zKR c) {b : Int} {n : Nat} (hn : s 104 0 - b = (n : Int)) (h16 : n ≤ 16) : zR 49 0 [some (.inr (some 194)), some (.inl b), none, none, none] [] (zmk c s) Q = Q (some (.inl (zcrc (s 224) n))) (zmk c s) := by
  rw [zr_49_0, zr_49_1, zr_49_2, zr_49_3]
  exact m_49_4 hc hn h16 n 0 _ (by omega)
theorem m_50 {c : zW} {s : zSt} {Q : Option zV → zW → Prop} (hc : zKR c) {n : Nat} (hn : s 104 0 = (n : Int)) (h16 : n < 16) : zR 50 0 [some (.inr (some 194)), none] [] (zmk c s) Q = Q none (zmk c (zput s (zcrc (s 224) n))) := by
  rw [zr_50_0, zr_50_1, zr_50_2 (by exact Nat.le_of_ble_eq_true rfl) (rk_194 hc), m_49 hc (b := 0) (n := n) (by omega) (by omega), Option.toList_some, List.cons_append, List.nil_append, zr_50_5, zr_50_6, zr_50_7, zr_50_8 (by exact Nat.le_of_ble_eq_true rfl) (rk_194 hc), m_47 hc (by omega), Option.toList_none, List.nil_append, zr_50_11]
