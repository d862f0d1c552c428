-- the reference: the log, requests that are answered, packets that are passed on
theorem m_42_11_k {c : zW} {s : zSt} {Q : Option zV → zW → Prop} (hc : zKR c) {l1 : Option zV}  (h0 : 0 ≤ 45) : ∀ (jj : Nat) (k : Int), 0 ≤ k → k + (jj : Int) = 45 → zR 42 11 [some (.inr (some 194)), l1, some (.inl k)] [] (zmk c (zpt s 239 0 k (fun x => s 239 (x + 3)))) Q = zR 42 37 [some (.inr (some 194)), l1, some (.inl 45)] [] (zmk c (zpt s 239 0 45 (fun x => s 239 (x + 3)))) Q := by
  intro jj
  induction jj with
  | zero =>
    intro k hk0 hj
    rw [show k = 45 by omega]
    rw [zr_42_11, zr_42_12, zr_42_14, show zN 45 = 45 by decide, if_pos (by omega)]
  | succ jj ih =>
    intro k hk0 hj
    rw [zr_42_11, zr_42_12, zr_42_14, zN_of (x := k) (by omega) (by omega), show zN 45 = 45 by decide, if_neg (by omega), zr_42_17, zr_42_18 (rk_194 hc), rp_123 hc, zr_42_21, zr_42_22, zr_42_23 (rk_194 hc), rp_123 hc, zr_42_26, zr_42_27, zr_42_28, zr_42_29 (ri_239 hc (by omega) (by omega)), ra (h := 239) (j := (k + 3)) (by decide) (by decide) (by omega) (by omega), zpt_o (x := k + 3) (by omega), zr_42_30 (rs_239 hc (by omega) (by omega)), rsa (h := 239) (j := k) (by decide) (by decide) (by omega) (by omega), zr_42_31, zr_42_34]
    rw [zpt_s0 (g := fun x => s 239 (x + 3)) hk0]
    exact ih (k + 1) (by omega) (by omega)
theorem m_42_11 {c : zW} {s : zSt} {Q : Option zV → zW → Prop} (hc : zKR c) {l1 : Option zV}  (h0 : 0 ≤ 45) : zR 42 11 [some (.inr (some 194)), l1, some (.inl 0)] [] (zmk c s) Q = zR 42 37 [some (.inr (some 194)), l1, some (.inl 45)] [] (zmk c (zpt s 239 0 45 (fun x => s 239 (x + 3)))) Q := by
  have h := m_42_11_k (s := s) (Q := Q) (l1 := l1) hc  h0 (Int.toNat (45)) 0 (by omega) (by omega)
  rw [zpt_0] at h
  exact h
def zlg (s : zSt) (f v x l : Int) : zSt := zv (zv (zv (zv s 239 (3 * l) f) 239 (3 * l + 1) v) 239 (3 * l + 2) x) 122 0 (l + 1)
theorem m_42_47 {c : zW} {s : zSt} {Q : Option zV → zW → Prop} (hc : zKR c) {f v x y l : Int} {l2 : Option zV} (hl : s 122 0 = l) (hl2 : 0 ≤ l ∧ l ≤ 15) (h1 : s 229 1 = v) (h2 : s 229 2 = x) (h3 : s 229 3 = y) (hx : 0 ≤ x ∧ x ≤ 255) (hy : 0 ≤ y ∧ y ≤ 255) : zR 42 47 [some (.inr (some 194)), some (.inl f), l2] [] (zmk c s) Q = Q none (zmk c (zlg s f v (ztw x y) l)) := by
  rw [zr_42_47, zr_42_48 (rk_194 hc), rp_123 hc, zr_42_51, zr_42_52, zr_42_53 (rk_194 hc), v_f (f := 122) (by decide), hl, zr_42_56, zr_42_57, zr_42_58 (rs_239 hc (by omega) (by omega)), rsa (h := 239) (j := (3 * l)) (by decide) (by decide) (by omega) (by omega), zr_42_59, zr_42_60 (rk_194 hc), rp_123 hc, zr_42_63, zr_42_64, zr_42_65 (rk_194 hc), v_f (f := 122) (by decide), zv_ne (a := 239) (b := 122) (by decide), hl, zr_42_68, zr_42_69, zr_42_70, zr_42_71, zr_42_72 (rk_194 hc), rp_110 hc, zr_42_75, zr_42_76 (ri_229 hc (by omega) (by omega)), ra (h := 229) (j := 1) (by decide) (by decide) (by omega) (by omega), zv_ne (a := 239) (b := 229) (by decide), h1, zr_42_77 (rs_239 hc (by omega) (by omega)), rsa (h := 239) (j := ((3 * l) + 1)) (by decide) (by decide) (by omega) (by omega), zr_42_78, zr_42_79 (rk_194 hc), rp_123 hc, zr_42_82, zr_42_83, zr_42_84 (rk_194 hc), v_f (f := 122) (by decide), zv_ne (a := 239) (b := 122) (by decide), zv_ne (a := 239) (b := 122) (by decide), hl, zr_42_87, zr_42_88, zr_42_89, zr_42_90, zr_42_91, zr_42_92 (by exact Nat.le_of_ble_eq_true rfl) (rk_194 hc), m_39 hc (k := 2) (x := x) (y := y) (by omega) (by rw [zv_ne (by decide), zv_ne (by decide)]; exact h2) (by rw [zv_ne (by decide), zv_ne (by decide)]; exact h3) hx hy, Option.toList_some, List.cons_append, List.nil_append, zr_42_95 (rs_239 hc (by omega) (by omega)), rsa (h := 239) (j := ((3 * l) + 2)) (by decide) (by decide) (by omega) (by omega), zr_42_96, zr_42_97, zr_42_98 (rk_194 hc), v_f (f := 122) (by decide), zv_ne (a := 239) (b := 122) (by decide), zv_ne (a := 239) (b := 122) (by decide), zv_ne (a := 239) (b := 122) (by decide), hl, zr_42_101, zr_42_102, zr_42_103 (rk_194 hc), v_sf (f := 122) (by decide), zr_42_106]
  rfl
theorem m_42 {c : zW} {s : zSt} {Q : Option zV → zW → Prop} (hc : zKR c) {f v x y l : Int} (hl : s 122 0 = l) (hl2 : 0 ≤ l ∧ l ≤ 15) (h1 : s 229 1 = v) (h2 : s 229 2 = x) (h3 : s 229 3 = y) (hx : 0 ≤ x ∧ x ≤ 255) (hy : 0 ≤ y ∧ y ≤ 255) : zR 42 0 [some (.inr (some 194)), some (.inl f), none] [] (zmk c s) Q = Q none (zmk c (zlg s f v (ztw x y) l)) := by
  rw [zr_42_0, zr_42_1 (rk_194 hc), v_f (f := 122) (by decide), hl, zr_42_4, zr_42_6, zN_of (x := l) (by omega) (by omega), show zN 16 = 16 by decide, if_pos (by omega)]
  exact m_42_47 hc hl hl2 h1 h2 h3 hx hy
theorem m_42f {c : zW} {s : zSt} {Q : Option zV → zW → Prop} (hc : zKR c) {f v x y : Int} (hl : s 122 0 = 16) (h1 : s 229 1 = v) (h2 : s 229 2 = x) (h3 : s 229 3 = y) (hx : 0 ≤ x ∧ x ≤ 255) (hy : 0 ≤ y ∧ y ≤ 255) : zR 42 0 [some (.inr (some 194)), some (.inl f), none] [] (zmk c s) Q = Q none (zmk c (zlg (zv (zpt s 239 0 45 (fun x => s 239 (x + 3))) 122 0 15) f v (ztw x y) 15)) := by
  rw [zr_42_0, zr_42_1 (rk_194 hc), v_f (f := 122) (by decide), hl, zr_42_4, zr_42_6, show zN 16 = 16 by decide, if_neg (by omega), zr_42_9, zr_42_10]
  rw [m_42_11 hc (by omega)]
  have hz : (zpt s 239 0 45 (fun x => s 239 (x + 3))) 122 0 = 16 := by rw [zpt_ne (by decide)]; exact hl
  rw [zr_42_37, zr_42_38, zr_42_39 (rk_194 hc), v_f (f := 122) (by decide), hz, zr_42_42, zr_42_43, show (16 : Int) - 1 = 15 from rfl, zr_42_44 (rk_194 hc), v_sf (f := 122) (by decide)]
  exact m_42_47 hc zv_eq (by omega) (by rw [zv_ne (by decide), zpt_ne (by decide)]; exact h1) (by rw [zv_ne (by decide), zpt_ne (by decide)]; exact h2) (by rw [zv_ne (by decide), zpt_ne (by decide)]; exact h3) hx hy
theorem m_43_end {c : zW} {s : zSt} {Q : Option zV → zW → Prop} (hc : zKR c) {f t : Int} {n : Nat} {l4 : Option zV} (hn : s 113 0 = (n : Int)) (hn2 : n ≤ 40) : zR 43 2 [some (.inr (some 194)), some (.inl f), some (.inl t), some (.inl (n : Int)), l4] [] (zmk c s) Q = Q none (zmk c s) := by
  rw [zr_43_2, zr_43_3, zr_43_4 (rk_194 hc), v_f (f := 113) (by decide), hn, zr_43_7, zN_of (x := (n : Int)) (by omega) (by omega), if_pos (by omega), zr_43_99]
theorem m_43_skip {c : zW} {s : zSt} {Q : Option zV → zW → Prop} (hc : zKR c) {f t : Int} {n r : Nat} {l4 : Option zV} (hn : s 113 0 = (n : Int)) (hn2 : n ≤ 40) (hr : r < n) (hs : 0 ≤ s 234 (r : Int) ∧ s 234 (r : Int) ≤ 3) (ha : 0 ≤ s 231 (r : Int) ∧ s 231 (r : Int) ≤ 63) (hf : 0 ≤ f ∧ f ≤ 63) (ht : 0 ≤ t ∧ t ≤ 15) (hno : ¬ (s 234 (r : Int) = 1 ∧ s 231 (r : Int) = f ∧ ((r % 8 : Nat) : Int) = t)) : zR 43 2 [some (.inr (some 194)), some (.inl f), some (.inl t), some (.inl (r : Int)), l4] [] (zmk c s) Q = zR 43 2 [some (.inr (some 194)), some (.inl f), some (.inl t), some (.inl ((r + 1 : Nat) : Int)), l4] [] (zmk c s) Q := by
  rw [zr_43_2, zr_43_3, zr_43_4 (rk_194 hc), v_f (f := 113) (by decide), hn, zr_43_7, zN_of (x := (r : Int)) (by omega) (by omega), zN_of (x := (n : Int)) (by omega) (by omega), if_neg (by omega), zr_43_10, zr_43_11 (rk_194 hc), rp_117 hc, zr_43_14, zr_43_15 (ri_234 hc (by omega) (by omega)), ra (h := 234) (j := (r : Int)) (by decide) (by decide) (by omega) (by omega), zr_43_16, zr_43_17]
  by_cases hb0 : s 234 (r : Int) ≠ 1
  · rw [zN_of (x := s 234 (r : Int)) (by omega) (by omega), show zN 1 = 1 by decide, if_pos hb0, zr_43_93, zr_43_96]
    rfl
  · rw [zN_of (x := s 234 (r : Int)) (by omega) (by omega), show zN 1 = 1 by decide, if_neg hb0, zr_43_20, zr_43_21 (rk_194 hc), rp_114 hc, zr_43_24, zr_43_25 (ri_231 hc (by omega) (by omega)), ra (h := 231) (j := (r : Int)) (by decide) (by decide) (by omega) (by omega), zr_43_26, zr_43_27]
    by_cases hb1 : s 231 (r : Int) ≠ f
    · rw [zN_of (x := s 231 (r : Int)) (by omega) (by omega), zN_of (x := f) (by omega) (by omega), if_pos hb1, zr_43_93, zr_43_96]
      rfl
    · rw [zN_of (x := s 231 (r : Int)) (by omega) (by omega), zN_of (x := f) (by omega) (by omega), if_neg hb1, zr_43_30, zr_43_31, zr_43_33 (by decide), z_rem8 r (by omega), zr_43_34, zr_43_35]
      by_cases hb2 : ((r % 8 : Nat) : Int) ≠ t
      · rw [zN_of (x := ((r % 8 : Nat) : Int)) (by omega) (by omega), zN_of (x := t) (by omega) (by omega), if_pos hb2, zr_43_93, zr_43_96]
        rfl
      · rw [zN_of (x := ((r % 8 : Nat) : Int)) (by omega) (by omega), zN_of (x := t) (by omega) (by omega), if_neg hb2, zr_43_38, zr_43_39 (rk_194 hc), rp_117 hc, zr_43_42, zr_43_43, zr_43_44 (rs_234 hc (by omega) (by omega)), rsa (h := 234) (j := (r : Int)) (by decide) (by decide) (by omega) (by omega), zr_43_45, zr_43_46 (rk_194 hc), rp_120 hc, zr_43_49, zr_43_50, zr_43_51 (rk_194 hc), v_f (f := 111) (by decide), zv_ne (a := 234) (b := 111) (by decide), zr_43_54 (rs_237 hc (by omega) (by omega)), rsa (h := 237) (j := (r : Int)) (by decide) (by decide) (by omega) (by omega), zr_43_55, zr_43_56]
        exact absurd (by omega) hno
theorem m_43_58_k {c : zW} {s : zSt} {Q : Option zV → zW → Prop} (hc : zKR c) {r m : Int} {l1 l2 : Option zV} (hr : 0 ≤ r ∧ r ≤ 39) (hm : s 111 0 = m) (h32 : m ≤ 32) (h0 : 0 ≤ m) : ∀ (jj : Nat) (k : Int), 0 ≤ k → k + (jj : Int) = m → zR 43 58 [some (.inr (some 194)), l1, l2, some (.inl r), some (.inl k)] [] (zmk c (zpt s 238 (32 * r) k (fun x => s 229 (x - 32 * r)))) Q = zR 43 92 [some (.inr (some 194)), l1, l2, some (.inl r), some (.inl m)] [] (zmk c (zpt s 238 (32 * r) m (fun x => s 229 (x - 32 * r)))) Q := by
  intro jj
  induction jj with
  | zero =>
    intro k hk0 hj
    rw [show k = m by omega]
    rw [zr_43_58, zr_43_60, zr_43_61 (rk_194 hc), v_f (f := 111) (by decide), zpt_ne (by decide), hm, zr_43_64, zN_of (x := m) (by omega) (by omega), if_pos (by omega)]
  | succ jj ih =>
    intro k hk0 hj
    rw [zr_43_58, zr_43_60, zr_43_61 (rk_194 hc), v_f (f := 111) (by decide), zpt_ne (by decide), hm, zr_43_64, zN_of (x := k) (by omega) (by omega), zN_of (x := m) (by omega) (by omega), if_neg (by omega), zr_43_67, zr_43_68 (rk_194 hc), rp_121 hc, zr_43_71, zr_43_73, zr_43_74, zr_43_75, zr_43_77, zr_43_78, zr_43_79 (rk_194 hc), rp_110 hc, zr_43_82, zr_43_84 (ri_229 hc (by omega) (by omega)), ra (h := 229) (j := k) (by decide) (by decide) (by omega) (by omega), zpt_ne (by decide), show s 229 k = s 229 (32 * r + k - 32 * r) by rw [show 32 * r + k - 32 * r = k by omega], zr_43_85 (rs_238 hc (by omega) (by omega)), rsa (h := 238) (j := ((32 * r) + k)) (by decide) (by decide) (by omega) (by omega), zr_43_86, zr_43_89]
    rw [zpt_s (g := fun x => s 229 (x - 32 * r)) hk0]
    exact ih (k + 1) (by omega) (by omega)
theorem m_43_58 {c : zW} {s : zSt} {Q : Option zV → zW → Prop} (hc : zKR c) {r m : Int} {l1 l2 : Option zV} (hr : 0 ≤ r ∧ r ≤ 39) (hm : s 111 0 = m) (h32 : m ≤ 32) (h0 : 0 ≤ m) : zR 43 58 [some (.inr (some 194)), l1, l2, some (.inl r), some (.inl 0)] [] (zmk c s) Q = zR 43 92 [some (.inr (some 194)), l1, l2, some (.inl r), some (.inl m)] [] (zmk c (zpt s 238 (32 * r) m (fun x => s 229 (x - 32 * r)))) Q := by
  have h := m_43_58_k (s := s) (Q := Q) (r := r) (m := m) (l1 := l1) (l2 := l2) hc hr hm h32 h0 (Int.toNat (m)) 0 (by omega) (by omega)
  rw [zpt_0] at h
  exact h
def zan (s : zSt) (r m : Int) : zSt := zpt (zv (zv s 234 r 2) 237 r m) 238 (32 * r) m (fun x => s 229 (x - 32 * r))
theorem m_43_hit {c : zW} {s : zSt} {Q : Option zV → zW → Prop} (hc : zKR c) {f t m : Int} {n r : Nat} {l4 : Option zV} (hn : s 113 0 = (n : Int)) (hn2 : n ≤ 40) (hr : r < n) (hs : 0 ≤ s 234 (r : Int) ∧ s 234 (r : Int) ≤ 3) (ha : 0 ≤ s 231 (r : Int) ∧ s 231 (r : Int) ≤ 63) (hf : 0 ≤ f ∧ f ≤ 63) (ht : 0 ≤ t ∧ t ≤ 15) (hm : s 111 0 = m) (hm0 : 0 ≤ m ∧ m ≤ 32) (hyes : s 234 (r : Int) = 1 ∧ s 231 (r : Int) = f ∧ ((r % 8 : Nat) : Int) = t) : zR 43 2 [some (.inr (some 194)), some (.inl f), some (.inl t), some (.inl (r : Int)), l4] [] (zmk c s) Q = Q none (zmk c (zan s (r : Int) m)) := by
  rw [zr_43_2, zr_43_3, zr_43_4 (rk_194 hc), v_f (f := 113) (by decide), hn, zr_43_7, zN_of (x := (r : Int)) (by omega) (by omega), zN_of (x := (n : Int)) (by omega) (by omega), if_neg (by omega), zr_43_10, zr_43_11 (rk_194 hc), rp_117 hc, zr_43_14, zr_43_15 (ri_234 hc (by omega) (by omega)), ra (h := 234) (j := (r : Int)) (by decide) (by decide) (by omega) (by omega), zr_43_16, zr_43_17, zN_of (x := s 234 (r : Int)) (by omega) (by omega), show zN 1 = 1 by decide, if_neg (by omega), zr_43_20, zr_43_21 (rk_194 hc), rp_114 hc, zr_43_24, zr_43_25 (ri_231 hc (by omega) (by omega)), ra (h := 231) (j := (r : Int)) (by decide) (by decide) (by omega) (by omega), zr_43_26, zr_43_27, zN_of (x := s 231 (r : Int)) (by omega) (by omega), zN_of (x := f) (by omega) (by omega), if_neg (by omega), zr_43_30, zr_43_31, zr_43_33 (by decide), z_rem8 r (by omega), zr_43_34, zr_43_35, zN_of (x := ((r % 8 : Nat) : Int)) (by omega) (by omega), zN_of (x := t) (by omega) (by omega), if_neg (by omega), zr_43_38, zr_43_39 (rk_194 hc), rp_117 hc, zr_43_42, zr_43_43, zr_43_44 (rs_234 hc (by omega) (by omega)), rsa (h := 234) (j := (r : Int)) (by decide) (by decide) (by omega) (by omega), zr_43_45, zr_43_46 (rk_194 hc), rp_120 hc, zr_43_49, zr_43_50, zr_43_51 (rk_194 hc), v_f (f := 111) (by decide), zv_ne (a := 234) (b := 111) (by decide), hm, zr_43_54 (rs_237 hc (by omega) (by omega)), rsa (h := 237) (j := (r : Int)) (by decide) (by decide) (by omega) (by omega), zr_43_55, zr_43_56]
  rw [m_43_58 hc (m := m) (by omega) (by rw [zv_ne (by decide), zv_ne (by decide)]; exact hm) hm0.2 hm0.1, zr_43_92, show (fun x => zv (zv s 234 (r : Int) 2) 237 (r : Int) m 229 (x - 32 * (r : Int))) = (fun x => s 229 (x - 32 * (r : Int))) from funext fun x => by rw [zv_ne (by decide), zv_ne (by decide)]]
  rfl
