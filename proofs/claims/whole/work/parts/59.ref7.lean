-- the reference: where a packet is aimed at, rows, comparing them
def zaim (s : zSt) (p : Int) : Int := if p = 7 then s 201 (96 * p) - 16 else if 0 < p then 8 else if 32 ≤ s 201 (96 * p) then s 100 0 else s 201 (96 * p) + 7
theorem m_46 {c : zW} {s : zSt} {Q : Option zV → zW → Prop} (hc : zKR c) {p to : Int} (hp : 0 ≤ p ∧ p ≤ 7) (hto : s 201 (96 * p) = to) (ht : 0 ≤ to ∧ to ≤ 255) : zR 46 0 [some (.inr (some 194)), some (.inl p), none] [] (zmk c s) Q = Q (some (.inl (zaim s p))) (zmk c s) := by
  rw [zr_46_0, zr_46_1 (rk_194 hc), rp_79 hc, zr_46_4, zr_46_6, zr_46_7, zr_46_8 (ri_201 hc (by omega) (by omega)), ra (h := 201) (j := (96 * p)) (by decide) (by decide) (by omega) (by omega), hto, zr_46_9, zr_46_10, zr_46_11, zr_46_13]
  by_cases hb0 : p ≠ 7
  · rw [zN_of (x := p) (by omega) (by omega), show zN 7 = 7 by decide, if_pos hb0, zr_46_21, zr_46_22]
    by_cases hb1 : p ≤ 0
    · rw [zN_of (x := p) (by omega) (by omega), if_pos hb1, zr_46_28, zr_46_29, zr_46_31]
      by_cases hb2 : to < 32
      · rw [zN_of (x := to) (by omega) (by omega), show zN 32 = 32 by decide, if_pos hb2, zr_46_41, zr_46_42, zr_46_44, zr_46_45]
        rw [zaim, if_neg (by omega), if_neg (by omega), if_neg (by omega), hto]
      · rw [zN_of (x := to) (by omega) (by omega), show zN 32 = 32 by decide, if_neg hb2, zr_46_34, zr_46_35 (rk_194 hc), v_f (f := 100) (by decide), zr_46_38, zr_46_45]
        rw [zaim, if_neg (by omega), if_neg (by omega), if_pos (by omega)]
    · rw [zN_of (x := p) (by omega) (by omega), if_neg hb1, zr_46_25, zr_46_27]
      rw [zaim, if_neg (by omega), if_pos (by omega)]
  · rw [zN_of (x := p) (by omega) (by omega), show zN 7 = 7 by decide, if_neg hb0, zr_46_16, zr_46_17, zr_46_19, zr_46_20]
    rw [zaim, if_pos (by omega), hto]
def zrp (s : zSt) (g : Int → Int) (j : Int) : zSt := zv (zpt s 224 0 j g) 104 0 j
theorem zrp_o {s : zSt} {g : Int → Int} {j : Int} {a : Nat} {x : Int} (h1 : a ≠ 224) (h2 : a ≠ 104) : zrp s g j a x = s a x := by
  rw [zrp, zv_ne h2, zpt_ne h1]
theorem zrp_n {s : zSt} {g : Int → Int} {j : Int} : zrp s g j 104 0 = j := zv_eq
theorem zrp_g {s : zSt} {g : Int → Int} {j x : Int} (h1 : 0 ≤ x) (h2 : x < j) : zrp s g j 224 x = g x := by
  rw [zrp, zv_ne (by decide), zpt_i h1 (by omega)]
theorem zv_zv {s : zSt} {a : Nat} {j x y : Int} : zv (zv s a j x) a j y = zv s a j y := by
  funext b k
  by_cases e : b = a
  · subst e
    by_cases e2 : k = j
    · subst e2
      rw [zv_eq, zv_eq]
    · rw [zv_nj e2, zv_nj e2, zv_nj e2]
  · rw [zv_ne e, zv_ne e, zv_ne e]
theorem zv_cm {s : zSt} {a b : Nat} {i j x y : Int} (h : a ≠ b) : zv (zv s a i x) b j y = zv (zv s b j y) a i x := by
  funext d k
  by_cases e : d = b
  · subst e
    by_cases e2 : k = j
    · subst e2
      rw [zv_eq, zv_ne (Ne.symm h), zv_eq]
    · rw [zv_nj e2, zv_ne (Ne.symm h), zv_ne (Ne.symm h), zv_nj e2]
  · rw [zv_ne e]
    by_cases e3 : d = a
    · subst e3
      by_cases e4 : k = i
      · subst e4
        rw [zv_eq, zv_eq]
      · rw [zv_nj e4, zv_nj e4, zv_ne e]
    · rw [zv_ne e3, zv_ne e3, zv_ne e]
theorem zput_rp {s : zSt} {g : Int → Int} {j x : Int} (hj : 0 ≤ j) (hx : x = g j) : zput (zrp s g j) x = zrp s g (j + 1) := by
  rw [zput, zrp_n, hx, zrp, zv_cm (show (104 : Nat) ≠ 224 by decide), zv_zv, zpt_s0 hj]
  rfl
theorem zrp_0 {s : zSt} {g : Int → Int} : zv s 104 0 0 = zrp s g 0 := by
  rw [zrp, zpt_0]
theorem zcrc_eq {g h : Int → Int} : ∀ n : Nat, (∀ i : Int, 0 ≤ i → i < n → g i = h i) → zcrc g n = zcrc h n
  | 0, _ => rfl
  | n + 1, e => by
    rw [zcrc, zcrc, zcrc_eq n (fun i h1 h2 => e i h1 (by omega)), e (n : Int) (by omega) (by omega)]
-- the row of the first packet that waits at port p: n bytes
def zrow (s : zSt) (p : Int) (x : Int) : Int := if x = 0 then zaim s p else if x < 4 then s 201 (96 * p + (x - 1)) else s 201 (96 * p + x)
def zrwc (s : zSt) (p : Int) (n : Nat) (x : Int) : Int := if x < 4 + (n : Int) then zrow s p x else zcrc (zrow s p) (4 + n)
theorem m_50r {c : zW} {s : zSt} {Q : Option zV → zW → Prop} (hc : zKR c) {g : Int → Int} {n : Nat} (hn : n < 16) (hg : g (n : Int) = zcrc g n) : zR 50 0 [some (.inr (some 194)), none] [] (zmk c (zrp s g (n : Int))) Q = Q none (zmk c (zrp s g ((n : Int) + 1))) := by
  rw [m_50 hc (n := n) zrp_n hn, zput_rp (by omega) ((zcrc_eq n (fun i h1 h2 => zrp_g h1 h2)).trans hg.symm)]
