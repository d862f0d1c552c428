-- the reference: a row is written, put on the wire, compared
theorem zrp_201 {s : zSt} {g : Int → Int} {j x : Int} : zrp s g j 201 x = s 201 x := zrp_o (by decide) (by decide)
theorem zaim_rp {s : zSt} {g : Int → Int} {j p : Int} : zaim (zrp s g j) p = zaim s p := by
  unfold zaim
  rw [zrp_201, zrp_o (by decide) (by decide)]
theorem zrwc_c {s : zSt} {p : Int} {n : Nat} : zrwc s p n ((4 + n : Nat) : Int) = zcrc (zrwc s p n) (4 + n) := by
  rw [show zrwc s p n ((4 + n : Nat) : Int) = zcrc (zrow s p) (4 + n) from if_neg (by omega)]
  exact (zcrc_eq (4 + n) (fun i h1 h2 => if_pos (by omega))).symm
theorem zrwc_i {s : zSt} {p x : Int} {n : Nat} (h : x < 4 + (n : Int)) : zrwc s p n x = zrow s p x := if_pos h
theorem m_52_16 {c : zW} {s : zSt} {Q : Option zV → zW → Prop} (hc : zKR c) {p : Int} {n : Nat} (hp : 0 ≤ p ∧ p ≤ 7) (hn : s 201 (96 * p + 3) = (n : Int)) (hn8 : n ≤ 8) : ∀ (jj : Nat) (k : Int), 0 ≤ k → k + (jj : Int) = 3 → zR 52 16 [some (.inr (some 194)), some (.inl p), some (.inl k)] [] (zmk c (zrp s (zrwc s p n) (1 + k))) Q = zR 52 42 [some (.inr (some 194)), some (.inl p), some (.inl 3)] [] (zmk c (zrp s (zrwc s p n) 4)) Q := by
  intro jj
  induction jj with
  | zero =>
    intro k hk0 hj
    rw [show k = 3 by omega, show (1 : Int) + 3 = 4 from rfl]
    rw [zr_52_16, zr_52_17, zr_52_18, show zN 3 = 3 by decide, if_pos (by omega)]
  | succ jj ih =>
    intro k hk0 hj
    rw [zr_52_16, zr_52_17, zr_52_18, zN_of (x := k) (by omega) (by omega), show zN 3 = 3 by decide, if_neg (by omega), zr_52_21, zr_52_22, zr_52_23 (rk_194 hc), rp_79 hc, zr_52_26, zr_52_28, zr_52_29, zr_52_30, zr_52_31, zr_52_32 (ri_201 hc (by omega) (by omega)), ra (h := 201) (j := ((96 * p) + k)) (by decide) (by decide) (by omega) (by omega), zrp_201, zr_52_33 (by exact Nat.le_of_ble_eq_true rfl) (rk_194 hc), m_47 hc (s := (zrp s (zrwc s p n) (1 + k))) (by rw [zrp_n]; omega), zput_rp (s := s) (g := (zrwc s p n)) (j := (1 + k)) (by omega) (by rw [zrwc_i (by omega), zrow, if_neg (by omega), if_pos (by omega), show 1 + k - 1 = k by omega]), Option.toList_none, List.nil_append, zr_52_36, zr_52_39]
    rw [show 1 + k + 1 = 1 + (k + 1) by omega]
    exact ih (k + 1) (by omega) (by omega)
theorem m_52_44 {c : zW} {s : zSt} {Q : Option zV → zW → Prop} (hc : zKR c) {p : Int} {n : Nat} (hp : 0 ≤ p ∧ p ≤ 7) (hn : s 201 (96 * p + 3) = (n : Int)) (hn8 : n ≤ 8) : ∀ (jj : Nat) (k : Int), 0 ≤ k → k + (jj : Int) = (n : Int) → zR 52 44 [some (.inr (some 194)), some (.inl p), some (.inl k)] [] (zmk c (zrp s (zrwc s p n) (4 + k))) Q = zR 52 82 [some (.inr (some 194)), some (.inl p), some (.inl (n : Int))] [] (zmk c (zrp s (zrwc s p n) (4 + (n : Int)))) Q := by
  intro jj
  induction jj with
  | zero =>
    intro k hk0 hj
    rw [show k = (n : Int) by omega]
    rw [zr_52_44, zr_52_45, zr_52_46 (rk_194 hc), rp_79 hc, zr_52_49, zr_52_51, zr_52_52, zr_52_53, zr_52_54, zr_52_55 (ri_201 hc (by omega) (by omega)), ra (h := 201) (j := ((96 * p) + 3)) (by decide) (by decide) (by omega) (by omega), zrp_201, hn, zr_52_56, zN_of (x := (n : Int)) (by omega) (by omega), if_pos (by omega)]
  | succ jj ih =>
    intro k hk0 hj
    rw [zr_52_44, zr_52_45, zr_52_46 (rk_194 hc), rp_79 hc, zr_52_49, zr_52_51, zr_52_52, zr_52_53, zr_52_54, zr_52_55 (ri_201 hc (by omega) (by omega)), ra (h := 201) (j := ((96 * p) + 3)) (by decide) (by decide) (by omega) (by omega), zrp_201, hn, zr_52_56, zN_of (x := k) (by omega) (by omega), zN_of (x := (n : Int)) (by omega) (by omega), if_neg (by omega), zr_52_59, zr_52_60, zr_52_61 (rk_194 hc), rp_79 hc, zr_52_64, zr_52_66, zr_52_67, zr_52_68, zr_52_69, zr_52_70, zr_52_71, zr_52_72 (ri_201 hc (by omega) (by omega)), ra (h := 201) (j := (((96 * p) + 4) + k)) (by decide) (by decide) (by omega) (by omega), zrp_201, zr_52_73 (by exact Nat.le_of_ble_eq_true rfl) (rk_194 hc), m_47 hc (s := (zrp s (zrwc s p n) (4 + k))) (by rw [zrp_n]; omega), zput_rp (s := s) (g := (zrwc s p n)) (j := (4 + k)) (by omega) (by rw [zrwc_i (by omega), zrow, if_neg (by omega), if_neg (by omega), show 96 * p + (4 + k) = 96 * p + 4 + k by omega]), Option.toList_none, List.nil_append, zr_52_76, zr_52_79]
    rw [show 4 + k + 1 = 4 + (k + 1) by omega]
    exact ih (k + 1) (by omega) (by omega)
theorem m_52 {c : zW} {s : zSt} {Q : Option zV → zW → Prop} (hc : zKR c) {p : Int} {n : Nat} (hp : 0 ≤ p ∧ p ≤ 7) (hn : s 201 (96 * p + 3) = (n : Int)) (hn8 : n ≤ 8) {to : Int} (hto : s 201 (96 * p) = to) (ht : 0 ≤ to ∧ to ≤ 255) : zR 52 0 [some (.inr (some 194)), some (.inl p), none] [] (zmk c s) Q = Q none (zmk c (zrp s (zrwc s p n) (5 + (n : Int)))) := by
  rw [zr_52_0, zr_52_1, zr_52_2 (rk_194 hc), v_sf (f := 104) (by decide), zr_52_5, zr_52_6, zr_52_7, zr_52_8 (by exact Nat.le_of_ble_eq_true rfl) (rk_194 hc), zrp_0 (g := (zrwc s p n)), m_46 hc (to := to) hp (zrp_201.trans hto) ht, zaim_rp, Option.toList_some, List.cons_append, List.nil_append, zr_52_11 (by exact Nat.le_of_ble_eq_true rfl) (rk_194 hc), m_47 hc (s := (zrp s (zrwc s p n) 0)) (by rw [zrp_n]; omega), zput_rp (s := s) (g := (zrwc s p n)) (j := 0) (by omega) (by rw [zrwc_i (by omega), zrow, if_pos rfl]), Option.toList_none, List.nil_append, zr_52_14, zr_52_15]
  have h1 := m_52_16 (s := s) (Q := Q) hc hp hn hn8 3 0 (by omega) (by omega)
  rw [show (1 : Int) + 0 = 0 + 1 from rfl] at h1
  rw [h1]
  rw [zr_52_42, zr_52_43]
  have h2 := m_52_44 (s := s) (Q := Q) hc hp hn hn8 n 0 (by omega) (by omega)
  rw [show (4 : Int) + 0 = 4 from rfl] at h2
  rw [h2, show (4 : Int) + (n : Int) = ((4 + n : Nat) : Int) by omega]
  rw [zr_52_82, zr_52_83 (by exact Nat.le_of_ble_eq_true rfl) (rk_194 hc), m_50r hc (s := s) (g := (zrwc s p n)) (n := 4 + n) (by omega) zrwc_c, Option.toList_none, List.nil_append, zr_52_86]
  rw [show ((4 + n : Nat) : Int) + 1 = 5 + (n : Int) by omega]
theorem m_51_70_k {c : zW} {s : zSt} {Q : Option zV → zW → Prop} (hc : zKR c) {b n : Int} (hb : 0 ≤ b ∧ b ≤ 1) (hn : s 104 0 = n) (h16 : n ≤ 16) (h0 : 0 ≤ n) : ∀ (jj : Nat) (k : Int), 0 ≤ k → k + (jj : Int) = n → zR 51 70 [some (.inr (some 194)), some (.inl b), some (.inl k)] [] (zmk c (zpt s 226 (16 * b) k (fun x => s 224 (x - 16 * b)))) Q = zR 51 101 [some (.inr (some 194)), some (.inl b), some (.inl n)] [] (zmk c (zpt s 226 (16 * b) n (fun x => s 224 (x - 16 * b)))) Q := by
  intro jj
  induction jj with
  | zero =>
    intro k hk0 hj_
    rw [show k = n by omega]
    rw [zr_51_70, zr_51_71, zr_51_72 (rk_194 hc), v_f (f := 104) (by decide), zpt_ne (by decide), hn, zr_51_75, zN_of (x := n) (by omega) (by omega), if_pos (by omega)]
  | succ jj ih =>
    intro k hk0 hj_
    rw [zr_51_70, zr_51_71, zr_51_72 (rk_194 hc), v_f (f := 104) (by decide), zpt_ne (by decide), hn, zr_51_75, zN_of (x := k) (by omega) (by omega), zN_of (x := n) (by omega) (by omega), if_neg (by omega), zr_51_78, zr_51_79 (rk_194 hc), rp_107 hc, zr_51_82, zr_51_84, zr_51_85, zr_51_86, zr_51_87, zr_51_88, zr_51_89 (rk_194 hc), rp_103 hc, zr_51_92, zr_51_93 (ri_224 hc (by omega) (by omega)), ra (h := 224) (j := k) (by decide) (by decide) (by omega) (by omega), zpt_ne (by decide), show s 224 k = s 224 (16 * b + k - 16 * b) by rw [show 16 * b + k - 16 * b = k by omega], zr_51_94 (rs_226 hc (by omega) (by omega)), rsa (h := 226) (j := ((16 * b) + k)) (by decide) (by decide) (by omega) (by omega), zr_51_95, zr_51_98]
    rw [zpt_s (g := fun x => s 224 (x - 16 * b)) hk0]
    exact ih (k + 1) (by omega) (by omega)
theorem m_51_70 {c : zW} {s : zSt} {Q : Option zV → zW → Prop} (hc : zKR c) {b n : Int} (hb : 0 ≤ b ∧ b ≤ 1) (hn : s 104 0 = n) (h16 : n ≤ 16) (h0 : 0 ≤ n) : zR 51 70 [some (.inr (some 194)), some (.inl b), some (.inl 0)] [] (zmk c s) Q = zR 51 101 [some (.inr (some 194)), some (.inl b), some (.inl n)] [] (zmk c (zpt s 226 (16 * b) n (fun x => s 224 (x - 16 * b)))) Q := by
  have h := m_51_70_k (s := s) (Q := Q) (b := b) (n := n) hc hb hn h16 h0 (Int.toNat (n)) 0 (by omega) (by omega)
  rw [zpt_0] at h
  exact h
def zgo1 (s : zSt) (b mk at7 : Int) (n : Nat) : zSt := if 0 < mk ∧ at7 < (n : Int) + 1 then zv s 224 at7 (zo_xor (s 224 at7) mk) else s
def zgo2 (s : zSt) (b : Int) (n : Nat) : zSt := zpt (zv (zv s 223 b 0) 227 b ((n + 1 : Nat) : Int)) 226 (16 * b) ((n + 1 : Nat) : Int) (fun x => s 224 (x - 16 * b))
theorem m_51_0 {c : zW} {s : zSt} {Q : Option zV → zW → Prop} (hc : zKR c) {b mk at7 : Int} {n : Nat} (hb : 0 ≤ b ∧ b ≤ 1) (hn : s 104 0 = ((n + 1 : Nat) : Int)) (h13 : n ≤ 12) (hmk : s 223 b = mk) (hmk2 : 0 ≤ mk ∧ mk ≤ 255) (hat : s 222 b = at7) (hat2 : 0 ≤ at7 ∧ at7 ≤ 12) : zR 51 0 [some (.inr (some 194)), some (.inl b), none] [] (zmk c s) Q = zR 51 70 [some (.inr (some 194)), some (.inl b), some (.inl 0)] [] (zmk c (zv (zv (zgo1 s b mk at7 n) 223 b 0) 227 b ((n + 1 : Nat) : Int))) Q := by
  by_cases h1 : 0 < mk
  · by_cases h2 : at7 < (n : Int) + 1
    · rw [zgo1, if_pos ⟨h1, h2⟩]
      rw [zr_51_0, zr_51_1 (rk_194 hc), rp_102 hc, zr_51_4, zr_51_5 (ri_223 hc (by omega) (by omega)), ra (h := 223) (j := b) (by decide) (by decide) (by omega) (by omega), hmk, zr_51_6, zN_of (x := mk) (by omega) (by omega), if_neg (by omega), zr_51_9, zr_51_10 (rk_194 hc), rp_101 hc, zr_51_13, zr_51_14 (ri_222 hc (by omega) (by omega)), ra (h := 222) (j := b) (by decide) (by decide) (by omega) (by omega), hat, zr_51_15, zr_51_16 (rk_194 hc), v_f (f := 104) (by decide), hn, zr_51_19, zN_of (x := at7) (by omega) (by omega), zN_of (x := ((n + 1 : Nat) : Int)) (by omega) (by omega), if_neg (by omega), zr_51_22, zr_51_23 (rk_194 hc), rp_103 hc, zr_51_26, zr_51_27 (rk_194 hc), rp_101 hc, zr_51_30, zr_51_31 (ri_222 hc (by omega) (by omega)), ra (h := 222) (j := b) (by decide) (by decide) (by omega) (by omega), hat, zr_51_32, zr_51_33 (rk_194 hc), rp_103 hc, zr_51_36, zr_51_37 (rk_194 hc), rp_101 hc, zr_51_40, zr_51_41 (ri_222 hc (by omega) (by omega)), ra (h := 222) (j := b) (by decide) (by decide) (by omega) (by omega), hat, zr_51_42 (ri_224 hc (by omega) (by omega)), ra (h := 224) (j := at7) (by decide) (by decide) (by omega) (by omega), zr_51_43, zr_51_44 (rk_194 hc), rp_102 hc, zr_51_47, zr_51_48 (ri_223 hc (by omega) (by omega)), ra (h := 223) (j := b) (by decide) (by decide) (by omega) (by omega), hmk, zr_51_49, zr_51_50 (rs_224 hc (by omega) (by omega)), rsa (h := 224) (j := at7) (by decide) (by decide) (by omega) (by omega), zr_51_51, zr_51_52 (rk_194 hc), rp_102 hc, zr_51_55, zr_51_56, zr_51_57 (rs_223 hc (by omega) (by omega)), rsa (h := 223) (j := b) (by decide) (by decide) (by omega) (by omega), zr_51_58, zr_51_59 (rk_194 hc), rp_108 hc, zr_51_62, zr_51_63, zr_51_64 (rk_194 hc), v_f (f := 104) (by decide), zv_ne (a := 223) (b := 104) (by decide), zv_ne (a := 224) (b := 104) (by decide), hn, zr_51_67 (rs_227 hc (by omega) (by omega)), rsa (h := 227) (j := b) (by decide) (by decide) (by omega) (by omega), zr_51_68, zr_51_69]
    · rw [zgo1, if_neg (fun q => h2 q.2)]
      rw [zr_51_0, zr_51_1 (rk_194 hc), rp_102 hc, zr_51_4, zr_51_5 (ri_223 hc (by omega) (by omega)), ra (h := 223) (j := b) (by decide) (by decide) (by omega) (by omega), hmk, zr_51_6, zN_of (x := mk) (by omega) (by omega), if_neg (by omega), zr_51_9, zr_51_10 (rk_194 hc), rp_101 hc, zr_51_13, zr_51_14 (ri_222 hc (by omega) (by omega)), ra (h := 222) (j := b) (by decide) (by decide) (by omega) (by omega), hat, zr_51_15, zr_51_16 (rk_194 hc), v_f (f := 104) (by decide), hn, zr_51_19, zN_of (x := at7) (by omega) (by omega), zN_of (x := ((n + 1 : Nat) : Int)) (by omega) (by omega), if_pos (by omega), zr_51_51, zr_51_52 (rk_194 hc), rp_102 hc, zr_51_55, zr_51_56, zr_51_57 (rs_223 hc (by omega) (by omega)), rsa (h := 223) (j := b) (by decide) (by decide) (by omega) (by omega), zr_51_58, zr_51_59 (rk_194 hc), rp_108 hc, zr_51_62, zr_51_63, zr_51_64 (rk_194 hc), v_f (f := 104) (by decide), zv_ne (a := 223) (b := 104) (by decide), hn, zr_51_67 (rs_227 hc (by omega) (by omega)), rsa (h := 227) (j := b) (by decide) (by decide) (by omega) (by omega), zr_51_68, zr_51_69]
  · rw [zgo1, if_neg (fun q => h1 q.1)]
    rw [zr_51_0, zr_51_1 (rk_194 hc), rp_102 hc, zr_51_4, zr_51_5 (ri_223 hc (by omega) (by omega)), ra (h := 223) (j := b) (by decide) (by decide) (by omega) (by omega), hmk, zr_51_6, zN_of (x := mk) (by omega) (by omega), if_pos (by omega), zr_51_51, zr_51_52 (rk_194 hc), rp_102 hc, zr_51_55, zr_51_56, zr_51_57 (rs_223 hc (by omega) (by omega)), rsa (h := 223) (j := b) (by decide) (by decide) (by omega) (by omega), zr_51_58, zr_51_59 (rk_194 hc), rp_108 hc, zr_51_62, zr_51_63, zr_51_64 (rk_194 hc), v_f (f := 104) (by decide), zv_ne (a := 223) (b := 104) (by decide), hn, zr_51_67 (rs_227 hc (by omega) (by omega)), rsa (h := 227) (j := b) (by decide) (by decide) (by omega) (by omega), zr_51_68, zr_51_69]
theorem m_51 {c : zW} {s : zSt} {Q : Option zV → zW → Prop} (hc : zKR c) {b mk at7 : Int} {n : Nat} (hb : 0 ≤ b ∧ b ≤ 1) (hn : s 104 0 = ((n + 1 : Nat) : Int)) (h13 : n ≤ 12) (hmk : s 223 b = mk) (hmk2 : 0 ≤ mk ∧ mk ≤ 255) (hat : s 222 b = at7) (hat2 : 0 ≤ at7 ∧ at7 ≤ 12) : zR 51 0 [some (.inr (some 194)), some (.inl b), none] [] (zmk c s) Q = Q (some (.inl (if zN (zcrc (zgo1 s b mk at7 n 224) n) = zN (zgo1 s b mk at7 n 224 (n : Int)) then 1 else 0))) (zmk c (zgo2 (zgo1 s b mk at7 n) b n)) := by
  have hg : zgo1 s b mk at7 n 104 0 = ((n + 1 : Nat) : Int) := by
    unfold zgo1
    split
    · rw [zv_ne (by decide)]; exact hn
    · exact hn
  rw [m_51_0 hc hb hn h13 hmk hmk2 hat hat2]
  generalize zgo1 s b mk at7 n = t at hg
  rw [m_51_70 hc (n := ((n + 1 : Nat) : Int)) hb (by rw [zv_ne (by decide), zv_ne (by decide)]; exact hg) (by omega) (by omega), show (fun x => zv (zv t 223 b 0) 227 b ((n + 1 : Nat) : Int) 224 (x - 16 * b)) = (fun x => t 224 (x - 16 * b)) from funext fun x => by rw [zv_ne (by decide), zv_ne (by decide)]]
  have hE : zpt (zv (zv t 223 b 0) 227 b ((n + 1 : Nat) : Int)) 226 (16 * b) ((n + 1 : Nat) : Int) (fun x => t 224 (x - 16 * b)) = zgo2 t b n := rfl
  rw [hE]
  have hU : zgo2 t b n 104 0 = ((n + 1 : Nat) : Int) := by rw [zgo2, zpt_ne (by decide), zv_ne (by decide), zv_ne (by decide)]; exact hg
  have h4 : zgo2 t b n 224 = t 224 := funext fun x => by rw [zgo2, zpt_ne (by decide), zv_ne (by decide), zv_ne (by decide)]
  rw [← h4]
  generalize zgo2 t b n = U at hU
  by_cases hx : zN (zcrc (U 224) n) ≠ zN (U 224 (n : Int))
  · rw [if_neg hx]
    rw [zr_51_101, zr_51_102, zr_51_103 (by exact Nat.le_of_ble_eq_true rfl) (rk_194 hc), m_49 hc (b := 1) (n := n) (by rw [hU]; omega) (by omega), Option.toList_some, List.cons_append, List.nil_append, zr_51_106, zr_51_107 (rk_194 hc), rp_103 hc, zr_51_110, zr_51_111 (rk_194 hc), v_f (f := 104) (by decide), hU, zr_51_114, zr_51_115, show ((n + 1 : Nat) : Int) - 1 = (n : Int) by omega, zr_51_116 (ri_224 hc (by omega) (by omega)), ra (h := 224) (j := (n : Int)) (by decide) (by decide) (by omega) (by omega), zr_51_117, if_pos hx, zr_51_124, zr_51_125 (Or.inl (by decide))]
  · rw [if_pos (Decidable.not_not.mp hx)]
    rw [zr_51_101, zr_51_102, zr_51_103 (by exact Nat.le_of_ble_eq_true rfl) (rk_194 hc), m_49 hc (b := 1) (n := n) (by rw [hU]; omega) (by omega), Option.toList_some, List.cons_append, List.nil_append, zr_51_106, zr_51_107 (rk_194 hc), rp_103 hc, zr_51_110, zr_51_111 (rk_194 hc), v_f (f := 104) (by decide), hU, zr_51_114, zr_51_115, show ((n + 1 : Nat) : Int) - 1 = (n : Int) by omega, zr_51_116 (ri_224 hc (by omega) (by omega)), ra (h := 224) (j := (n : Int)) (by decide) (by decide) (by omega) (by omega), zr_51_117, if_neg hx, zr_51_120, zr_51_121, zr_51_125 (Or.inr (by decide))]
def zlt (g h : Int → Int) (n m : Int) : Nat → Int → Int
  | 0, _ => if n < m then 1 else 0
  | k + 1, i => if zN (g i) = zN (h i) then zlt g h n m k (i + 1) else if zN (g i) < zN (h i) then 1 else 0
theorem m_53_2 {c : zW} {s : zSt} {Q : Option zV → zW → Prop} (hc : zKR c) {n m : Int} (hn : s 104 0 = n) (hm : s 106 0 = m) (hn2 : 0 ≤ n ∧ n ≤ 16) (hm2 : 0 ≤ m ∧ m ≤ 16) : ∀ (jj : Nat) (k : Int), 0 ≤ k → k + (jj : Int) = min n m → zR 53 2 [some (.inr (some 194)), some (.inl k)] [] (zmk c s) Q = Q (some (.inl (zlt (s 224) (s 225) n m jj k))) (zmk c s) := by
  intro jj
  induction jj with
  | zero =>
    intro k hk0 hj
    have key : zR 53 60 [some (.inr (some 194)), some (.inl k)] [] (zmk c s) Q = Q (some (.inl (if n < m then 1 else 0))) (zmk c s) := by
      by_cases h : n < m
      · rw [if_pos h]
        rw [zr_53_60, zr_53_61 (rk_194 hc), v_f (f := 104) (by decide), hn, zr_53_64, zr_53_65 (rk_194 hc), v_f (f := 106) (by decide), hm, zr_53_68, zN_of (x := n) (by omega) (by omega), zN_of (x := m) (by omega) (by omega), if_neg (by omega), zr_53_71, zr_53_72, zr_53_76 (Or.inr (by decide))]
      · rw [if_neg h]
        rw [zr_53_60, zr_53_61 (rk_194 hc), v_f (f := 104) (by decide), hn, zr_53_64, zr_53_65 (rk_194 hc), v_f (f := 106) (by decide), hm, zr_53_68, zN_of (x := n) (by omega) (by omega), zN_of (x := m) (by omega) (by omega), if_pos (by omega), zr_53_75, zr_53_76 (Or.inl (by decide))]
    by_cases h : n ≤ k
    · rw [zr_53_2, zr_53_3, zr_53_4 (rk_194 hc), v_f (f := 104) (by decide), hn, zr_53_7, zN_of (x := k) (by omega) (by omega), zN_of (x := n) (by omega) (by omega), if_pos (by omega)]
      exact key
    · rw [zr_53_2, zr_53_3, zr_53_4 (rk_194 hc), v_f (f := 104) (by decide), hn, zr_53_7, zN_of (x := k) (by omega) (by omega), zN_of (x := n) (by omega) (by omega), if_neg (by omega), zr_53_10, zr_53_11, zr_53_12 (rk_194 hc), v_f (f := 106) (by decide), hm, zr_53_15, zN_of (x := k) (by omega) (by omega), zN_of (x := m) (by omega) (by omega), if_pos (by omega)]
      exact key
  | succ jj ih =>
    intro k hk0 hj
    rw [zlt]
    by_cases h1 : zN (s 224 k) = zN (s 225 k)
    · rw [if_pos h1]
      rw [zr_53_2, zr_53_3, zr_53_4 (rk_194 hc), v_f (f := 104) (by decide), hn, zr_53_7, zN_of (x := k) (by omega) (by omega), zN_of (x := n) (by omega) (by omega), if_neg (by omega), zr_53_10, zr_53_11, zr_53_12 (rk_194 hc), v_f (f := 106) (by decide), hm, zr_53_15, zN_of (x := k) (by omega) (by omega), zN_of (x := m) (by omega) (by omega), if_neg (by omega), zr_53_18, zr_53_19 (rk_194 hc), rp_103 hc, zr_53_22, zr_53_23 (ri_224 hc (by omega) (by omega)), ra (h := 224) (j := k) (by decide) (by decide) (by omega) (by omega), zr_53_24, zr_53_25 (rk_194 hc), rp_105 hc, zr_53_28, zr_53_29 (ri_225 hc (by omega) (by omega)), ra (h := 225) (j := k) (by decide) (by decide) (by omega) (by omega), zr_53_30, if_pos h1, zr_53_54, zr_53_57]
      exact ih (k + 1) (by omega) (by omega)
    · rw [if_neg h1]
      by_cases h2 : zN (s 224 k) < zN (s 225 k)
      · rw [if_pos h2]
        rw [zr_53_2, zr_53_3, zr_53_4 (rk_194 hc), v_f (f := 104) (by decide), hn, zr_53_7, zN_of (x := k) (by omega) (by omega), zN_of (x := n) (by omega) (by omega), if_neg (by omega), zr_53_10, zr_53_11, zr_53_12 (rk_194 hc), v_f (f := 106) (by decide), hm, zr_53_15, zN_of (x := k) (by omega) (by omega), zN_of (x := m) (by omega) (by omega), if_neg (by omega), zr_53_18, zr_53_19 (rk_194 hc), rp_103 hc, zr_53_22, zr_53_23 (ri_224 hc (by omega) (by omega)), ra (h := 224) (j := k) (by decide) (by decide) (by omega) (by omega), zr_53_24, zr_53_25 (rk_194 hc), rp_105 hc, zr_53_28, zr_53_29 (ri_225 hc (by omega) (by omega)), ra (h := 225) (j := k) (by decide) (by decide) (by omega) (by omega), zr_53_30, if_neg h1, zr_53_33, zr_53_34 (rk_194 hc), rp_103 hc, zr_53_37, zr_53_38 (ri_224 hc (by omega) (by omega)), ra (h := 224) (j := k) (by decide) (by decide) (by omega) (by omega), zr_53_39, zr_53_40 (rk_194 hc), rp_105 hc, zr_53_43, zr_53_44 (ri_225 hc (by omega) (by omega)), ra (h := 225) (j := k) (by decide) (by decide) (by omega) (by omega), zr_53_45, if_neg (by omega), zr_53_48, zr_53_49, zr_53_53 (Or.inr (by decide))]
      · rw [if_neg h2]
        rw [zr_53_2, zr_53_3, zr_53_4 (rk_194 hc), v_f (f := 104) (by decide), hn, zr_53_7, zN_of (x := k) (by omega) (by omega), zN_of (x := n) (by omega) (by omega), if_neg (by omega), zr_53_10, zr_53_11, zr_53_12 (rk_194 hc), v_f (f := 106) (by decide), hm, zr_53_15, zN_of (x := k) (by omega) (by omega), zN_of (x := m) (by omega) (by omega), if_neg (by omega), zr_53_18, zr_53_19 (rk_194 hc), rp_103 hc, zr_53_22, zr_53_23 (ri_224 hc (by omega) (by omega)), ra (h := 224) (j := k) (by decide) (by decide) (by omega) (by omega), zr_53_24, zr_53_25 (rk_194 hc), rp_105 hc, zr_53_28, zr_53_29 (ri_225 hc (by omega) (by omega)), ra (h := 225) (j := k) (by decide) (by decide) (by omega) (by omega), zr_53_30, if_neg h1, zr_53_33, zr_53_34 (rk_194 hc), rp_103 hc, zr_53_37, zr_53_38 (ri_224 hc (by omega) (by omega)), ra (h := 224) (j := k) (by decide) (by decide) (by omega) (by omega), zr_53_39, zr_53_40 (rk_194 hc), rp_105 hc, zr_53_43, zr_53_44 (ri_225 hc (by omega) (by omega)), ra (h := 225) (j := k) (by decide) (by decide) (by omega) (by omega), zr_53_45, if_pos (by omega), zr_53_52, zr_53_53 (Or.inl (by decide))]
theorem m_53 {c : zW} {s : zSt} {Q : Option zV → zW → Prop} (hc : zKR c) {n m : Int} (hn : s 104 0 = n) (hm : s 106 0 = m) (hn2 : 0 ≤ n ∧ n ≤ 16) (hm2 : 0 ≤ m ∧ m ≤ 16) : zR 53 0 [some (.inr (some 194)), none] [] (zmk c s) Q = Q (some (.inl (zlt (s 224) (s 225) n m (min n m).toNat 0))) (zmk c s) := by
  rw [zr_53_0, zr_53_1]
  exact m_53_2 hc hn hm hn2 hm2 (min n m).toNat 0 (by omega) (by omega)
