-- the reference: requests are sent, sensors, events
theorem m_35_12s_k {c : zW} {s : zSt} {Q : Option zV → zW → Prop} (hc : zKR c) {r n : Int} (hn : s 111 0 = n) (hr : 0 ≤ r ∧ r ≤ 39) (h32 : n ≤ 32) (h0 : 0 ≤ n) : ∀ (jj : Nat) (k : Int), 0 ≤ k → k + (jj : Int) = n → zR 35 12 [some (.inr (some 194)), some (.inl r), some (.inl k)] [] (zmk c (zpt s 229 0 k (fun x => s 233 (32 * r + x)))) Q = zR 35 43 [some (.inr (some 194)), some (.inl r), some (.inl n)] [] (zmk c (zpt s 229 0 n (fun x => s 233 (32 * r + x)))) Q := by
  intro jj
  induction jj with
  | zero =>
    intro k hk0 hj
    rw [show k = n by omega]
    rw [zr_35_12, zr_35_13, zr_35_14 (rk_194 hc), v_f (f := 111) (by decide), zpt_ne (by decide), hn, zr_35_17, zN_of (x := n) (by omega) (by omega), if_pos (by omega)]
  | succ jj ih =>
    intro k hk0 hj
    rw [zr_35_12, zr_35_13, zr_35_14 (rk_194 hc), v_f (f := 111) (by decide), zpt_ne (by decide), hn, zr_35_17, zN_of (x := k) (by omega) (by omega), zN_of (x := n) (by omega) (by omega), if_neg (by omega), zr_35_20, zr_35_21 (rk_194 hc), rp_110 hc, zr_35_24, zr_35_25, zr_35_26 (rk_194 hc), rp_116 hc, zr_35_29, zr_35_31, zr_35_32, zr_35_33, zr_35_34, zr_35_35 (ri_233 hc (by omega) (by omega)), ra (h := 233) (j := ((32 * r) + k)) (by decide) (by decide) (by omega) (by omega), zpt_ne (by decide), zr_35_36 (rs_229 hc (by omega) (by omega)), rsa (h := 229) (j := k) (by decide) (by decide) (by omega) (by omega), zr_35_37, zr_35_40]
    rw [zpt_s0 (g := fun x => s 233 (32 * r + x)) hk0]
    exact ih (k + 1) (by omega) (by omega)
theorem m_35_12s {c : zW} {s : zSt} {Q : Option zV → zW → Prop} (hc : zKR c) {r n : Int} (hn : s 111 0 = n) (hr : 0 ≤ r ∧ r ≤ 39) (h32 : n ≤ 32) (h0 : 0 ≤ n) : zR 35 12 [some (.inr (some 194)), some (.inl r), some (.inl 0)] [] (zmk c s) Q = zR 35 43 [some (.inr (some 194)), some (.inl r), some (.inl n)] [] (zmk c (zpt s 229 0 n (fun x => s 233 (32 * r + x)))) Q := by
  have h := m_35_12s_k (s := s) (Q := Q) (r := r) (n := n) hc hn hr h32 h0 (Int.toNat (n)) 0 (by omega) (by omega)
  rw [zpt_0] at h
  exact h
def zsq (s : zSt) (r : Int) (n : Nat) : zSt := zpt (zv s 111 0 (n : Int)) 229 0 (n : Int) (fun x => s 233 (32 * r + x))
theorem m_35 {c : zW} {s : zSt} {Q : Option zV → zW → Prop} (hc : zKR c) {r b n : Nat} (hr : r < 40) (hn : s 232 (r : Int) = (n : Int)) (h32 : n ≤ 32) (hb : s 200 0 = (b : Int)) (hb8 : b ≤ 8) : zR 35 0 [some (.inr (some 194)), some (.inl (r : Int)), none] [] (zmk c s) Q = Q none (zmk c (if b + (n + 7) / 8 ≤ 8 then zsR (zsq s (r : Int) n) 0 b (s 231 (r : Int)) (8 + ((r % 8 : Nat) : Int)) n ((n + 7) / 8) ((n + 7) / 8) else zsq s (r : Int) n)) := by
  rw [zr_35_0, zr_35_1, zr_35_2 (rk_194 hc), rp_115 hc, zr_35_5, zr_35_6 (ri_232 hc (by omega) (by omega)), ra (h := 232) (j := (r : Int)) (by decide) (by decide) (by omega) (by omega), hn, zr_35_7 (rk_194 hc), v_sf (f := 111) (by decide), zr_35_10, zr_35_11]
  rw [m_35_12s hc (n := (n : Int)) zv_eq (by omega) (by omega) (by omega), show zpt (zv s 111 0 (n : Int)) 229 0 (n : Int) (fun x => zv s 111 0 (n : Int) 233 (32 * (r : Int) + x)) = zsq s (r : Int) n by
    rw [zsq, show (fun x => zv s 111 0 (n : Int) 233 (32 * (r : Int) + x)) = (fun x => s 233 (32 * (r : Int) + x)) from funext fun x => zv_ne (by decide)]]
  have hto : zsq s (r : Int) n 231 (r : Int) = s 231 (r : Int) := by rw [zsq, zpt_ne (by decide), zv_ne (by decide)]
  have hn2 : zsq s (r : Int) n 111 0 = (n : Int) := by rw [zsq, zpt_ne (by decide), zv_eq]
  have hb2 : zsq s (r : Int) n 200 0 = (b : Int) := by rw [zsq, zpt_ne (by decide), zv_ne (by decide)]; exact hb
  rw [zr_35_43, zr_35_44, zr_35_45, zr_35_46 (rk_194 hc), rp_114 hc, zr_35_49, zr_35_50 (ri_231 hc (by omega) (by omega)), ra (h := 231) (j := (r : Int)) (by decide) (by decide) (by omega) (by omega), hto, zr_35_51, zr_35_53, zr_35_54, zr_35_56 (by decide), z_rem8 r (by omega), zr_35_57, zr_35_58 (by exact Nat.le_of_ble_eq_true rfl) (rk_194 hc), m_37 hc (b := b) (n := n) (by omega) hn2 (by omega) hb2 (by omega), Option.toList_none, List.nil_append, zr_35_61]
def znw (s : zSt) (d : Int) : Int := if s 209 d < s 207 d ∨ (s 211 d = 2 ∧ s 209 d - s 210 d ≤ s 207 d) then 2 else if s 207 d < s 208 d ∨ (s 211 d = 1 ∧ s 207 d ≤ s 208 d + s 210 d) then 1 else 0
theorem znw_r {s : zSt} {d : Int} : 0 ≤ znw s d ∧ znw s d ≤ 2 := by
  unfold znw
  repeat' split
  all_goals omega
theorem m_38_0 {c : zW} {s : zSt} {Q : Option zV → zW → Prop} (hc : zKR c) {d : Int} (hd : 1 ≤ d ∧ d ≤ 6) (hv : -32768 ≤ s 207 d ∧ s 207 d ≤ 32767) (hl : -32768 ≤ s 208 d ∧ s 208 d ≤ 32767) (hh : -32768 ≤ s 209 d ∧ s 209 d ≤ 32767) (hk : 0 ≤ s 210 d ∧ s 210 d ≤ 255) (ht : 0 ≤ s 211 d ∧ s 211 d ≤ 2) : zR 38 0 [some (.inr (some 194)), some (.inl d), none, none] [] (zmk c s) Q = zR 38 90 [some (.inr (some 194)), some (.inl d), some (.inl (s 207 d)), some (.inl (znw s d))] [] (zmk c s) Q := by
  rw [zr_38_0, zr_38_1 (rk_194 hc), rp_85 hc, zr_38_4, zr_38_5 (ri_207 hc (by omega) (by omega)), ra (h := 207) (j := d) (by decide) (by decide) (by omega) (by omega), zr_38_6, zr_38_7, zr_38_8, zr_38_9, zr_38_10, zr_38_11 (rk_194 hc), rp_87 hc, zr_38_14, zr_38_15 (ri_209 hc (by omega) (by omega)), ra (h := 209) (j := d) (by decide) (by decide) (by omega) (by omega), zr_38_16]
  by_cases hb0 : s 209 d < s 207 d
  · rw [zN_of (x := s 207 d) (by omega) (by omega), zN_of (x := s 209 d) (by omega) (by omega), if_pos hb0, zr_38_46, zr_38_47, zr_38_48]
    rw [show znw s d = 2 by unfold znw; rw [if_pos (by omega)]]
  · rw [zN_of (x := s 207 d) (by omega) (by omega), zN_of (x := s 209 d) (by omega) (by omega), if_neg hb0, zr_38_19, zr_38_20 (rk_194 hc), rp_89 hc, zr_38_23, zr_38_24 (ri_211 hc (by omega) (by omega)), ra (h := 211) (j := d) (by decide) (by decide) (by omega) (by omega), zr_38_25, zr_38_26]
    by_cases hb1 : s 211 d ≠ 2
    · rw [zN_of (x := s 211 d) (by omega) (by omega), show zN 2 = 2 by decide, if_pos hb1, zr_38_51, zr_38_52, zr_38_53 (rk_194 hc), rp_86 hc, zr_38_56, zr_38_57 (ri_208 hc (by omega) (by omega)), ra (h := 208) (j := d) (by decide) (by decide) (by omega) (by omega), zr_38_58]
      by_cases hb2 : s 207 d < s 208 d
      · rw [zN_of (x := s 207 d) (by omega) (by omega), zN_of (x := s 208 d) (by omega) (by omega), if_pos hb2, zr_38_88, zr_38_89]
        rw [show znw s d = 1 by unfold znw; rw [if_neg (by omega), if_pos (by omega)]]
      · rw [zN_of (x := s 207 d) (by omega) (by omega), zN_of (x := s 208 d) (by omega) (by omega), if_neg hb2, zr_38_61, zr_38_62 (rk_194 hc), rp_89 hc, zr_38_65, zr_38_66 (ri_211 hc (by omega) (by omega)), ra (h := 211) (j := d) (by decide) (by decide) (by omega) (by omega), zr_38_67, zr_38_68]
        by_cases hb3 : s 211 d ≠ 1
        · rw [zN_of (x := s 211 d) (by omega) (by omega), show zN 1 = 1 by decide, if_pos hb3]
          rw [show znw s d = 0 by unfold znw; rw [if_neg (by omega), if_neg (by omega)]]
        · rw [zN_of (x := s 211 d) (by omega) (by omega), show zN 1 = 1 by decide, if_neg hb3, zr_38_71, zr_38_72, zr_38_73 (rk_194 hc), rp_86 hc, zr_38_76, zr_38_77 (ri_208 hc (by omega) (by omega)), ra (h := 208) (j := d) (by decide) (by decide) (by omega) (by omega), zr_38_78, zr_38_79 (rk_194 hc), rp_88 hc, zr_38_82, zr_38_83 (ri_210 hc (by omega) (by omega)), ra (h := 210) (j := d) (by decide) (by decide) (by omega) (by omega), zr_38_84, zr_38_85]
          by_cases hb4 : (s 208 d + s 210 d) < s 207 d
          · rw [zN_of (x := s 207 d) (by omega) (by omega), zN_of (x := (s 208 d + s 210 d)) (by omega) (by omega), if_pos hb4]
            rw [show znw s d = 0 by unfold znw; rw [if_neg (by omega), if_neg (by omega)]]
          · rw [zN_of (x := s 207 d) (by omega) (by omega), zN_of (x := (s 208 d + s 210 d)) (by omega) (by omega), if_neg hb4, zr_38_88, zr_38_89]
            rw [show znw s d = 1 by unfold znw; rw [if_neg (by omega), if_pos (by omega)]]
    · rw [zN_of (x := s 211 d) (by omega) (by omega), show zN 2 = 2 by decide, if_neg hb1, zr_38_29, zr_38_30, zr_38_31 (rk_194 hc), rp_87 hc, zr_38_34, zr_38_35 (ri_209 hc (by omega) (by omega)), ra (h := 209) (j := d) (by decide) (by decide) (by omega) (by omega), zr_38_36, zr_38_37 (rk_194 hc), rp_88 hc, zr_38_40, zr_38_41 (ri_210 hc (by omega) (by omega)), ra (h := 210) (j := d) (by decide) (by decide) (by omega) (by omega), zr_38_42, zr_38_43]
      by_cases hb2 : s 207 d < (s 209 d - s 210 d)
      · rw [zN_of (x := s 207 d) (by omega) (by omega), zN_of (x := (s 209 d - s 210 d)) (by omega) (by omega), if_pos hb2, zr_38_51, zr_38_52, zr_38_53 (rk_194 hc), rp_86 hc, zr_38_56, zr_38_57 (ri_208 hc (by omega) (by omega)), ra (h := 208) (j := d) (by decide) (by decide) (by omega) (by omega), zr_38_58]
        by_cases hb3 : s 207 d < s 208 d
        · rw [zN_of (x := s 207 d) (by omega) (by omega), zN_of (x := s 208 d) (by omega) (by omega), if_pos hb3, zr_38_88, zr_38_89]
          rw [show znw s d = 1 by unfold znw; rw [if_neg (by omega), if_pos (by omega)]]
        · rw [zN_of (x := s 207 d) (by omega) (by omega), zN_of (x := s 208 d) (by omega) (by omega), if_neg hb3, zr_38_61, zr_38_62 (rk_194 hc), rp_89 hc, zr_38_65, zr_38_66 (ri_211 hc (by omega) (by omega)), ra (h := 211) (j := d) (by decide) (by decide) (by omega) (by omega), zr_38_67, zr_38_68]
          by_cases hb4 : s 211 d ≠ 1
          · rw [zN_of (x := s 211 d) (by omega) (by omega), show zN 1 = 1 by decide, if_pos hb4]
            rw [show znw s d = 0 by unfold znw; rw [if_neg (by omega), if_neg (by omega)]]
          · rw [zN_of (x := s 211 d) (by omega) (by omega), show zN 1 = 1 by decide, if_neg hb4, zr_38_71, zr_38_72, zr_38_73 (rk_194 hc), rp_86 hc, zr_38_76, zr_38_77 (ri_208 hc (by omega) (by omega)), ra (h := 208) (j := d) (by decide) (by decide) (by omega) (by omega), zr_38_78, zr_38_79 (rk_194 hc), rp_88 hc, zr_38_82, zr_38_83 (ri_210 hc (by omega) (by omega)), ra (h := 210) (j := d) (by decide) (by decide) (by omega) (by omega), zr_38_84, zr_38_85]
            by_cases hb5 : (s 208 d + s 210 d) < s 207 d
            · rw [zN_of (x := s 207 d) (by omega) (by omega), zN_of (x := (s 208 d + s 210 d)) (by omega) (by omega), if_pos hb5]
              rw [show znw s d = 0 by unfold znw; rw [if_neg (by omega), if_neg (by omega)]]
            · rw [zN_of (x := s 207 d) (by omega) (by omega), zN_of (x := (s 208 d + s 210 d)) (by omega) (by omega), if_neg hb5, zr_38_88, zr_38_89]
              rw [show znw s d = 1 by unfold znw; rw [if_neg (by omega), if_pos (by omega)]]
      · rw [zN_of (x := s 207 d) (by omega) (by omega), zN_of (x := (s 209 d - s 210 d)) (by omega) (by omega), if_neg hb2, zr_38_46, zr_38_47, zr_38_48]
        rw [show znw s d = 2 by unfold znw; rw [if_pos (by omega)]]
theorem m_38_same {c : zW} {s : zSt} {Q : Option zV → zW → Prop} (hc : zKR c) {d : Int} (hd : 1 ≤ d ∧ d ≤ 6) (hv : -32768 ≤ s 207 d ∧ s 207 d ≤ 32767) (hl : -32768 ≤ s 208 d ∧ s 208 d ≤ 32767) (hh : -32768 ≤ s 209 d ∧ s 209 d ≤ 32767) (hk : 0 ≤ s 210 d ∧ s 210 d ≤ 255) (ht : 0 ≤ s 211 d ∧ s 211 d ≤ 2) (h : znw s d = s 211 d) : zR 38 0 [some (.inr (some 194)), some (.inl d), none, none] [] (zmk c s) Q = Q none (zmk c s) := by
  have hz := znw_r (s := s) (d := d)
  rw [m_38_0 hc hd hv hl hh hk ht]
  rw [zr_38_90, zr_38_91, zr_38_92 (rk_194 hc), rp_89 hc, zr_38_95, zr_38_96 (ri_211 hc (by omega) (by omega)), ra (h := 211) (j := d) (by decide) (by decide) (by omega) (by omega), zr_38_97, zN_of (x := znw s d) (by omega) (by omega), zN_of (x := s 211 d) (by omega) (by omega), if_neg (by omega), zr_38_100]
theorem m_38_quiet {c : zW} {s : zSt} {Q : Option zV → zW → Prop} (hc : zKR c) {d : Int} (hd : 1 ≤ d ∧ d ≤ 6) (hv : -32768 ≤ s 207 d ∧ s 207 d ≤ 32767) (hl : -32768 ≤ s 208 d ∧ s 208 d ≤ 32767) (hh : -32768 ≤ s 209 d ∧ s 209 d ≤ 32767) (hk : 0 ≤ s 210 d ∧ s 210 d ≤ 255) (ht : 0 ≤ s 211 d ∧ s 211 d ≤ 2) (h : znw s d ≠ s 211 d) (h0 : s 212 d = 0) : zR 38 0 [some (.inr (some 194)), some (.inl d), none, none] [] (zmk c s) Q = Q none (zmk c (zv s 211 d (znw s d))) := by
  have hz := znw_r (s := s) (d := d)
  rw [m_38_0 hc hd hv hl hh hk ht]
  rw [zr_38_90, zr_38_91, zr_38_92 (rk_194 hc), rp_89 hc, zr_38_95, zr_38_96 (ri_211 hc (by omega) (by omega)), ra (h := 211) (j := d) (by decide) (by decide) (by omega) (by omega), zr_38_97, zN_of (x := znw s d) (by omega) (by omega), zN_of (x := s 211 d) (by omega) (by omega), if_pos (by omega), zr_38_101, zr_38_102 (rk_194 hc), rp_89 hc, zr_38_105, zr_38_106, zr_38_107 (rs_211 hc (by omega) (by omega)), rsa (h := 211) (j := d) (by decide) (by decide) (by omega) (by omega), zr_38_108, zr_38_109 (rk_194 hc), rp_90 hc, zr_38_112, zr_38_113 (ri_212 hc (by omega) (by omega)), ra (h := 212) (j := d) (by decide) (by decide) (by omega) (by omega), zv_ne (a := 211) (b := 212) (by decide), zr_38_114, zN_of (x := s 212 d) (by omega) (by omega), if_pos (by omega), zr_38_195]
def zev (s : zSt) (d : Int) : zSt := (zv (zv (zv (zv (zv (zv s 211 d (znw s d)) 111 0 4) 229 0 64) 229 1 (znw s d)) 229 2 (zo_and (zo_shr (s 207 d) 8) 255)) 229 3 (zo_and (s 207 d) 255))
theorem zev_o {s : zSt} {d : Int} {a : Nat} {x : Int} (h1 : a ≠ 211) (h2 : a ≠ 111) (h3 : a ≠ 229) : zev s d a x = s a x := by
  rw [zev, zv_ne h3, zv_ne h3, zv_ne h3, zv_ne h3, zv_ne h2, zv_ne h1]
theorem m_38_send {c : zW} {s : zSt} {Q : Option zV → zW → Prop} (hc : zKR c) {d : Int} (hd : 1 ≤ d ∧ d ≤ 6) (hv : -32768 ≤ s 207 d ∧ s 207 d ≤ 32767) (hl : -32768 ≤ s 208 d ∧ s 208 d ≤ 32767) (hh : -32768 ≤ s 209 d ∧ s 209 d ≤ 32767) (hk : 0 ≤ s 210 d ∧ s 210 d ≤ 255) (ht : 0 ≤ s 211 d ∧ s 211 d ≤ 2) (h : znw s d ≠ s 211 d) (h0 : s 212 d ≠ 0) (hr : 0 ≤ s 212 d ∧ s 212 d ≤ 255) {b : Nat} (hb : s 200 d = (b : Int)) (hb8 : b ≤ 8) :
    zR 38 0 [some (.inr (some 194)), some (.inl d), none, none] [] (zmk c s) Q = Q none (zmk c (zv (if b + (4 + 7) / 8 ≤ 8 then zsR (zev s d) d b (s 212 d) (8 + zo_rem (s 213 d) 8) 4 ((4 + 7) / 8) ((4 + 7) / 8) else zev s d) 213 d (s 213 d + 1))) := by
  have hz := znw_r (s := s) (d := d)
  have hn2 : zev s d 111 0 = ((4 : Nat) : Int) := by rw [zev, zv_ne (by decide), zv_ne (by decide), zv_ne (by decide), zv_ne (by decide), zv_eq]; rfl
  have hb2 : zev s d 200 d = (b : Int) := by rw [zev_o (by decide) (by decide) (by decide)]; exact hb
  have hEV : (zv (zv (zv (zv (zv (zv s 211 d (znw s d)) 111 0 4) 229 0 64) 229 1 (znw s d)) 229 2 (zo_and (zo_shr (s 207 d) 8) 255)) 229 3 (zo_and (s 207 d) 255)) = zev s d := rfl
  have hU : (if b + (4 + 7) / 8 ≤ 8 then zsR (zev s d) d b (s 212 d) (8 + zo_rem (s 213 d) 8) 4 ((4 + 7) / 8) ((4 + 7) / 8) else zev s d) 213 d = s 213 d := by
    split
    · rw [zsR_o (by decide) (by decide), zev_o (by decide) (by decide) (by decide)]
    · rw [zev_o (by decide) (by decide) (by decide)]
  rw [m_38_0 hc hd hv hl hh hk ht]
  rw [zr_38_90, zr_38_91, zr_38_92 (rk_194 hc), rp_89 hc, zr_38_95, zr_38_96 (ri_211 hc (by omega) (by omega)), ra (h := 211) (j := d) (by decide) (by decide) (by omega) (by omega), zr_38_97, zN_of (x := znw s d) (by omega) (by omega), zN_of (x := s 211 d) (by omega) (by omega), if_pos (by omega), zr_38_101, zr_38_102 (rk_194 hc), rp_89 hc, zr_38_105, zr_38_106, zr_38_107 (rs_211 hc (by omega) (by omega)), rsa (h := 211) (j := d) (by decide) (by decide) (by omega) (by omega), zr_38_108, zr_38_109 (rk_194 hc), rp_90 hc, zr_38_112, zr_38_113 (ri_212 hc (by omega) (by omega)), ra (h := 212) (j := d) (by decide) (by decide) (by omega) (by omega), zv_ne (a := 211) (b := 212) (by decide), zr_38_114, zN_of (x := s 212 d) (by omega) (by omega), if_neg (by omega), zr_38_117, zr_38_118, zr_38_119 (rk_194 hc), v_sf (f := 111) (by decide), zr_38_122, zr_38_123 (rk_194 hc), rp_110 hc, zr_38_126, zr_38_127, zr_38_129 (rs_229 hc (by omega) (by omega)), rsa (h := 229) (j := 0) (by decide) (by decide) (by omega) (by omega), zr_38_130, zr_38_131 (rk_194 hc), rp_110 hc, zr_38_134, zr_38_135, zr_38_136 (rs_229 hc (by omega) (by omega)), rsa (h := 229) (j := 1) (by decide) (by decide) (by omega) (by omega), zr_38_137, zr_38_138 (rk_194 hc), rp_110 hc, zr_38_141, zr_38_142, zr_38_143, zr_38_145, zr_38_146, zr_38_149, zr_38_150 (rs_229 hc (by omega) (by omega)), rsa (h := 229) (j := 2) (by decide) (by decide) (by omega) (by omega), zr_38_151, zr_38_152 (rk_194 hc), rp_110 hc, zr_38_155, zr_38_156, zr_38_157, zr_38_160, zr_38_161 (rs_229 hc (by omega) (by omega)), rsa (h := 229) (j := 3) (by decide) (by decide) (by omega) (by omega), zr_38_162, zr_38_163, zr_38_164, zr_38_165 (rk_194 hc), rp_90 hc, zr_38_168, zr_38_169 (ri_212 hc (by omega) (by omega)), ra (h := 212) (j := d) (by decide) (by decide) (by omega) (by omega), zv_ne (a := 229) (b := 212) (by decide), zv_ne (a := 229) (b := 212) (by decide), zv_ne (a := 229) (b := 212) (by decide), zv_ne (a := 229) (b := 212) (by decide), zv_ne (a := 111) (b := 212) (by decide), zv_ne (a := 211) (b := 212) (by decide), zr_38_170, zr_38_172, zr_38_173 (rk_194 hc), rp_91 hc, zr_38_176, zr_38_177 (ri_213 hc (by omega) (by omega)), ra (h := 213) (j := d) (by decide) (by decide) (by omega) (by omega), zv_ne (a := 229) (b := 213) (by decide), zv_ne (a := 229) (b := 213) (by decide), zv_ne (a := 229) (b := 213) (by decide), zv_ne (a := 229) (b := 213) (by decide), zv_ne (a := 111) (b := 213) (by decide), zv_ne (a := 211) (b := 213) (by decide), zr_38_178, zr_38_180 (by decide), zr_38_181, zr_38_182 (by exact Nat.le_of_ble_eq_true rfl) (rk_194 hc), hEV, m_37 hc (b := b) (n := 4) (by omega) hn2 (by omega) hb2 (by omega), Option.toList_none, List.nil_append]
  revert hU
  generalize (if b + (4 + 7) / 8 ≤ 8 then zsR (zev s d) d b (s 212 d) (8 + zo_rem (s 213 d) 8) 4 ((4 + 7) / 8) ((4 + 7) / 8) else zev s d) = U
  intro hU
  rw [zr_38_185, zr_38_186 (rk_194 hc), rp_91 hc, zr_38_189, zr_38_190, zr_38_191 (ri_213 hc (by omega) (by omega)), ra (h := 213) (j := d) (by decide) (by decide) (by omega) (by omega), hU, zr_38_192, zr_38_193, zr_38_194 (rs_213 hc (by omega) (by omega)), rsa (h := 213) (j := d) (by decide) (by decide) (by omega) (by omega), zr_38_195]
def ztw (x y : Int) : Int := if 256 * x + y ≤ 32767 then 256 * x + y else 256 * x + y - 65536
theorem m_39 {c : zW} {s : zSt} {Q : Option zV → zW → Prop} (hc : zKR c) {k x y : Int} (hk : 0 ≤ k ∧ k ≤ 38) (h1 : s 229 k = x) (h2 : s 229 (k + 1) = y) (hx : 0 ≤ x ∧ x ≤ 255) (hy : 0 ≤ y ∧ y ≤ 255) : zR 39 0 [some (.inr (some 194)), some (.inl k), none] [] (zmk c s) Q = Q (some (.inl (ztw x y))) (zmk c s) := by
  by_cases h : 256 * x + y ≤ 32767
  · rw [show ztw x y = 256 * x + y from if_pos h]
    rw [zr_39_0, zr_39_3, zr_39_4 (rk_194 hc), rp_110 hc, zr_39_7, zr_39_8 (ri_229 hc (by omega) (by omega)), ra (h := 229) (j := k) (by decide) (by decide) (by omega) (by omega), h1, zr_39_9, zr_39_10, zr_39_11 (rk_194 hc), rp_110 hc, zr_39_14, zr_39_15, zr_39_16, zr_39_17 (ri_229 hc (by omega) (by omega)), ra (h := 229) (j := (k + 1)) (by decide) (by decide) (by omega) (by omega), h2, zr_39_18, zr_39_19, zr_39_20, zr_39_21, zr_39_24, zN_of (x := ((256 * x) + y)) (by omega) (by omega), show zN 32767 = 32767 by decide, if_pos (by omega), zr_39_34, zr_39_35]
  · rw [show ztw x y = 256 * x + y - 65536 from if_neg h]
    rw [zr_39_0, zr_39_3, zr_39_4 (rk_194 hc), rp_110 hc, zr_39_7, zr_39_8 (ri_229 hc (by omega) (by omega)), ra (h := 229) (j := k) (by decide) (by decide) (by omega) (by omega), h1, zr_39_9, zr_39_10, zr_39_11 (rk_194 hc), rp_110 hc, zr_39_14, zr_39_15, zr_39_16, zr_39_17 (ri_229 hc (by omega) (by omega)), ra (h := 229) (j := (k + 1)) (by decide) (by decide) (by omega) (by omega), h2, zr_39_18, zr_39_19, zr_39_20, zr_39_21, zr_39_24, zN_of (x := ((256 * x) + y)) (by omega) (by omega), show zN 32767 = 32767 by decide, if_neg (by omega), zr_39_27, zr_39_28, zr_39_30, zr_39_31, zr_39_35]
