-- unplug: both sides; worlds whose rows of ports differ too
def zWb (w v : zW) : zW := (w.1, w.2.1, w.2.2.1, w.2.2.2.1, v.2.2.2.2)
theorem zcnt_zb {w v : zW} (vb : ∀ k j, k ≠ 71 → k ≠ 78 → zb v k j = zb w k j) : ∀ n, n ≤ 448 → zcnt (zWb w v) n = zcnt w n
  | 0, _ => rfl
  | n + 1, hn => by
    have hc := zNd_c (show n / 64 < 7 by omega)
    have e : zb (zWb w v) (zNd (n / 64) + 1) (n % 64) = zb w (zNd (n / 64) + 1) (n % 64) := vb _ _ (by omega) (by omega)
    rw [zcnt, zcnt, zcnt_zb vb n (by omega), e]
theorem zJ_port {B : Int} {e : Nat} {l : List Nat} {own : Nat → Nat} {w v : zW} {s t : zSt} {L : Nat} {xs : Nat → Int} (hb : zBase L xs w) (h : zJ0 B e own s w) (d : zDv l own (zWb w v) v s t) (vb : ∀ k j, k ≠ 71 → k ≠ 78 → zb v k j = zb w k j) (h11 : 11 ∉ l) (h5 : 5 ∉ l) (h1 : gN t v ∧ iN t) (h2 : 2 ∈ l → gP e t v ∧ iP t) (h3 : gQ e t v ∧ iQ t) (h4 : 4 ∈ l → gT own t v ∧ iT t) (h6 : 6 ∈ l → gS t v ∧ iS B t) (h7 : 7 ∉ l) (h8 : 8 ∉ l) (h9 : 9 ∉ l) (h10 : 10 ∉ l) : zJ0 B e own t v := by
  obtain ⟨j0, j1, j2, j3, j4, j5, j6, j7, j8, j9, j10, j11⟩ := h
  have c0 : zCon (zWb w v) := by
    obtain ⟨w0, q1, q2, q3, q4⟩ := j0
    refine ⟨w0, q1, q2, fun k j hk k1 k2 k3 => ?_, q4⟩
    have e : zb (zWb w v) k j = zb w k j := by
      refine vb k j (fun q => k3 ?_) (fun q => k3 ?_)
      · rw [q]
        exact zk_at_71 hb
      · rw [q]
        exact zk_at_78 hb
    rw [e]
    exact q3 k j hk k1 k2 k3
  have cT : gT own s (zWb w v) := fun i f hi hf => by
    have hc := zNd_c hi
    have e : zb (zWb w v) (zNd i + 1) f = zb w (zNd i + 1) f := vb _ _ (by omega) (by omega)
    rw [e]
    exact j4.1 i f hi hf
  have cR : gR own s (zWb w v) := ⟨j5.1.1, fun r hr => by
    have e : zb (zWb w v) 29 r = zb w 29 r := vb _ _ (by decide) (by decide)
    rw [e]
    exact j5.1.2 r hr⟩
  have cH : gH s (zWb w v) := by
    unfold gH at j11 ⊢
    rw [zcnt_zb vb 448 (Nat.le_refl _)]
    exact j11
  refine ⟨zCon_g d h11 c0, h1, ?_, h3, ?_, ⟨gR_g d h5 cR, iR_g d h5 j5.2⟩, ?_, ⟨gE_g d h7 (show gE s (zWb w v) from j7.1), iE_g d h7 j7.2⟩, ⟨gB_g d h8 (show gB s (zWb w v) from j8.1), iB_g d h8 j8.2⟩, ⟨gM_g d h9 (show gM s (zWb w v) from j9.1), iM_g d h9 j9.2⟩, gL_g d h10 (show gL s (zWb w v) from j10), gH_g d h5 cH⟩
  · by_cases q : 2 ∈ l
    · exact h2 q
    · exact ⟨gP_g d q (show gP e s (zWb w v) from j2.1), iP_g d q j2.2⟩
  · by_cases q : 4 ∈ l
    · exact h4 q
    · exact ⟨gT_g d q cT, iT_g d q j4.2⟩
  · by_cases q : 6 ∈ l
    · exact h6 q
    · exact ⟨gS_g d q (show gS s (zWb w v) from j6.1), iS_g d q j6.2⟩
set_option maxHeartbeats 1000000 in
theorem o_op_1 {L : Nat} {xs : Nat → Int} {B : Int} {w : zW} (hb : zBase L xs w) (hP : zPJ B w) (hB : B < 1000000000) (a : Int) (rga : -2147483648 ≤ a ∧ a < 2147483648) : zR 2 0 [some (.inr (some 1)), some (.inl a)] [] w (fun r w1 => ∃ v, r = some (.inl v) ∧ (zBase L xs w1 → zR 30 0 [some (.inr (some 194)), some (.inl a)] [] w1 (fun r2 w2 => ∃ v2, r2 = some (.inl v2) ∧ zN v = zN v2 ∧ (zBase L xs w2 → zPJ (B + 1400) w2)))) := by
  obtain ⟨own, s, h, hS⟩ := hP
  by_cases c : 2 ≤ a ∧ a ≤ 6
  · obtain ⟨d, hd0⟩ : ∃ d : Nat, a = (d : Int) := ⟨a.toNat, by omega⟩
    subst hd0
    have hd : d < 7 := by omega
    obtain ⟨n1, n2, n3, n4, n5, n6, n7, n8, n9, n10⟩ := zNd_any hb h.1 hd
    have td : (zN (d : Int)).toNat = d := by rw [zN_of (by omega) (by omega), Int.toNat_natCast]
    have f15 := h.2.1.1.1 d hd
    have r195 := h.2.1.2.2.2.2 (d : Int) (by omega) (by omega)
    by_cases c5 : s 195 (d : Int) = -1
    · have hc1 : ∀ Q, zR 2 0 [some (.inr (some 1)), some (.inl (d : Int))] [] w Q = Q (some (.inl 0)) w := fun Q => by
        rw [zr_2_0, zr_2_1 (by exact Nat.le_of_ble_eq_true rfl), m_isDev1 (by rw [zN_of (by omega) (by omega)]; omega), Option.toList_some, List.cons_append, List.nil_append, zr_2_4, show zN 1 = 1 by decide, if_neg (by omega), zr_2_7, zr_2_8 (by exact zk_at_1 hb), zcq_1_1 h.1, zr_2_11, zr_2_12 ⟨by show zNC + 2 < zk w 3; rw [zk_at_3 hb]; decide, by show zk w 3 < 1000; rw [zk_at_3 hb]; decide, by rw [zN_of (x := (d : Int)) (by omega) (by omega)]; omega, by rw [zN_of (x := (d : Int)) (by omega) (by omega)]; show _ < ((zl w 3 : Nat) : Int); rw [zl_at_3 hb]; omega⟩, td, n9, zr_2_13m (by exact n1), f15, zr_2_16, zr_2_17, zN_of (x := s 195 (d : Int)) (by omega) (by omega), show zN (-1) = (-1) by decide, if_neg (by omega), zr_2_20, zr_2_21 (Or.inl (by decide))]
      have hr1 : ∀ c Q, zKR c → zR 30 0 [some (.inr (some 194)), some (.inl (d : Int))] [] (zmk c s) Q = Q (some (.inl 0)) (zmk c s) := fun c Q hc => by
        rw [zr_30_0, zr_30_1 (by exact Nat.le_of_ble_eq_true rfl), m_device1 (by rw [zN_of (by omega) (by omega)]; omega), Option.toList_some, List.cons_append, List.nil_append, zr_30_4, show zN 1 = 1 by decide, if_neg (by omega), zr_30_7, zr_30_8 (rk_194 hc), rp_73 hc, zr_30_11, zr_30_12 (ri_195 hc (by omega) (by omega)), ra (h := 195) (j := (d : Int)) (by decide) (by decide) (by omega) (by omega), zr_30_13, zN_of (x := s 195 (d : Int)) (by omega) (by omega), if_neg (by omega), zr_30_16, zr_30_17 (Or.inl (by decide))]
      exact O_fin (G := fun w Q => zR 30 0 [some (.inr (some 194)), some (.inl (d : Int))] [] w Q) hS hc1 hr1 rfl ⟨⟨own, zJ_mono h (by omega)⟩, hb, yRQ.rf⟩
    obtain ⟨b, hb0⟩ : ∃ b : Nat, s 195 (d : Int) = (b : Int) := ⟨(s 195 (d : Int)).toNat, by omega⟩
    have hb2 : b < 2 := by omega
    have tb : (zN (b : Int)).toNat = b := by rw [zN_of (by omega) (by omega), Int.toNat_natCast]
    obtain ⟨k5, f41⟩ := zBus_any hb h.1 hb2
    obtain ⟨b1, b2, b3, b4, b5, b6, b7, b8, b9, b10⟩ := zBus_all hb h.1 hb2
    have f15b := f15.trans hb0
    have dz : zDv [1, 3] own (zWb w (zsf (zsb w (70 + 7 * b + 1) d none) 15 (zNd d) (-1))) (zsf (zsb w (70 + 7 * b + 1) d none) 15 (zNd d) (-1)) s (zv (zv s 195 (d : Int) (-1)) 200 (d : Int) 0) := ⟨rfl, fun f hf k => u_f_ne (fun q => hf (by rw [q]; decide)), rfl, fun _ _ _ => rfl, rfl, fun a ha x => by rw [zv_ne (fun q => ha (by rw [q]; decide)), zv_ne (fun q => ha (by rw [q]; decide))]⟩
    have hnd := zNd_c hd
    have t195 : ∀ x, x ≠ (d : Int) → zv (zv s 195 (d : Int) (-1)) 200 (d : Int) 0 195 x = s 195 x := fun x hx => by rw [zv_ne (by decide), zv_nj hx]
    have t195d : zv (zv s 195 (d : Int) (-1)) 200 (d : Int) 0 195 (d : Int) = -1 := by rw [zv_ne (by decide), zv_eq]
    have hbc : 70 + 7 * b + 1 = 71 ∨ 70 + 7 * b + 1 = 78 := by omega
    have J1 : zJ0 B 8 own (zv (zv s 195 (d : Int) (-1)) 200 (d : Int) 0) (zsf (zsb w (70 + 7 * b + 1) d none) 15 (zNd d) (-1)) := by
      refine zJ_port hb h dz (fun k j k1 k2 => u_b_ne (by omega)) (by decide) (by decide) ⟨⟨fun i hi => ?_, fun i hi => ?_, fun i hi => ?_⟩, ?_⟩ (fun q => absurd q (by decide)) ⟨⟨fun p hp hl => ?_, fun p hp => ?_⟩, fun p k p1 p2 p3 k1 k2 => ?_⟩ (fun q => absurd q (by decide)) (fun q => absurd q (by decide)) (by decide) (by decide) (by decide) (by decide)
      · by_cases e : i = d
        · subst e
          rw [u_f_eq, t195d]
        · have := zNd_c hi
          rw [u_f_nh (by omega), t195 _ (by omega)]
          exact h.2.1.1.1 i hi
      · by_cases e : i = d
        · subst e
          rw [t195d, if_neg (by decide)]
          show zb (zsb w (70 + 7 * b + 1) i none) 71 i = none
          by_cases eb : 70 + 7 * b + 1 = 71
          · rw [eb, u_b_eq]
          · rw [u_b_ne (by omega), h.2.1.1.2.1 i hi, if_neg (by omega)]
        · rw [t195 _ (by omega)]
          show zb (zsb w (70 + 7 * b + 1) d none) 71 i = _
          rw [u_b_nj e]
          exact h.2.1.1.2.1 i hi
      · by_cases e : i = d
        · subst e
          rw [t195d, if_neg (by omega), if_neg (by decide)]
          show zb (zsb w (70 + 7 * b + 1) i none) 78 i = none
          by_cases eb : 70 + 7 * b + 1 = 78
          · rw [eb, u_b_eq]
          · rw [u_b_ne (by omega), h.2.1.1.2.2 i hi, if_neg (by omega), if_neg (by omega)]
        · rw [t195 _ (by omega)]
          show zb (zsb w (70 + 7 * b + 1) d none) 78 i = _
          rw [u_b_nj e]
          exact h.2.1.1.2.2 i hi
      · obtain ⟨i0, i1, i7, ia⟩ := h.2.1.2
        refine ⟨by rw [t195 _ (by omega)]; exact i0, by rw [t195 _ (by omega)]; exact i1, by rw [t195 _ (by omega)]; exact i7, fun p p1 p2 => ?_⟩
        by_cases e : p = (d : Int)
        · rw [e, t195d]
          omega
        · rw [t195 _ e]
          exact ia p p1 p2
      · have hpd : p ≠ d := fun q => by
          rw [q, t195d] at hl
          omega
        rw [t195 _ (by omega)] at hl
        obtain ⟨hd2, nb, q1, q2, q3, q4, q5, q6⟩ := h.2.2.2.1.1.1 p hp hl
        refine ⟨hd2, nb, q1, q2, by rw [u_f_ne (by decide)]; exact q3, by rw [u_f_ne (by decide)]; exact q4, by rw [zv_nj (by omega), zv_ne (by decide)]; exact q5, fun k hk => ?_⟩
        have q := q6 k hk
        unfold zEnt at q ⊢
        rw [u_f_ne (by decide), u_f_ne (by decide), u_f_ne (by decide), u_f_ne (by decide), zv_ne (by decide), zv_ne (by decide), zv_ne (by decide), zv_ne (by decide), zv_ne (by decide), zv_ne (by decide), zv_ne (by decide), zv_ne (by decide)]
        exact ⟨q.1, q.2.1, q.2.2.1, q.2.2.2.1, fun j hj => by rw [zv_ne (by decide), zv_ne (by decide)]; exact q.2.2.2.2 j hj⟩
      · obtain ⟨hd2, nb, q1, q2, q3, q4⟩ := h.2.2.2.1.1.2 p hp
        exact ⟨hd2, nb, q1, q2, by rw [u_f_ne (by decide)]; exact q3, by rw [u_f_ne (by decide)]; exact q4⟩
      · have hpd : p ≠ (d : Int) := fun q => by
          rw [q, t195d] at p3
          omega
        rw [t195 _ hpd] at p3
        rw [zv_nj hpd, zv_ne (by decide)] at k2
        obtain ⟨o1, o2⟩ := h.2.2.2.1.2 p k p1 p2 p3 k1 k2
        have e1 : ∀ x, zv (zv s 195 (d : Int) (-1)) 200 (d : Int) 0 201 x = s 201 x := fun x => by rw [zv_ne (by decide), zv_ne (by decide)]
        exact ⟨zOK_eq e1 o1, fun q => by rw [e1]; exact o2 q⟩
    have hb1 : zBase L xs (zsf (zsb w (70 + 7 * b + 1) d none) 15 (zNd d) (-1)) := by
      obtain ⟨⟨s1, s2, s3⟩, s4, s5⟩ := hb
      exact ⟨⟨s1, s2, s3⟩, s4, s5⟩
    have rq1 : yRQ w (zsf (zsb w (70 + 7 * b + 1) d none) 15 (zNd d) (-1)) := ⟨fun f f1 f2 => u_f_ne (by omega), fun _ _ _ _ => rfl⟩
    have hc1 : ∀ Q, zR 2 0 [some (.inr (some 1)), some (.inl (d : Int))] [] w Q = Q (some (.inl 1)) (zsf (zsb w (70 + 7 * b + 1) d none) 15 (zNd d) (-1)) := fun Q => by
      rw [zr_2_0, zr_2_1 (by exact Nat.le_of_ble_eq_true rfl), m_isDev1 (by rw [zN_of (by omega) (by omega)]; omega), Option.toList_some, List.cons_append, List.nil_append, zr_2_4, show zN 1 = 1 by decide, if_neg (by omega), zr_2_7, zr_2_8 (by exact zk_at_1 hb), zcq_1_1 h.1, zr_2_11, zr_2_12 ⟨by show zNC + 2 < zk w 3; rw [zk_at_3 hb]; decide, by show zk w 3 < 1000; rw [zk_at_3 hb]; decide, by rw [zN_of (x := (d : Int)) (by omega) (by omega)]; omega, by rw [zN_of (x := (d : Int)) (by omega) (by omega)]; show _ < ((zl w 3 : Nat) : Int); rw [zl_at_3 hb]; omega⟩, td, n9, zr_2_13m (by exact n1), f15b, zr_2_16, zr_2_17, zN_of (x := (b : Int)) (by omega) (by omega), show zN (-1) = (-1) by decide, if_pos (by omega), zr_2_22, zr_2_23 (by exact zk_at_1 hb), zcq_0_1 h.1, zr_2_26, zr_2_27 (by exact zk_at_1 hb), zcq_1_1 h.1, zr_2_30, zr_2_31 ⟨by show zNC + 2 < zk w 3; rw [zk_at_3 hb]; decide, by show zk w 3 < 1000; rw [zk_at_3 hb]; decide, by rw [zN_of (x := (d : Int)) (by omega) (by omega)]; omega, by rw [zN_of (x := (d : Int)) (by omega) (by omega)]; show _ < ((zl w 3 : Nat) : Int); rw [zl_at_3 hb]; omega⟩, td, n9, zr_2_32m (by exact n1), f15b, zr_2_35 ⟨by show zNC + 2 < zk w 2; rw [zk_at_2 hb]; decide, by show zk w 2 < 1000; rw [zk_at_2 hb]; decide, by rw [zN_of (x := (b : Int)) (by omega) (by omega)]; omega, by rw [zN_of (x := (b : Int)) (by omega) (by omega)]; show _ < ((zl w 2 : Nat) : Int); rw [zl_at_2 hb]; omega⟩, tb, b10, zr_2_36 (by exact k5), b1, zr_2_39, zr_2_40, zr_2_41n ⟨by show zNC + 2 < zk w (70 + 7 * b + 1); rw [b2]; decide, by show zk w (70 + 7 * b + 1) < 1000; rw [b2]; decide, by rw [zN_of (x := (d : Int)) (by omega) (by omega)]; omega, by rw [zN_of (x := (d : Int)) (by omega) (by omega)]; show _ < ((zl w (70 + 7 * b + 1) : Nat) : Int); rw [b3]; omega⟩, td, zr_2_42, zr_2_43 (by exact zk_at_1 hb), u_p_sb, zcq_1_1 h.1, zr_2_46, zr_2_47 ⟨by show zNC + 2 < zk w 3; rw [zk_at_3 hb]; decide, by show zk w 3 < 1000; rw [zk_at_3 hb]; decide, by rw [zN_of (x := (d : Int)) (by omega) (by omega)]; omega, by rw [zN_of (x := (d : Int)) (by omega) (by omega)]; show _ < ((zl w 3 : Nat) : Int); rw [zl_at_3 hb]; omega⟩, td, u_b_ne (by omega), n9, zr_2_48, zr_2_49m (by exact n1), zr_2_52, zr_2_53 (Or.inr (by decide))]
    have hr1 : ∀ c Q, zKR c → zR 30 0 [some (.inr (some 194)), some (.inl (d : Int))] [] (zmk c s) Q = Q (some (.inl 1)) (zmk c (zv (zv s 195 (d : Int) (-1)) 200 (d : Int) 0)) := fun c Q hc => by
      rw [zr_30_0, zr_30_1 (by exact Nat.le_of_ble_eq_true rfl), m_device1 (by rw [zN_of (by omega) (by omega)]; omega), Option.toList_some, List.cons_append, List.nil_append, zr_30_4, show zN 1 = 1 by decide, if_neg (by omega), zr_30_7, zr_30_8 (rk_194 hc), rp_73 hc, zr_30_11, zr_30_12 (ri_195 hc (by omega) (by omega)), ra (h := 195) (j := (d : Int)) (by decide) (by decide) (by omega) (by omega), zr_30_13, zN_of (x := s 195 (d : Int)) (by omega) (by omega), if_pos (by omega), zr_30_18, zr_30_19 (rk_194 hc), rp_73 hc, zr_30_22, zr_30_23, zr_30_24 (rs_195 hc (by omega) (by omega)), rsa (h := 195) (j := (d : Int)) (by decide) (by decide) (by omega) (by omega), zr_30_25, zr_30_26 (rk_194 hc), rp_78 hc, zr_30_29, zr_30_30, zr_30_31 (rs_200 hc (by omega) (by omega)), rsa (h := 200) (j := (d : Int)) (by decide) (by decide) (by omega) (by omega), zr_30_32, zr_30_33 (Or.inr (by decide))]
    exact O_fin (G := fun w Q => zR 30 0 [some (.inr (some 194)), some (.inl (d : Int))] [] w Q) hS hc1 hr1 rfl ⟨⟨own, zJ_mono J1 (by omega)⟩, hb1, rq1⟩
  · have hc1 : ∀ Q, zR 2 0 [some (.inr (some 1)), some (.inl a)] [] w Q = Q (some (.inl 0)) w := fun Q => by
      rw [zr_2_0, zr_2_1 (by exact Nat.le_of_ble_eq_true rfl), m_isDev0 (by rw [zN_of (by omega) (by omega)]; omega), Option.toList_some, List.cons_append, List.nil_append, zr_2_4, show zN 0 = 0 by decide, if_pos (by omega), zr_2_20, zr_2_21 (Or.inl (by decide))]
    have hr1 : ∀ c Q, zKR c → zR 30 0 [some (.inr (some 194)), some (.inl a)] [] (zmk c s) Q = Q (some (.inl 0)) (zmk c s) := fun c Q hc => by
      rw [zr_30_0, zr_30_1 (by exact Nat.le_of_ble_eq_true rfl), m_device0 (by rw [zN_of (by omega) (by omega)]; omega), Option.toList_some, List.cons_append, List.nil_append, zr_30_4, show zN 0 = 0 by decide, if_pos (by omega), zr_30_16, zr_30_17 (Or.inl (by decide))]
    exact O_fin (G := fun w Q => zR 30 0 [some (.inr (some 194)), some (.inl a)] [] w Q) hS hc1 hr1 rfl ⟨⟨own, zJ_mono h (by omega)⟩, hb, yRQ.rf⟩
