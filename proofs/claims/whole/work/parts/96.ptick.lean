-- ticks: both sides
theorem m_5_20 {w : zW} {Q : Option zV → zW → Prop} {a i : Int} (k1 : zk w 1 = 0) (k2 : zk w 2 = 15) (l2 : zl w 2 = 2) (p0 : zp w 0 1 = some 2) (b20 : zb w 2 0 = some 70) {w1 : zW} (hb0 : ∀ Q, zR 20 0 [some (.inr (some 1)), some (.inr (some 70)), none] [] (zsf w 5 1 (zf w 5 1 + 1)) Q = Q none w1) (k1_1 : zk w1 1 = 0) (k2_1 : zk w1 2 = 15) (l2_1 : zl w1 2 = 2) (p0_1 : zp w1 0 1 = some 2) (b21_1 : zb w1 2 1 = some 77) {w2 : zW} (hb1 : ∀ Q, zR 20 0 [some (.inr (some 1)), some (.inr (some 77)), none] [] w1 Q = Q none w2) (k1_2 : zk w2 1 = 0) (k5_2 : zk w2 5 = 1) (p3_2 : zp w2 3 1 = some 5) {w3 : zW} (hlk : ∀ Q, zR 105 0 [some (.inr (some 5)), none] [] w2 Q = Q none w3) : zR 5 20 [some (.inr (some 1)), some (.inl a), some (.inl i)] [] w Q = zR 5 15 [some (.inr (some 1)), some (.inl a), some (.inl (i + 1))] [] w3 Q := by
  rw [zr_5_20, zr_5_21, zr_5_22 (by exact k1), zr_5_25, zr_5_26, zr_5_27 (by exact k1), zr_5_30, zr_5_31, zr_5_32 (by exact k1), u_p_sf, p0, zr_5_35, zr_5_36 ⟨by show zNC + 2 < zk w 2; rw [k2]; decide, by show zk w 2 < 1000; rw [k2]; decide, by rw [show zN 0 = 0 by decide]; omega, by rw [show zN 0 = 0 by decide]; show _ < ((zl w 2 : Nat) : Int); rw [l2]; omega⟩, show (zN 0).toNat = 0 by decide, u_b_sf, b20, zr_5_37 (by exact Nat.le_of_ble_eq_true rfl) (by exact k1), hb0, Option.toList_none, List.nil_append, zr_5_40, zr_5_41, zr_5_42 (by exact k1_1), p0_1, zr_5_45, zr_5_46 ⟨by show zNC + 2 < zk w1 2; rw [k2_1]; decide, by show zk w1 2 < 1000; rw [k2_1]; decide, by rw [show zN 1 = 1 by decide]; omega, by rw [show zN 1 = 1 by decide]; show _ < ((zl w1 2 : Nat) : Int); rw [l2_1]; omega⟩, show (zN 1).toNat = 1 by decide, b21_1, zr_5_47 (by exact Nat.le_of_ble_eq_true rfl) (by exact k1_1), hb1, Option.toList_none, List.nil_append, zr_5_50, zr_5_51 (by exact k1_2), p3_2, zr_5_54 (by exact Nat.le_of_ble_eq_true rfl) (by exact k5_2), hlk, Option.toList_none, List.nil_append, zr_5_57, zr_5_60]
theorem m_65_31e {c : zW} {s : zSt} {Q : Option zV → zW → Prop} (hc : zKR c) {a i b : Int} (hb : 0 ≤ b ∧ b ≤ 1) (h5 : s 215 b = 1) {t : zSt} (hgo : ∀ Q, zR 60 0 [some (.inr (some 194)), some (.inl b), none] [] (zmk c s) Q = Q none (zmk c t)) : zR 65 31 [some (.inr (some 194)), some (.inl a), some (.inl i), some (.inl b)] [] (zmk c s) Q = zR 65 31 [some (.inr (some 194)), some (.inl a), some (.inl i), some (.inl (b + 1))] [] (zmk c t) Q := by
  rw [zr_65_31, zr_65_32, zr_65_33, zN_of (x := b) (by omega) (by omega), show zN 2 = 2 by decide, if_neg (by omega), zr_65_36, zr_65_37 (rk_194 hc), rp_93 hc, zr_65_40, zr_65_41 (ri_215 hc (by omega) (by omega)), ra (h := 215) (j := b) (by decide) (by decide) (by omega) (by omega), h5, zr_65_42, zr_65_43, show zN 1 = 1 by decide, if_neg (by omega), zr_65_46, zr_65_47, zr_65_48 (by exact Nat.le_of_ble_eq_true rfl) (rk_194 hc), hgo, Option.toList_none, List.nil_append, zr_65_51, zr_65_59, zr_65_62]
theorem m_65_31p {c : zW} {s : zSt} {Q : Option zV → zW → Prop} (hc : zKR c) {a i b : Int} (hb : 0 ≤ b ∧ b ≤ 1) (h5 : s 215 b ≠ 1) (r5 : 0 ≤ s 215 b ∧ s 215 b ≤ 3) {t : zSt} (hgo : ∀ Q, zR 54 0 [some (.inr (some 194)), some (.inl b), none, none, none, none, none] [] (zmk c s) Q = Q none (zmk c t)) : zR 65 31 [some (.inr (some 194)), some (.inl a), some (.inl i), some (.inl b)] [] (zmk c s) Q = zR 65 31 [some (.inr (some 194)), some (.inl a), some (.inl i), some (.inl (b + 1))] [] (zmk c t) Q := by
  rw [zr_65_31, zr_65_32, zr_65_33, zN_of (x := b) (by omega) (by omega), show zN 2 = 2 by decide, if_neg (by omega), zr_65_36, zr_65_37 (rk_194 hc), rp_93 hc, zr_65_40, zr_65_41 (ri_215 hc (by omega) (by omega)), ra (h := 215) (j := b) (by decide) (by decide) (by omega) (by omega), zr_65_42, zr_65_43, zN_of (x := s 215 b) (by omega) (by omega), show zN 1 = 1 by decide, if_pos (by omega), zr_65_54, zr_65_55, zr_65_56 (by exact Nat.le_of_ble_eq_true rfl) (rk_194 hc), hgo, Option.toList_none, List.nil_append, zr_65_59, zr_65_62]
theorem m_65_19 {c : zW} {s : zSt} {Q : Option zV → zW → Prop} (hc : zKR c) {a i : Int} {l3 : Option zV} : zR 65 19 [some (.inr (some 194)), some (.inl a), some (.inl i), l3] [] (zmk c s) Q = zR 65 31 [some (.inr (some 194)), some (.inl a), some (.inl i), some (.inl 0)] [] (zmk c (zv s 72 0 (s 72 0 + 1))) Q := by
  rw [zr_65_19, zr_65_20, zr_65_21 (rk_194 hc), v_f (f := 72) (by decide), zr_65_24, zr_65_25, zr_65_26 (rk_194 hc), v_sf (f := 72) (by decide), zr_65_29, zr_65_30]
theorem m_65_31z {c : zW} {s : zSt} {Q : Option zV → zW → Prop} (hc : zKR c) {a i : Int} {t : zSt} (hlk : ∀ Q, zR 64 0 [some (.inr (some 194)), none] [] (zmk c s) Q = Q none (zmk c t)) : zR 65 31 [some (.inr (some 194)), some (.inl a), some (.inl i), some (.inl 2)] [] (zmk c s) Q = zR 65 14 [some (.inr (some 194)), some (.inl a), some (.inl (i + 1)), some (.inl 2)] [] (zmk c t) Q := by
  rw [zr_65_31, zr_65_32, zr_65_33, show zN 2 = 2 by decide, if_pos (by omega), zr_65_65, zr_65_66 (by exact Nat.le_of_ble_eq_true rfl) (rk_194 hc), hlk, Option.toList_none, List.nil_append, zr_65_69, zr_65_72]
theorem P_bus {L : Nat} {xs : Nat → Int} {B : Int} {own : Nat → Nat} {s : zSt} {w : zW} (hb : zBase L xs w) (h : zJ0 B 8 own s w) {b : Nat} (hb2 : b < 2) (hB : B + 7 < 1999999999) : ∃ v t, (∀ Q, zR 20 0 [some (.inr (some 1)), some (.inr (some (70 + 7 * b))), none] [] w Q = Q none v) ∧ (∀ c Q a i, zKR c → zR 65 31 [some (.inr (some 194)), some (.inl a), some (.inl i), some (.inl (b : Int))] [] (zmk c s) Q = zR 65 31 [some (.inr (some 194)), some (.inl a), some (.inl i), some (.inl ((b : Int) + 1))] [] (zmk c t) Q) ∧ yEnd L xs (B + 7) t w v := by
  by_cases c : s 215 (b : Int) = 1
  · obtain ⟨v, t, a1, a2, ⟨o, a3⟩, a4, a5⟩ := P_enum hb h hb2 c
    exact ⟨v, t, a1, fun c2 Q a i hc => m_65_31e hc (by omega) c (fun Q => a2 c2 Q hc), ⟨o, zJ_mono a3 (by omega)⟩, a4, a5⟩
  · obtain ⟨v, t, a1, a2, a3⟩ := P_packets hb h hb2 c hB
    have r5 := (h.2.2.2.2.2.2.2.1.2.1 (b : Int) (by omega) (by omega)).1
    exact ⟨v, t, a1, fun c2 Q a i hc => m_65_31p hc (by omega) c r5 (fun Q => a2 c2 Q hc), a3⟩
theorem P_tick1 {L : Nat} {xs : Nat → Int} {B : Int} {own : Nat → Nat} {s : zSt} {w : zW} (hb : zBase L xs w) (h : zJ0 B 8 own s w) (hB : B + 14 < 1999999999) : ∃ v t, (∀ Q a i, zR 5 20 [some (.inr (some 1)), some (.inl a), some (.inl i)] [] w Q = zR 5 15 [some (.inr (some 1)), some (.inl a), some (.inl (i + 1))] [] v Q) ∧ (∀ c Q a i l3, zKR c → zR 65 19 [some (.inr (some 194)), some (.inl a), some (.inl i), l3] [] (zmk c s) Q = zR 65 14 [some (.inr (some 194)), some (.inl a), some (.inl (i + 1)), some (.inl 2)] [] (zmk c t) Q) ∧ yEnd L xs (B + 14) t w v := by
  have gm := h.2.2.2.2.2.2.2.2.2.1
  have J0 : zJ0 B 8 own (zv s 72 0 (s 72 0 + 1)) (zsf w 5 1 (zf w 5 1 + 1)) := by
    refine zJ_M h ⟨rfl, fun f hf k => u_f_ne (fun q => hf (by rw [q]; rfl)), rfl, fun _ _ _ => rfl, rfl, fun a ha x => zv_ne (fun q => ha (by rw [q]; rfl))⟩ ⟨⟨?_, fun j hj => ?_⟩, ?_⟩
    · rw [u_f_eq, zv_eq, gm.1.1]
    · rw [zv_ne (by decide)]
      exact gm.1.2 j hj
    · unfold iM
      simp only [zv_ne (show 230 ≠ 72 by decide)]
      exact gm.2
  have hb0 : zBase L xs (zsf w 5 1 (zf w 5 1 + 1)) := zBase_sf hb ⟨rfl, rfl, rfl⟩ (fun _ => rfl)
  have rq0 : yRQ w (zsf w 5 1 (zf w 5 1 + 1)) := ⟨fun f f1 f2 => u_f_ne (by omega), fun _ _ _ _ => rfl⟩
  obtain ⟨w1, t1, a1, a2, ⟨o1, a3⟩, a4, a5⟩ := P_bus hb0 J0 (show 0 < 2 by omega) (by omega)
  obtain ⟨w2, t2, c1, c2, ⟨o2, c3⟩, c4, c5⟩ := P_bus a4 a3 (show 1 < 2 by omega) (by omega)
  obtain ⟨w3, t3, d1, d2, ⟨o3, d3⟩, d4, d5⟩ := P_looks c4 c3
  have x0 := (zBus_all hb h.1 (show 0 < 2 by omega)).2.2.2.2.2.2.2.2.2
  have x1 := (zBus_all a4 a3.1 (show 1 < 2 by omega)).2.2.2.2.2.2.2.2.2
  refine ⟨w3, t3, fun Q a i => m_5_20 (zk_at_1 hb) (zk_at_2 hb) (zl_at_2 hb) (zcq_0_1 h.1) x0 a1 (zk_at_1 a4) (zk_at_2 a4) (zl_at_2 a4) (zcq_0_1 a3.1) x1 c1 (zk_at_1 c4) (zk_at_5 c4) (zcq_3_1 c3.1) d1, fun c Q a i l3 hc => ?_, ⟨o3, zJ_mono d3 (by omega)⟩, d4, yRQ.tr rq0 (yRQ.tr a5 (yRQ.tr c5 d5))⟩
  exact (m_65_19 hc).trans ((a2 c Q a i hc).trans ((c2 c Q a i hc).trans (m_65_31z hc (fun Q => d2 c Q hc))))
theorem P_ticks {L : Nat} {xs : Nat → Int} {n : Nat} (hn : n ≤ 100) : ∀ (j i : Nat) (B : Int) (own : Nat → Nat) (s : zSt) (w : zW), i + j = n → zBase L xs w → zJ0 B 8 own s w → B + 14 * (j : Int) < 1999999999 → ∃ x v t, (∀ Q, zR 5 15 [some (.inr (some 1)), some (.inl (n : Int)), some (.inl (i : Int))] [] w Q = Q (some (.inl x)) v) ∧ (∀ c Q l3, zKR c → zR 65 14 [some (.inr (some 194)), some (.inl (n : Int)), some (.inl (i : Int)), l3] [] (zmk c s) Q = Q (some (.inl x)) (zmk c t)) ∧ yEnd L xs (B + 14 * (j : Int)) t w v := by
  intro j
  induction j with
  | zero =>
    intro i B own s w hi hb h hB
    have : n = i := by omega
    subst this
    refine ⟨s 72 0, w, s, fun Q => ?_, fun c Q l3 hc => ?_, ⟨own, zJ_mono h (by omega)⟩, hb, yRQ.rf⟩
    · rw [zr_5_15, zr_5_16, zr_5_17, if_pos (Int.le_refl _), zr_5_63, zr_5_64 (zk_at_1 hb), h.2.2.2.2.2.2.2.2.2.1.1.1, zr_5_67]
    · rw [zr_65_14, zr_65_15, zr_65_16, if_pos (Int.le_refl _), zr_65_75, zr_65_76 (rk_194 hc), v_f (f := 72) (by decide), zr_65_79]
  | succ j ih =>
    intro i B own s w hi hb h hB
    obtain ⟨v, t, a1, a2, ⟨o, a3⟩, a4, a5⟩ := P_tick1 hb h (by omega)
    obtain ⟨x, v2, t2, c1, c2, ⟨o2, c3⟩, c4, c5⟩ := ih (i + 1) (B + 14) o t v (by omega) a4 a3 (by omega)
    refine ⟨x, v2, t2, fun Q => ?_, fun c Q l3 hc => ?_, ⟨o2, zJ_mono c3 (by omega)⟩, c4, yRQ.tr a5 c5⟩
    · rw [zr_5_15, zr_5_16, zr_5_17, zN_of (x := (i : Int)) (by omega) (by omega), zN_of (x := (n : Int)) (by omega) (by omega), if_neg (by omega), a1]
      exact c1 Q
    · rw [zr_65_14, zr_65_15, zr_65_16, zN_of (x := (i : Int)) (by omega) (by omega), zN_of (x := (n : Int)) (by omega) (by omega), if_neg (by omega), a2 c Q _ _ l3 hc]
      exact c2 c Q _ hc
-- out of both sides' runs: what the law wants of a call
theorem O_fin {L : Nat} {xs : Nat → Int} {B : Int} {s t : zSt} {w v : zW} {r r2 : Int} {F : (Option zV → zW → Prop) → Prop} {G : zW → (Option zV → zW → Prop) → Prop} (hS : zmk w s = w) (h1 : ∀ Q, F Q = Q (some (.inl r)) v) (h2 : ∀ c Q, zKR c → G (zmk c s) Q = Q (some (.inl r2)) (zmk c t)) (hN : zN r = zN r2) (hE : yEnd L xs B t w v) : F (fun r w1 => ∃ v, r = some (.inl v) ∧ (zBase L xs w1 → G w1 (fun r2 w2 => ∃ v2, r2 = some (.inl v2) ∧ zN v = zN v2 ∧ (zBase L xs w2 → zPJ B w2)))) := by
  obtain ⟨⟨own, a1⟩, a2, a3⟩ := hE
  rw [h1]
  refine ⟨r, rfl, fun hb => ?_⟩
  have e : zmk v s = v := a3.mk hS
  have q := h2 v (fun r2 w2 => ∃ v2, r2 = some (.inl v2) ∧ zN r = zN v2 ∧ (zBase L xs w2 → zPJ B w2)) (zKR_of a2 a1.1)
  rw [e] at q
  rw [q]
  exact ⟨r2, rfl, hN, fun _ => ⟨own, t, zJ_mk a1, zmk_mk⟩⟩
def zJP (L : Nat) (xs : Nat → Int) (B : Int) (w : zW) : Prop := zBase L xs w ∧ zPJ B w
theorem m_5_r {w : zW} {Q : Option zV → zW → Prop} {a : Int} (rg : -2147483648 ≤ a ∧ a < 2147483648) (h : ¬ (1 ≤ a ∧ a ≤ 100)) : zR 5 0 [some (.inr (some 1)), some (.inl a), none] [] w Q = Q (some (.inl (-1))) w := by
  by_cases c1 : a < 1
  · skip
    rw [zr_5_0, zr_5_1, zr_5_2, zN_of (x := a) (by omega) (by omega), show zN 1 = 1 by decide, if_pos (by omega), zr_5_11, zr_5_12]
  · skip
    rw [zr_5_0, zr_5_1, zr_5_2, zN_of (x := a) (by omega) (by omega), show zN 1 = 1 by decide, if_neg (by omega), zr_5_5, zr_5_6, zr_5_8, zN_of (x := a) (by omega) (by omega), show zN 100 = 100 by decide, if_neg (by omega), zr_5_11, zr_5_12]
theorem m_65_r {c : zW} {s : zSt} {Q : Option zV → zW → Prop} (hc : zKR c) {a : Int} (rg : -2147483648 ≤ a ∧ a < 2147483648) (h : ¬ (1 ≤ a ∧ a ≤ 100)) : zR 65 0 [some (.inr (some 194)), some (.inl a), none, none] [] (zmk c s) Q = Q (some (.inl (-1))) (zmk c s) := by
  by_cases c1 : a < 1
  · skip
    rw [zr_65_0, zr_65_1, zr_65_2, zr_65_4 (by exact Nat.le_of_ble_eq_true rfl), zr_24_0, zr_24_1, zr_24_2, zN_of (x := a) (by omega) (by omega), show zN 1 = 1 by decide, if_pos (by omega), zr_24_14, zr_24_15 (Or.inl (by decide)), Option.toList_some, List.cons_append, List.nil_append, zr_65_7, show zN 0 = 0 by decide, if_neg (by omega), zr_65_10, zr_65_11]
  · skip
    rw [zr_65_0, zr_65_1, zr_65_2, zr_65_4 (by exact Nat.le_of_ble_eq_true rfl), zr_24_0, zr_24_1, zr_24_2, zN_of (x := a) (by omega) (by omega), show zN 1 = 1 by decide, if_neg (by omega), zr_24_5, zr_24_6, zr_24_7, zN_of (x := a) (by omega) (by omega), show zN 100 = 100 by decide, if_pos (by omega), zr_24_14, zr_24_15 (Or.inl (by decide)), Option.toList_some, List.cons_append, List.nil_append, zr_65_7, show zN 0 = 0 by decide, if_neg (by omega), zr_65_10, zr_65_11]
theorem m_5_0 {w : zW} {Q : Option zV → zW → Prop} {a : Int} (h : 1 ≤ a ∧ a ≤ 100) : zR 5 0 [some (.inr (some 1)), some (.inl a), none] [] w Q = zR 5 15 [some (.inr (some 1)), some (.inl a), some (.inl 0)] [] w Q := by
  rw [zr_5_0, zr_5_1, zr_5_2, zN_of (x := a) (by omega) (by omega), show zN 1 = 1 by decide, if_neg (by omega), zr_5_5, zr_5_6, zr_5_8, zN_of (x := a) (by omega) (by omega), show zN 100 = 100 by decide, if_pos (by omega), zr_5_13, zr_5_14]
theorem m_65_0 {c : zW} {s : zSt} {Q : Option zV → zW → Prop} (hc : zKR c) {a : Int} (h : 1 ≤ a ∧ a ≤ 100) : zR 65 0 [some (.inr (some 194)), some (.inl a), none, none] [] (zmk c s) Q = zR 65 14 [some (.inr (some 194)), some (.inl a), some (.inl 0), none] [] (zmk c s) Q := by
  rw [zr_65_0, zr_65_1, zr_65_2, zr_65_4 (by exact Nat.le_of_ble_eq_true rfl), zr_24_0, zr_24_1, zr_24_2, zN_of (x := a) (by omega) (by omega), show zN 1 = 1 by decide, if_neg (by omega), zr_24_5, zr_24_6, zr_24_7, zN_of (x := a) (by omega) (by omega), show zN 100 = 100 by decide, if_neg (by omega), zr_24_10, zr_24_11, zr_24_15 (Or.inr (by decide)), Option.toList_some, List.cons_append, List.nil_append, zr_65_7, show zN 1 = 1 by decide, if_pos (by omega), zr_65_12, zr_65_13]
theorem o_op_4 {L : Nat} {xs : Nat → Int} {B : Int} {w : zW} (hb : zBase L xs w) (hP : zPJ B w) (hB : B < 1000000000) (a : Int) (rg : -2147483648 ≤ a ∧ a < 2147483648) : zR 5 0 [some (.inr (some 1)), some (.inl a), none] [] w (fun r w1 => ∃ v, r = some (.inl v) ∧ (zBase L xs w1 → zR 65 0 [some (.inr (some 194)), some (.inl a), none, none] [] w1 (fun r2 w2 => ∃ v2, r2 = some (.inl v2) ∧ zN v = zN v2 ∧ (zBase L xs w2 → zPJ (B + 1400) w2)))) := by
  obtain ⟨own, s, h, hS⟩ := hP
  by_cases c : 1 ≤ a ∧ a ≤ 100
  · obtain ⟨n, hn⟩ : ∃ n : Nat, a = (n : Int) := ⟨a.toNat, by omega⟩
    subst hn
    obtain ⟨x, v, t, c1, c2, ⟨o, c3⟩, c4, c5⟩ := P_ticks (show n ≤ 100 by omega) n 0 B own s w (by omega) hb h (by omega)
    exact O_fin (G := fun w Q => zR 65 0 [some (.inr (some 194)), some (.inl (n : Int)), none, none] [] w Q) hS (fun Q => (m_5_0 c).trans (c1 Q)) (fun cc Q hc => (m_65_0 hc c).trans (c2 cc Q _ hc)) rfl ⟨⟨o, zJ_mono c3 (by omega)⟩, c4, c5⟩
  · exact O_fin (G := fun w Q => zR 65 0 [some (.inr (some 194)), some (.inl a), none, none] [] w Q) hS (fun Q => m_5_r rg c) (fun cc Q hc => m_65_r hc rg c) rfl ⟨⟨own, zJ_mono h (by omega)⟩, hb, yRQ.rf⟩
