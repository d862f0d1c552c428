-- plug on a fresh world: refused; and both
set_option maxHeartbeats 4000000 in
theorem f_op_0x {L : Nat} {xs : Nat → Int} {w : zW} (hb : zBase L xs w) (hf : zFresh w) (a b c : Int) (ra : -2147483648 ≤ a ∧ a < 2147483648) (rb : -2147483648 ≤ b ∧ b < 2147483648) (rc : -2147483648 ≤ c ∧ c < 2147483648) (Q : Option zV → zW → Prop) (hQ : Q = fun r w1 => ∃ v, r = some (.inl v) ∧ (zBase L xs w1 → zR 29 0 [some (.inr (some 194)), some (.inl a), some (.inl b), some (.inl c), none] [] w1 (fun r2 w2 => ∃ v2, r2 = some (.inl v2) ∧ zN v = zN v2 ∧ (zBase L xs w2 → zEnd L xs w2)))) (hbad : ¬ (2 ≤ a ∧ a ≤ 6 ∧ 0 ≤ b ∧ b ≤ 1 ∧ 0 ≤ c ∧ c ≤ 65535)) : zR 1 0 [some (.inr (some 1)), some (.inl a), some (.inl b), some (.inl c), none] [] w Q := by
  have hNC : zNC = 12 := rfl
  have hn := hf.1
  have hs := hf.2.1
  have ea : zN a = a := zN_of ra.1 ra.2
  have eb : zN b = b := zN_of rb.1 rb.2
  have ec : zN c = c := zN_of rc.1 rc.2
  have k1 := zk_at_1 hb; have k3 := zk_at_3 hb; have l3 := zl_at_3 hb; have k84 := zk_at_84 hb; have k106 := zk_at_106 hb; have k128 := zk_at_128 hb; have k150 := zk_at_150 hb; have k172 := zk_at_172 hb
  rcases (show a = 2 ∨ a = 3 ∨ a = 4 ∨ a = 5 ∨ a = 6 ∨ (a < 2 ∨ 6 < a) by omega) with rfl | rfl | rfl | rfl | rfl | ha
  all_goals rcases (show b = 0 ∨ b = 1 ∨ (b < 0 ∨ 1 < b) by omega) with rfl | rfl | hb0
  all_goals rcases Decidable.em (c < 0) with t0 | t0
  all_goals rcases Decidable.em (c ≤ 65535) with t1 | t1
  all_goals first | (exfalso; omega) | skip
  all_goals simp (maxSteps := 1000000) (disch := first | decide | assumption | omega | (simp only [u_k_sf, u_k_sp, u_k_sa, u_k_sb, u_l_sf, u_l_sp, u_l_sa, u_l_sb]; first | assumption | omega) | (simp (disch := omega) only [u_k_sf, u_k_sp, u_k_sa, u_k_sb, u_l_sf, u_l_sp, u_l_sa, u_l_sb, zN_of, true_or, or_true, and_true, true_and]; omega)) only [zr_1_0, zr_1_1, zr_1_4, zr_1_7, zr_1_8, zr_1_11, zr_1_12, zr_1_13c8, zr_1_16, zr_1_17, zr_1_20, zr_1_21, zr_1_24, zr_1_27, zr_1_28, zr_1_29, zr_1_30, zr_1_33, zr_1_34, zr_1_36, zr_1_39, zr_1_40, m_isBus1, m_isBus0, m_isDev1, m_isDev0, m_within1, m_within0, m_device1, m_device0, zN_of, Option.toList_some, Option.toList_none, List.cons_append, List.nil_append, Int.toNat_natCast, ne_eq, not_true_eq_false, not_false_eq_true, ↓reduceIte, if_true, if_false, Int.reduceEq, Int.reduceNe, Int.reduceLT, Int.reduceLE, Int.reduceToNat, Int.reduceAdd, Int.reduceMul, Int.reduceSub, Int.reduceNeg, Nat.reduceAdd, Nat.reduceMul, true_and, and_true, false_and, and_false, (zff_5_1 hf), (zfp_0_1 hf), (zfp_1_1 hf), (zfp_2_1 hf), (zfp_3_1 hf), (zfp_4_1 hf), (zfb_3_0 hf), (zfb_3_1 hf), (zfb_3_2 hf), (zfb_3_3 hf), (zfb_3_4 hf), (zfb_3_5 hf), (zfb_3_6 hf), (zff_32_84 hf), (zff_33_84 hf), (zff_34_84 hf), (zff_35_84 hf), (zff_36_84 hf), (zff_38_84 hf), (zff_39_84 hf), (zff_15_84 hf), (zfp_37_84 hf), (zfp_40_84 hf), (zfp_14_84 hf), (zfp_16_84 hf), (zff_32_106 hf), (zff_33_106 hf), (zff_34_106 hf), (zff_35_106 hf), (zff_36_106 hf), (zff_38_106 hf), (zff_39_106 hf), (zff_15_106 hf), (zfp_37_106 hf), (zfp_40_106 hf), (zfp_14_106 hf), (zfp_16_106 hf), (zff_32_128 hf), (zff_33_128 hf), (zff_34_128 hf), (zff_35_128 hf), (zff_36_128 hf), (zff_38_128 hf), (zff_39_128 hf), (zff_15_128 hf), (zfp_37_128 hf), (zfp_40_128 hf), (zfp_14_128 hf), (zfp_16_128 hf), (zff_32_150 hf), (zff_33_150 hf), (zff_34_150 hf), (zff_35_150 hf), (zff_36_150 hf), (zff_38_150 hf), (zff_39_150 hf), (zff_15_150 hf), (zfp_37_150 hf), (zfp_40_150 hf), (zfp_14_150 hf), (zfp_16_150 hf), (zff_32_172 hf), (zff_33_172 hf), (zff_34_172 hf), (zff_35_172 hf), (zff_36_172 hf), (zff_38_172 hf), (zff_39_172 hf), (zff_15_172 hf), (zfp_37_172 hf), (zfp_40_172 hf), (zfp_14_172 hf), (zfp_16_172 hf), t0, t1, ea, eb, ec]
  all_goals (subst hQ; refine ⟨_, rfl, fun hb1 => ?_⟩)
  all_goals (have mk194 := zk_at_194 hb1; have mk195 := zk_at_195 hb1; have ml195 := zl_at_195 hb1)
  all_goals simp (maxSteps := 1000000) (disch := first | decide | assumption | omega | (simp only [u_k_sf, u_k_sp, u_k_sa, u_k_sb, u_l_sf, u_l_sp, u_l_sa, u_l_sb]; first | assumption | omega) | (simp (disch := omega) only [u_k_sf, u_k_sp, u_k_sa, u_k_sb, u_l_sf, u_l_sp, u_l_sa, u_l_sb, zN_of, true_or, or_true, and_true, true_and]; omega)) only [zr_29_0, zr_29_1, zr_29_4, zr_29_7, zr_29_8, zr_29_11, zr_29_12, zr_29_13, zr_29_16, zr_29_17, zr_29_18, zr_29_19, zr_29_22, zr_29_25, zr_29_26, zr_29_27, zr_29_29, zr_29_32, zr_29_35, zr_29_36, zr_29_37, zr_29_38, zr_29_41, zr_29_42, zr_29_43, m_isBus1, m_isBus0, m_isDev1, m_isDev0, m_within1, m_within0, m_device1, m_device0, zN_of, Option.toList_some, Option.toList_none, List.cons_append, List.nil_append, Int.toNat_natCast, ne_eq, not_true_eq_false, not_false_eq_true, ↓reduceIte, if_true, if_false, Int.reduceEq, Int.reduceNe, Int.reduceLT, Int.reduceLE, Int.reduceToNat, Int.reduceAdd, Int.reduceMul, Int.reduceSub, Int.reduceNeg, Nat.reduceAdd, Nat.reduceMul, true_and, and_true, false_and, and_false, (zfp_73_194 hf), (zfa_195_0 hf), (zfa_195_1 hf), (zfa_195_2 hf), (zfa_195_3 hf), (zfa_195_4 hf), (zfa_195_5 hf), (zfa_195_6 hf), (zfa_195_7 hf), t0, t1, ea, eb, ec]
  all_goals exact ⟨_, rfl, rfl, fun hb2 => ⟨hb2, by show zn w ≤ 600000; omega, by show zsl w ≤ 7302250; omega⟩⟩
theorem f_op_0 {L : Nat} {xs : Nat → Int} {w : zW} (hb : zBase L xs w) (hf : zFresh w) (a b c : Int) (ra : -2147483648 ≤ a ∧ a < 2147483648) (rb : -2147483648 ≤ b ∧ b < 2147483648) (rc : -2147483648 ≤ c ∧ c < 2147483648) (Q : Option zV → zW → Prop) (hQ : Q = fun r w1 => ∃ v, r = some (.inl v) ∧ (zBase L xs w1 → zR 29 0 [some (.inr (some 194)), some (.inl a), some (.inl b), some (.inl c), none] [] w1 (fun r2 w2 => ∃ v2, r2 = some (.inl v2) ∧ zN v = zN v2 ∧ (zBase L xs w2 → zEnd L xs w2)))) : zR 1 0 [some (.inr (some 1)), some (.inl a), some (.inl b), some (.inl c), none] [] w Q := by
  rcases Decidable.em (2 ≤ a ∧ a ≤ 6 ∧ 0 ≤ b ∧ b ≤ 1 ∧ 0 ≤ c ∧ c ≤ 65535) with h | h
  · rcases (show a = 2 ∨ a = 3 ∨ a = 4 ∨ a = 5 ∨ a = 6 by omega) with rfl | rfl | rfl | rfl | rfl
    · rcases (show b = 0 ∨ b = 1 by omega) with rfl | rfl
      · exact f_op_0_2_0 hb hf c ⟨by omega, by omega⟩ Q hQ
      · exact f_op_0_2_1 hb hf c ⟨by omega, by omega⟩ Q hQ
    · rcases (show b = 0 ∨ b = 1 by omega) with rfl | rfl
      · exact f_op_0_3_0 hb hf c ⟨by omega, by omega⟩ Q hQ
      · exact f_op_0_3_1 hb hf c ⟨by omega, by omega⟩ Q hQ
    · rcases (show b = 0 ∨ b = 1 by omega) with rfl | rfl
      · exact f_op_0_4_0 hb hf c ⟨by omega, by omega⟩ Q hQ
      · exact f_op_0_4_1 hb hf c ⟨by omega, by omega⟩ Q hQ
    · rcases (show b = 0 ∨ b = 1 by omega) with rfl | rfl
      · exact f_op_0_5_0 hb hf c ⟨by omega, by omega⟩ Q hQ
      · exact f_op_0_5_1 hb hf c ⟨by omega, by omega⟩ Q hQ
    · rcases (show b = 0 ∨ b = 1 by omega) with rfl | rfl
      · exact f_op_0_6_0 hb hf c ⟨by omega, by omega⟩ Q hQ
      · exact f_op_0_6_1 hb hf c ⟨by omega, by omega⟩ Q hQ
  · exact f_op_0x hb hf a b c ra rb rc Q hQ h
