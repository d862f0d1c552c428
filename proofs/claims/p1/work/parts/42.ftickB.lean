-- tick on a fresh world: the call
theorem f_op_4 {L : Nat} {xs : Nat → Int} {w : zW} (hb : zBase L xs w) (hf : zFresh w) (a : Int) (ra : -2147483648 ≤ a ∧ a < 2147483648) (Q : Option zV → zW → Prop) (hQ : Q = fun r w1 => ∃ v, r = some (.inl v) ∧ (zBase L xs w1 → zR 65 0 [some (.inr (some 194)), some (.inl a), none, none] [] w1 (fun r2 w2 => ∃ v2, r2 = some (.inl v2) ∧ zN v = zN v2 ∧ (zBase L xs w2 → zEnd L xs w2)))) : zR 5 0 [some (.inr (some 1)), some (.inl a), none] [] w Q := by
  have hn := hf.1
  have hs := hf.2.1
  have ea : zN a = a := zN_of ra.1 ra.2
  rcases Decidable.em (a < 1) with t0 | t0
  all_goals rcases Decidable.em (a ≤ 100) with t1 | t1
  all_goals first | (exfalso; omega) | skip
  · simp (maxSteps := 1000000) (disch := first | decide | assumption | omega | (simp only [u_k_sf, u_k_sp, u_k_sa, u_k_sb, u_l_sf, u_l_sp, u_l_sa, u_l_sb]; first | assumption | omega) | (simp (disch := omega) only [u_k_sf, u_k_sp, u_k_sa, u_k_sb, u_l_sf, u_l_sp, u_l_sa, u_l_sb, zN_of, true_or, or_true, and_true, true_and]; omega)) only [zr_5_0, zr_5_1, zr_5_2, zr_5_5, zr_5_6, zr_5_8, zr_5_11, zr_5_12, zr_5_13, zr_5_14, m_isBus1, m_isBus0, m_isDev1, m_isDev0, m_within1, m_within0, m_device1, m_device0, zN_of, Option.toList_some, Option.toList_none, List.cons_append, List.nil_append, Int.toNat_natCast, ne_eq, not_true_eq_false, not_false_eq_true, ↓reduceIte, if_true, if_false, Int.reduceEq, Int.reduceNe, Int.reduceLT, Int.reduceLE, Int.reduceToNat, Int.reduceAdd, Int.reduceMul, Int.reduceSub, Int.reduceNeg, Nat.reduceAdd, Nat.reduceMul, true_and, and_true, false_and, and_false, t0, t1, ea]
    subst hQ
    refine ⟨_, rfl, fun hb1 => ?_⟩
    simp (maxSteps := 1000000) (disch := first | decide | assumption | omega | (simp only [u_k_sf, u_k_sp, u_k_sa, u_k_sb, u_l_sf, u_l_sp, u_l_sa, u_l_sb]; first | assumption | omega) | (simp (disch := omega) only [u_k_sf, u_k_sp, u_k_sa, u_k_sb, u_l_sf, u_l_sp, u_l_sa, u_l_sb, zN_of, true_or, or_true, and_true, true_and]; omega)) only [zr_65_0, zr_65_1, zr_65_2, zr_65_4, zr_65_7, zr_65_10, zr_65_11, zr_65_12, zr_65_13, m_isBus1, m_isBus0, m_isDev1, m_isDev0, m_within1, m_within0, m_device1, m_device0, zN_of, Option.toList_some, Option.toList_none, List.cons_append, List.nil_append, Int.toNat_natCast, ne_eq, not_true_eq_false, not_false_eq_true, ↓reduceIte, if_true, if_false, Int.reduceEq, Int.reduceNe, Int.reduceLT, Int.reduceLE, Int.reduceToNat, Int.reduceAdd, Int.reduceMul, Int.reduceSub, Int.reduceNeg, Nat.reduceAdd, Nat.reduceMul, true_and, and_true, false_and, and_false, t0, t1, ea]
    exact ⟨_, rfl, rfl, fun hb2 => ⟨hb2, by omega, by omega⟩⟩
  · obtain ⟨n, rfl⟩ : ∃ n : Nat, a = (n : Int) := ⟨a.toNat, by omega⟩
    have key : ∀ (m i : Nat), m + i = n → zR 5 15 [some (.inr (some 1)), some (.inl (n : Int)), some (.inl (i : Int))] [] (zsf w 5 1 (i : Int)) Q := by
      intro m
      induction m with
      | zero =>
        intro i hi
        have hi : i = n := by omega
        subst hi
        rw [zr_5_15, zr_5_16, zr_5_17, if_pos (Int.le_refl _), zr_5_63, zr_5_64 (by exact zk_at_1 hb), u_f_eq, zr_5_67]
        subst hQ
        refine ⟨_, rfl, fun hb1 => ?_⟩
        simp (maxSteps := 1000000) (disch := first | decide | assumption | omega | (simp only [u_k_sf, u_k_sp, u_k_sa, u_k_sb, u_l_sf, u_l_sp, u_l_sa, u_l_sb]; first | assumption | omega) | (simp (disch := omega) only [u_k_sf, u_k_sp, u_k_sa, u_k_sb, u_l_sf, u_l_sp, u_l_sa, u_l_sb, zN_of, true_or, or_true, and_true, true_and]; omega)) only [zr_65_0, zr_65_1, zr_65_2, zr_65_4, zr_65_7, zr_65_10, zr_65_11, zr_65_12, zr_65_13, m_isBus1, m_isBus0, m_isDev1, m_isDev0, m_within1, m_within0, m_device1, m_device0, zN_of, Option.toList_some, Option.toList_none, List.cons_append, List.nil_append, Int.toNat_natCast, ne_eq, not_true_eq_false, not_false_eq_true, ↓reduceIte, if_true, if_false, Int.reduceEq, Int.reduceNe, Int.reduceLT, Int.reduceLE, Int.reduceToNat, Int.reduceAdd, Int.reduceMul, Int.reduceSub, Int.reduceNeg, Nat.reduceAdd, Nat.reduceMul, true_and, and_true, false_and, and_false, t0, t1, ea]
        have key2 : ∀ (m j : Nat) (l3 : Option zV), m + j = i → zR 65 14 [some (.inr (some 194)), some (.inl (i : Int)), some (.inl (j : Int)), l3] [] (zsf (zsf w 5 1 (i : Int)) 72 194 (j : Int)) (fun r2 w2 => ∃ v2, r2 = some (.inl v2) ∧ (i : Int) = zN v2 ∧ (zBase L xs w2 → zEnd L xs w2)) := by
          intro m
          induction m with
          | zero =>
            intro j l3 hj
            have hj : j = i := by omega
            subst hj
            rw [zr_65_14, zr_65_15, zr_65_16, if_pos (Int.le_refl _), zr_65_75, zr_65_76 (by exact zk_at_194 hb), u_f_eq, zr_65_79]
            exact ⟨_, rfl, by omega, fun hb2 => ⟨hb2, by show zn w ≤ 600000; omega, by show zsl w ≤ 7302250; omega⟩⟩
          | succ m ih =>
            intro j l3 hj
            rw [zr_65_14, zr_65_15, zr_65_16, ea, zN_of (x := (j : Int)) (by omega) (by omega), if_neg (by omega), m_tick2 hb hf]
            exact ih (j + 1) _ (by omega)
        have h2 := key2 i 0 none (by omega)
        have e0 : zf (zsf w 5 1 (i : Int)) 72 194 = ((0 : Nat) : Int) := by
          rw [u_f_ne (by decide)]
          exact zff_72_194 hf
        rw [zsf_id e0] at h2
        exact h2
      | succ m ih =>
        intro i hi
        rw [zr_5_15, zr_5_16, zr_5_17, ea, zN_of (x := (i : Int)) (by omega) (by omega), if_neg (by omega), m_tick1 hb hf]
        exact ih (i + 1) (by omega)
    have h1 := key n 0 (by omega)
    have e0 : zf w 5 1 = ((0 : Nat) : Int) := zff_5_1 hf
    rw [zsf_id e0] at h1
    simp (maxSteps := 1000000) (disch := first | decide | assumption | omega | (simp only [u_k_sf, u_k_sp, u_k_sa, u_k_sb, u_l_sf, u_l_sp, u_l_sa, u_l_sb]; first | assumption | omega) | (simp (disch := omega) only [u_k_sf, u_k_sp, u_k_sa, u_k_sb, u_l_sf, u_l_sp, u_l_sa, u_l_sb, zN_of, true_or, or_true, and_true, true_and]; omega)) only [zr_5_0, zr_5_1, zr_5_2, zr_5_5, zr_5_6, zr_5_8, zr_5_11, zr_5_12, zr_5_13, zr_5_14, m_isBus1, m_isBus0, m_isDev1, m_isDev0, m_within1, m_within0, m_device1, m_device0, zN_of, Option.toList_some, Option.toList_none, List.cons_append, List.nil_append, Int.toNat_natCast, ne_eq, not_true_eq_false, not_false_eq_true, ↓reduceIte, if_true, if_false, Int.reduceEq, Int.reduceNe, Int.reduceLT, Int.reduceLE, Int.reduceToNat, Int.reduceAdd, Int.reduceMul, Int.reduceSub, Int.reduceNeg, Nat.reduceAdd, Nat.reduceMul, true_and, and_true, false_and, and_false, t0, t1, ea]
    exact h1
  · simp (maxSteps := 1000000) (disch := first | decide | assumption | omega | (simp only [u_k_sf, u_k_sp, u_k_sa, u_k_sb, u_l_sf, u_l_sp, u_l_sa, u_l_sb]; first | assumption | omega) | (simp (disch := omega) only [u_k_sf, u_k_sp, u_k_sa, u_k_sb, u_l_sf, u_l_sp, u_l_sa, u_l_sb, zN_of, true_or, or_true, and_true, true_and]; omega)) only [zr_5_0, zr_5_1, zr_5_2, zr_5_5, zr_5_6, zr_5_8, zr_5_11, zr_5_12, zr_5_13, zr_5_14, m_isBus1, m_isBus0, m_isDev1, m_isDev0, m_within1, m_within0, m_device1, m_device0, zN_of, Option.toList_some, Option.toList_none, List.cons_append, List.nil_append, Int.toNat_natCast, ne_eq, not_true_eq_false, not_false_eq_true, ↓reduceIte, if_true, if_false, Int.reduceEq, Int.reduceNe, Int.reduceLT, Int.reduceLE, Int.reduceToNat, Int.reduceAdd, Int.reduceMul, Int.reduceSub, Int.reduceNeg, Nat.reduceAdd, Nat.reduceMul, true_and, and_true, false_and, and_false, t0, t1, ea]
    subst hQ
    refine ⟨_, rfl, fun hb1 => ?_⟩
    simp (maxSteps := 1000000) (disch := first | decide | assumption | omega | (simp only [u_k_sf, u_k_sp, u_k_sa, u_k_sb, u_l_sf, u_l_sp, u_l_sa, u_l_sb]; first | assumption | omega) | (simp (disch := omega) only [u_k_sf, u_k_sp, u_k_sa, u_k_sb, u_l_sf, u_l_sp, u_l_sa, u_l_sb, zN_of, true_or, or_true, and_true, true_and]; omega)) only [zr_65_0, zr_65_1, zr_65_2, zr_65_4, zr_65_7, zr_65_10, zr_65_11, zr_65_12, zr_65_13, m_isBus1, m_isBus0, m_isDev1, m_isDev0, m_within1, m_within0, m_device1, m_device0, zN_of, Option.toList_some, Option.toList_none, List.cons_append, List.nil_append, Int.toNat_natCast, ne_eq, not_true_eq_false, not_false_eq_true, ↓reduceIte, if_true, if_false, Int.reduceEq, Int.reduceNe, Int.reduceLT, Int.reduceLE, Int.reduceToNat, Int.reduceAdd, Int.reduceMul, Int.reduceSub, Int.reduceNeg, Nat.reduceAdd, Nat.reduceMul, true_and, and_true, false_and, and_false, t0, t1, ea]
    exact ⟨_, rfl, rfl, fun hb2 => ⟨hb2, by omega, by omega⟩⟩
