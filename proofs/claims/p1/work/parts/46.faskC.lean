-- ask on a fresh world: the reference's send, whole
theorem zOnly.tr {H G : List Nat} {w v u : zW} (h1 : zOnly H w v) (h2 : zOnly G v u) (hs : ∀ g ∈ G, g ∈ H) : zOnly H w u :=
  ⟨h2.1.trans h1.1, h2.2.1.trans h1.2.1, h2.2.2.1.trans h1.2.2.1, h2.2.2.2.1.trans h1.2.2.2.1, fun g hg j => (h2.2.2.2.2 g (fun h => hg (hs g h)) j).trans (h1.2.2.2.2 g hg j)⟩
set_option maxHeartbeats 4000000 in
theorem m_37_30 {w : zW} {Q : Option zV → zW → Prop} {n q : Nat} {t kd : Int} {l6 l7 l8 : Option zV} (hn : 1 ≤ n ∧ n ≤ 32) (hq0 : q = (n + 7) / 8) (hf : zf w 111 194 = n) (k194 : zk w 194 = 11) (p78 : zp w 78 194 = some 200) (p79 : zp w 79 194 = some 201) (p80 : zp w 80 194 = some 202) (p110 : zp w 110 194 = some 229)
    (k200 : zk w 200 = 12) (l200 : zl w 200 = 8) (k201 : zk w 201 = 12) (l201 : zl w 201 = 768) (k202 : zk w 202 = 12) (l202 : zl w 202 = 7) (k229 : zk w 229 = 12) (l229 : zl w 229 = 40) (a0 : za w 200 0 = 0) (hq : ∀ w', zOnly [201, 200] w w' → Q none w') :
    zR 37 30 [some (.inr (some 194)), some (.inl 0), some (.inl t), some (.inl kd), some (.inl (q : Int)), some (.inl 0), l6, l7, l8] [] w Q := by
  have hNC : zNC = 12 := rfl
  have eq : zN (q : Int) = q := zN_of (by omega) (by omega)
  have key : ∀ (m i : Nat) (l6 l7 l8 : Option zV) (u : zW), m + i = q → zOnly [201, 200] w u → za u 200 0 = (i : Int) → zR 37 30 [some (.inr (some 194)), some (.inl 0), some (.inl t), some (.inl kd), some (.inl (q : Int)), some (.inl (i : Int)), l6, l7, l8] [] u Q := by
    intro m
    induction m with
    | zero =>
      intro i l6 l7 l8 u hi ho ha
      have hi : i = q := by omega
      subst hi
      rw [zr_37_30, zr_37_32, zr_37_34, if_pos (Int.le_refl _), zr_37_221]
      exact hq u ho
    | succ m ih =>
      intro i l6 l7 l8 u hi ho ha
      have ei : zN (i : Int) = i := zN_of (by omega) (by omega)
      have uf : zf u 111 194 = n := by rw [ho.f, hf]
      have uk194 : zk u 194 = 11 := (by rw [ho.k, k194]); have uk200 : zk u 200 = 12 := (by rw [ho.k, k200]); have uk201 : zk u 201 = 12 := (by rw [ho.k, k201]); have uk202 : zk u 202 = 12 := (by rw [ho.k, k202]); have uk229 : zk u 229 = 12 := (by rw [ho.k, k229]); have ul200 : zl u 200 = 8 := (by rw [ho.l, l200]); have ul201 : zl u 201 = 768 := (by rw [ho.l, l201]); have ul202 : zl u 202 = 7 := (by rw [ho.l, l202]); have ul229 : zl u 229 = 40 := (by rw [ho.l, l229]); have up78 : zp u 78 194 = some 200 := (by rw [ho.p, p78]); have up79 : zp u 79 194 = some 201 := (by rw [ho.p, p79]); have up80 : zp u 80 194 = some 202 := (by rw [ho.p, p80]); have up110 : zp u 110 194 = some 229 := (by rw [ho.p, p110])
      have t0 : ¬ (q : Int) ≤ (i : Int) := by omega
      simp (maxSteps := 1000000) (disch := first | decide | assumption | omega | (simp only [u_k_sf, u_k_sp, u_k_sa, u_k_sb, u_l_sf, u_l_sp, u_l_sa, u_l_sb]; first | assumption | omega) | (simp (disch := omega) only [u_k_sf, u_k_sp, u_k_sa, u_k_sb, u_l_sf, u_l_sp, u_l_sa, u_l_sb, zN_of, true_or, or_true, and_true, true_and]; omega)) only [zr_37_30, zr_37_32, zr_37_34, zr_37_37, zr_37_39, zr_37_41, zr_37_42, zr_37_43, zr_37_44, zr_37_47, zr_37_48, zr_37_49, zr_37_50, zr_37_51, zr_37_53, zr_37_54, zr_37_57, zr_37_59, zr_37_61, zr_37_62, zr_37_63, zr_37_65, zr_37_68, zr_37_69, zr_37_72, zr_37_74, zr_37_76, zr_37_77, zr_37_78, zr_37_81, zr_37_83, zr_37_85, zr_37_86, zr_37_89, zr_37_91, zr_37_92, zr_37_93, zr_37_94, zr_37_97, zr_37_99, zr_37_100, zr_37_101, zr_37_102, zr_37_105, zr_37_106, zr_37_107, zr_37_108, zr_37_109, zr_37_112, zr_37_114, zr_37_115, zr_37_116, zr_37_118, zr_37_121, zr_37_124, zr_37_127, zr_37_128, zr_37_130, zr_37_132, zr_37_133, zr_37_134, zr_37_137, zr_37_139, zr_37_142, zr_37_143, zr_37_144, zr_37_146, zr_37_148, zr_37_149, zr_37_150, zr_37_151, zr_37_152, zr_37_153, zr_37_154, zr_37_157, zr_37_159, zr_37_160, zr_37_161, zr_37_163, zr_37_164, zr_37_165, m_isBus1, m_isBus0, m_isDev1, m_isDev0, m_within1, m_within0, m_device1, m_device0, zN_of, Option.toList_some, Option.toList_none, List.cons_append, List.nil_append, Int.toNat_natCast, ne_eq, not_true_eq_false, not_false_eq_true, ↓reduceIte, if_true, if_false, Int.reduceEq, Int.reduceNe, Int.reduceLT, Int.reduceLE, Int.reduceToNat, Int.reduceAdd, Int.reduceMul, Int.reduceSub, Int.reduceNeg, Nat.reduceAdd, Nat.reduceMul, true_and, and_true, false_and, and_false, u_k_sf, u_l_sf, u_n_sf, u_s_sf, u_p_sf, u_a_sf, u_b_sf, u_k_sp, u_l_sp, u_n_sp, u_s_sp, u_f_sp, u_a_sp, u_b_sp, u_k_sa, u_l_sa, u_n_sa, u_s_sa, u_f_sa, u_p_sa, u_b_sa, u_k_sb, u_l_sb, u_n_sb, u_s_sb, u_f_sb, u_p_sb, u_a_sb, u_f_eq, u_f_ne, u_f_nh, u_a_eq, u_a_ne, u_a_nj, u_b_eq, u_b_ne, u_b_nj, u_p_eq, u_p_ne, u_p_nh, uf, up78, up79, up80, up110, ha, ei, eq, t0]
      repeat' split
      all_goals refine m_37_167 (by omega) (by omega) (by omega) (by exact uk194) (by exact up79) (by exact up110) (by exact uk201) (by exact ul201) (by exact uk229) (by exact ul229) (fun v hv => ?_)
      all_goals have ov : zOnly [201, 200] w v := zOnly.tr (H := [201, 200]) (zOnly.sa (zOnly.sa (zOnly.sa (zOnly.sa ho (by decide)) (by decide)) (by decide)) (by decide)) hv (by decide)
      all_goals have va : za v 200 0 = (i : Int) := by rw [hv.2.2.2.2 200 (by decide), zsa_old (by decide), zsa_old (by decide), zsa_old (by decide), zsa_old (by decide)]; exact ha
      all_goals rw [zr_37_205, zr_37_206 (by rw [ov.k, k194]), ov.p, p78, zr_37_209, zr_37_210, zr_37_211 ⟨Or.inl (by rw [ov.k, k200]), by decide, by rw [ov.l, l200]; decide⟩, zr_37_212, zr_37_213, zr_37_214 ⟨by rw [ov.k, k200], by decide, by rw [ov.l, l200]; decide⟩, zr_37_215, zr_37_218]
      all_goals refine ih (i + 1) _ _ _ _ (by omega) (ov.sa (by decide)) ?_
      all_goals rw [show Int.toNat (zN 0) = 0 by decide, u_a_eq, va]
      all_goals rfl
  exact key q 0 l6 l7 l8 w (by omega) zOnly.rf a0
