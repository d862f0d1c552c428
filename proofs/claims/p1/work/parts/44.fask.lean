-- ask on a fresh world: the reference's copying loops
theorem m_34_64 {w : zW} {Q : Option zV → zW → Prop} {n : Nat} {l1 : Option zV} (hn : n ≤ 32) (k1 : zk w 194 = 11) (p1 : zp w 116 194 = some 233) (p2 : zp w 112 194 = some 230) (k2 : zk w 233 = 12) (l2 : zl w 233 = 1280) (k3 : zk w 230 = 12) (l3 : zl w 230 = 32)
    (hq : ∀ w', zOnly [233] w w' → zR 34 95 [some (.inr (some 194)), l1, some (.inl (n : Int)), some (.inl 0), some (.inl (n : Int))] [] w' Q) : zR 34 64 [some (.inr (some 194)), l1, some (.inl (n : Int)), some (.inl 0), some (.inl 0)] [] w Q := by
  have hNC : zNC = 12 := rfl
  have en : zN (n : Int) = n := zN_of (by omega) (by omega)
  have key : ∀ (m i : Nat) (u : zW), m + i = n → zOnly [233] w u → zR 34 64 [some (.inr (some 194)), l1, some (.inl (n : Int)), some (.inl 0), some (.inl (i : Int))] [] u Q := by
    intro m
    induction m with
    | zero =>
      intro i u hi ho
      have hi : i = n := by omega
      subst hi
      rw [zr_34_64, zr_34_66, zr_34_67, if_pos (Int.le_refl _)]
      exact hq u ho
    | succ m ih =>
      intro i u hi ho
      have e1 : zN (i : Int) = i := zN_of (by omega) (by omega)
      have e2 : zN (32 * 0 + (i : Int)) = i := by rw [zN_of (by omega) (by omega)]; omega
      rw [zr_34_64, zr_34_66, zr_34_67, en, e1, if_neg (by omega), zr_34_70, zr_34_71 (by rw [ho.k, k1]), ho.p, p1, zr_34_74, zr_34_76, zr_34_77, zr_34_78, zr_34_80, zr_34_81, zr_34_82 (by rw [ho.k, k1]), ho.p, p2, zr_34_85, zr_34_87 ⟨Or.inl (by rw [ho.k, k3]), by omega, by rw [ho.l, l3, e1]; omega⟩, zr_34_88 ⟨by rw [ho.k, k2], by omega, by rw [ho.l, l2, e2]; omega⟩, zr_34_89, zr_34_92]
      exact ih (i + 1) _ (by omega) (ho.sa List.mem_cons_self)
  exact key n 0 w (by omega) zOnly.rf
theorem m_35_12 {w : zW} {Q : Option zV → zW → Prop} {n : Nat} (hn : n ≤ 32) (hf : zf w 111 194 = n) (k1 : zk w 194 = 11) (p1 : zp w 110 194 = some 229) (p2 : zp w 116 194 = some 233) (k2 : zk w 229 = 12) (l2 : zl w 229 = 40) (k3 : zk w 233 = 12) (l3 : zl w 233 = 1280)
    (hq : ∀ w', zOnly [229] w w' → zR 35 43 [some (.inr (some 194)), some (.inl 0), some (.inl (n : Int))] [] w' Q) : zR 35 12 [some (.inr (some 194)), some (.inl 0), some (.inl 0)] [] w Q := by
  have hNC : zNC = 12 := rfl
  have en : zN (n : Int) = n := zN_of (by omega) (by omega)
  have key : ∀ (m i : Nat) (u : zW), m + i = n → zOnly [229] w u → zR 35 12 [some (.inr (some 194)), some (.inl 0), some (.inl (i : Int))] [] u Q := by
    intro m
    induction m with
    | zero =>
      intro i u hi ho
      have hi : i = n := by omega
      subst hi
      rw [zr_35_12, zr_35_13, zr_35_14 (by rw [ho.k, k1]), ho.f, hf, zr_35_17, if_pos (Int.le_refl _)]
      exact hq u ho
    | succ m ih =>
      intro i u hi ho
      have e1 : zN (i : Int) = i := zN_of (by omega) (by omega)
      have e2 : zN (32 * 0 + (i : Int)) = i := by rw [zN_of (by omega) (by omega)]; omega
      rw [zr_35_12, zr_35_13, zr_35_14 (by rw [ho.k, k1]), ho.f, hf, zr_35_17, en, e1, if_neg (by omega), zr_35_20, zr_35_21 (by rw [ho.k, k1]), ho.p, p1, zr_35_24, zr_35_25, zr_35_26 (by rw [ho.k, k1]), ho.p, p2, zr_35_29, zr_35_31, zr_35_32, zr_35_33, zr_35_34, zr_35_35 ⟨Or.inl (by rw [ho.k, k3]), by omega, by rw [ho.l, l3, e2]; omega⟩, zr_35_36 ⟨by rw [ho.k, k2], by omega, by rw [ho.l, l2, e1]; omega⟩, zr_35_37, zr_35_40]
      exact ih (i + 1) _ (by omega) (ho.sa List.mem_cons_self)
  exact key n 0 w (by omega) zOnly.rf
