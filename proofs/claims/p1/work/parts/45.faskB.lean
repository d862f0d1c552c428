-- ask on a fresh world: the reference's send
theorem z_div8 : ∀ n, n < 33 → zo_div ((n : Nat) + 7 : Int) 8 = (((n + 7) / 8 : Nat) : Int) := by decide +kernel
theorem m_37_167 {w : zW} {Q : Option zV → zW → Prop} {i at7 n7 : Int} {l1 l2 l3 l4 : Option zV} (h7 : 0 ≤ n7 ∧ n7 ≤ 8) (ha : 0 ≤ at7 ∧ at7 ≤ 756) (hi : 0 ≤ i ∧ i ≤ 3) (k1 : zk w 194 = 11) (p1 : zp w 79 194 = some 201) (p2 : zp w 110 194 = some 229) (k2 : zk w 201 = 12) (l2' : zl w 201 = 768) (k3 : zk w 229 = 12) (l3' : zl w 229 = 40)
    (hq : ∀ w', zOnly [201] w w' → zR 37 205 [some (.inr (some 194)), l1, l2, l3, l4, some (.inl i), some (.inl at7), some (.inl n7), some (.inl n7)] [] w' Q) : zR 37 167 [some (.inr (some 194)), l1, l2, l3, l4, some (.inl i), some (.inl at7), some (.inl n7), some (.inl 0)] [] w Q := by
  have hNC : zNC = 12 := rfl
  have en : zN n7 = n7 := zN_of (by omega) (by omega)
  have key : ∀ (m : Nat) (k : Int) (u : zW), (m : Int) + k = n7 → 0 ≤ k → zOnly [201] w u → zR 37 167 [some (.inr (some 194)), l1, l2, l3, l4, some (.inl i), some (.inl at7), some (.inl n7), some (.inl k)] [] u Q := by
    intro m
    induction m with
    | zero =>
      intro k u hk h0 ho
      have hk : k = n7 := by omega
      subst hk
      rw [zr_37_167, zr_37_169, zr_37_171, if_pos (Int.le_refl _)]
      exact hq u ho
    | succ m ih =>
      intro k u hk h0 ho
      have e1 : zN k = k := zN_of (by omega) (by omega)
      have e2 : zN (at7 + 4 + k) = at7 + 4 + k := zN_of (by omega) (by omega)
      have e3 : zN (8 * i + k) = 8 * i + k := zN_of (by omega) (by omega)
      rw [zr_37_167, zr_37_169, zr_37_171, en, e1, if_neg (by omega), zr_37_174, zr_37_175 (by rw [ho.k, k1]), ho.p, p1, zr_37_178, zr_37_180, zr_37_181, zr_37_182, zr_37_184, zr_37_185, zr_37_186 (by rw [ho.k, k1]), ho.p, p2, zr_37_189, zr_37_191, zr_37_193, zr_37_194, zr_37_196, zr_37_197 ⟨Or.inl (by rw [ho.k, k3]), by omega, by rw [ho.l, l3', e3]; omega⟩, zr_37_198 ⟨by rw [ho.k, k2], by omega, by rw [ho.l, l2', e2]; omega⟩, zr_37_199, zr_37_202]
      exact ih (k + 1) _ (by omega) (by omega) (ho.sa List.mem_cons_self)
  obtain ⟨m, hm⟩ : ∃ m : Nat, n7 = (m : Int) := ⟨n7.toNat, by omega⟩
  exact key m 0 w (by omega) (by omega) zOnly.rf
