-- the law for scripts of at most four ints (p1's bound), the call ask still taken as a hypothesis
theorem z_run4_open {L : Nat} (hL : L ≤ 4) (xs : Nat → Int) (hx : ∀ j, -2147483648 ≤ xs j ∧ xs j < 2147483648) (h6 : (∀ {w : zW} (_ : zBase L xs w) (_ : zFresh w) (a b : Int) (_ : -2147483648 ≤ a ∧ a < 2147483648) (_ : -2147483648 ≤ b ∧ b < 2147483648) (Q : Option zV → zW → Prop) (_ : Q = fun r w1 => ∃ v, r = some (.inl v) ∧ (zBase L xs w1 → zR 34 0 [some (.inr (some 194)), some (.inl a), some (.inl b), none, none] [] w1 (fun r2 w2 => ∃ v2, r2 = some (.inl v2) ∧ zN v = zN v2 ∧ (zBase L xs w2 → zEnd L xs w2)))), zR 7 0 [some (.inr (some 1)), some (.inl a), some (.inl b)] [] w Q)) :
    ∃ (n : Nat) (w' : zW), zx n zLaw 0 (zent zLaw [.inr (some 0)]) [] (zw0 L xs) = some (some (.inl 1), w') ∧ zn w' ≤ 600000 ∧ zsl w' ≤ 7302250 := by
  have h := z_loop (L := L) (xs := xs) (by omega) (fun k w => zBase L xs w ∧ ((k = 0 ∧ zFresh w) ∨ (0 < k ∧ zEnd L xs w))) (fun k w hp => hp.1.1) (fun k w Q h4 hp hc => ?_) L 0 (zo L xs zC) (by omega) (by omega) ⟨zBase_0 L xs, Or.inl ⟨rfl, zFresh_0 L xs⟩⟩
  · obtain ⟨n, r, w', h1, h2, k, h3⟩ := z_prolog h
    subst h2
    refine ⟨n, w', h1, ?_⟩
    rcases h3.2 with ⟨-, h4⟩ | ⟨-, h4⟩
    · exact ⟨by have := h4.1; omega, by have := h4.2.1; omega⟩
    · exact h4.2
  · have hk0 : k = 0 := by omega
    have hb := hp.1
    have hf : zFresh w := by
      rcases hp.2 with ⟨-, h⟩ | ⟨h, -⟩
      · exact h
      · exact absurd h (by omega)
    have hk : ∀ w2, zEnd L xs w2 → zR 155 630 (zLs4 ((4 * k : Nat) : Int)) [] w2 Q := fun w2 he => hc w2 ⟨he.1, Or.inr ⟨by omega, he⟩⟩
    exact z_switch (by omega) hb h4
      (z_op_0 (P := zEnd L xs) (by omega) hb h4 (f_op_0 hb hf _ _ _ (hx _) (hx _) (hx _) _ rfl) hk)
      (z_op_1 (P := zEnd L xs) (by omega) hb h4 (f_op_1 hb hf _ (hx _) _ rfl) hk)
      (z_op_2 (P := zEnd L xs) (by omega) hb h4 (f_op_2 hb hf _ (hx _) _ rfl) hk)
      (z_op_3 (P := zEnd L xs) (by omega) hb h4 (f_op_3 hb hf _ _ _ (hx _) (hx _) (hx _) _ rfl) hk)
      (z_op_4 (P := zEnd L xs) (by omega) hb h4 (f_op_4 hb hf _ (hx _) _ rfl) hk)
      (z_op_5 (P := zEnd L xs) (by omega) hb h4 (f_op_5 hb hf _ _ (hx _) (hx _) _ rfl) hk)
      (z_op_6 (P := zEnd L xs) (by omega) hb h4 (h6 hb hf _ _ (hx _) (hx _) _ rfl) hk)
      (z_op_7 (P := zEnd L xs) (by omega) hb h4 (f_op_7 hb hf _ _ (hx _) (hx _) _ rfl) hk)
      (z_op_8 (P := zEnd L xs) (by omega) hb h4 (f_op_8 hb hf _ _ (hx _) (hx _) _ rfl) hk)
      (z_op_9 (P := zEnd L xs) (by omega) hb h4 (f_op_9 hb hf _ _ (hx _) (hx _) _ rfl) hk)
      (z_op_10 (P := zEnd L xs) (by omega) hb h4 (f_op_10 hb hf _ _ (hx _) (hx _) _ rfl) hk)
      (z_op_11 (P := zEnd L xs) (by omega) hb h4 (f_op_11 hb hf _ _ (hx _) (hx _) _ rfl) hk)
      (z_op_12 (P := zEnd L xs) (by omega) hb h4 (f_op_12 hb hf _ _ (hx _) (hx _) _ rfl) hk)
      (z_op_13 (P := zEnd L xs) (by omega) hb h4 (f_op_13 hb hf _ _ (hx _) (hx _) _ rfl) hk)
      (z_op_14 (P := zEnd L xs) (by omega) hb h4 (f_op_14 hb hf _ _ (hx _) (hx _) _ rfl) hk)
      (z_op_15 (P := zEnd L xs) (by omega) hb h4 (f_op_15 hb hf _ _ (hx _) (hx _) _ rfl) hk)
