-- the law's run, for every script of at most 2048 ints
theorem o_lift {i j : Nat} {ls ls2 : List (Option zV)} {L : Nat} {xs : Nat → Int} {w : zW} {B : Int} (h : zR i 0 ls [] w (fun r w1 => ∃ v, r = some (.inl v) ∧ (zBase L xs w1 → zR j 0 ls2 [] w1 (fun r2 w2 => ∃ v2, r2 = some (.inl v2) ∧ zN v = zN v2 ∧ (zBase L xs w2 → zPJ B w2))))) : zR i 0 ls [] w (fun r w1 => ∃ v, r = some (.inl v) ∧ (zBase L xs w1 → zR j 0 ls2 [] w1 (fun r2 w2 => ∃ v2, r2 = some (.inl v2) ∧ zN v = zN v2 ∧ (zBase L xs w2 → zJP L xs B w2)))) := by
  refine zR_imp h (fun r w1 h1 => ?_)
  obtain ⟨v, e, hm⟩ := h1
  refine ⟨v, e, fun hb => zR_imp (hm hb) (fun r2 w2 h2 => ?_)⟩
  obtain ⟨v2, e2, e3, hp⟩ := h2
  exact ⟨v2, e2, e3, fun hb2 => ⟨hb2, hp hb2⟩⟩
theorem zJP_0 (L : Nat) (xs : Nat → Int) : zJP L xs (1400 * ((0 : Nat) : Int)) (zo L xs zC) := by
  have h1 := zBase_0 L xs
  have h2 := zPJ_0 L xs
  revert h1 h2
  generalize zo L xs zC = w
  intro h1 h2
  exact ⟨h1, h2⟩
theorem zJP_room {L : Nat} {xs : Nat → Int} {B : Int} {w : zW} (h : zJP L xs B w) : zn w ≤ 600000 ∧ zsl w ≤ 7302250 := by
  obtain ⟨-, own, s, j, -⟩ := h
  have hh := j.2.2.2.2.2.2.2.2.2.2.2
  have c := zcnt_le (w := w) 448
  have r := j.2.2.2.2.2.1.2.1
  unfold gH at hh
  omega
theorem z_run {L : Nat} (hL : L ≤ 2048) (xs : Nat → Int) (hx : ∀ j, -2147483648 ≤ xs j ∧ xs j < 2147483648) : ∃ (n : Nat) (w' : zW), zx n zLaw 0 (zent zLaw [.inr (some 0)]) [] (zw0 L xs) = some (some (.inl 1), w') ∧ zn w' ≤ 600000 ∧ zsl w' ≤ 7302250 := by
  have h := z_loop (L := L) (xs := xs) hL (fun k w => zJP L xs (1400 * (k : Int)) w) (fun k w hp => hp.1.1) (fun k w Q h4 hp hc => ?_) L 0 (zo L xs zC) (by omega) (by omega) (zJP_0 L xs)
  · obtain ⟨n, r, w', h1, h2, k, h3⟩ := z_prolog h
    subst h2
    exact ⟨n, w', h1, zJP_room h3⟩
  · have hb := hp.1
    have hP := hp.2
    have hB : 1400 * (k : Int) < 1000000000 := by omega
    have hk : ∀ w2, zJP L xs (1400 * (k : Int) + 1400) w2 → zR 155 630 (zLs4 ((4 * k : Nat) : Int)) [] w2 Q := fun w2 he => hc w2 (by rw [show 1400 * ((k + 1 : Nat) : Int) = 1400 * (k : Int) + 1400 by omega]; exact he)
    exact z_switch hL hb h4
      (z_op_0 hL hb h4 (o_lift (o_op_0 hb hP hB _ (hx _) _ (hx _) _ (hx _))) hk)
      (z_op_1 hL hb h4 (o_lift (o_op_1 hb hP hB _ (hx _))) hk)
      (z_op_2 hL hb h4 (o_lift (o_op_2 hb hP hB _ (hx _))) hk)
      (z_op_3 hL hb h4 (o_lift (o_op_3 hb hP hB _ (hx _) _ (hx _) _ (hx _))) hk)
      (z_op_4 hL hb h4 (o_lift (o_op_4 hb hP hB _ (hx _))) hk)
      (z_op_5 hL hb h4 (o_lift (o_op_5 hb hP hB _ (hx _) _ (hx _))) hk)
      (z_op_6 hL hb h4 (o_lift (o_op_6 hb hP hB _ (hx _) _ (hx _))) hk)
      (z_op_7 hL hb h4 (o_lift (o_op_7 hb hP hB _ (hx _) _ (hx _))) hk)
      (z_op_8 hL hb h4 (o_lift (o_op_8 hb hP hB _ (hx _) _ (hx _))) hk)
      (z_op_9 hL hb h4 (o_lift (o_op_9 hb hP hB _ (hx _) _ (hx _))) hk)
      (z_op_10 hL hb h4 (o_lift (o_op_10 hb hP hB _ (hx _) _ (hx _))) hk)
      (z_op_11 hL hb h4 (o_lift (o_op_11 hb hP hB _ (hx _) _ (hx _))) hk)
      (z_op_12 hL hb h4 (o_lift (o_op_12 hb hP hB _ (hx _) _ (hx _))) hk)
      (z_op_13 hL hb h4 (o_lift (o_op_13 hb hP hB _ (hx _) _ (hx _))) hk)
      (z_op_14 hL hb h4 (o_lift (o_op_14 hb hP hB _ (hx _) _ (hx _))) hk)
      (z_op_15 hL hb h4 (o_lift (o_op_15 hb hP hB _ (hx _) _ (hx _))) hk)
