-- the class: a row is written for the first packet of a port; the wire is noisy
set_option maxHeartbeats 1000000 in
theorem m_81 {w : zW} {b p a n h : Nat} {g : Int → Int} (kb : zk w b = 5) (p47 : zp w 47 b = some h) (hr : zRK w h) (hp : zPO w p) (ha : zf w 25 p = (a : Int)) (h1 : a < 8) (hn : n ≤ 8) (haim : ∀ v, zRB w v h 0 g → ∀ Q, zR 80 0 [some (.inr (some b)), some (.inr (some p)), none] [] v Q = Q (some (.inl (g 0))) v) (f26 : zf w 26 (p + 2 + 2 * a) = g 1) (f27 : zf w 27 (p + 2 + 2 * a) = g 2) (f28 : zf w 28 (p + 2 + 2 * a) = g 3) (f29 : zf w 29 (p + 2 + 2 * a) = (n : Int)) (hby : ∀ j : Nat, j < n → za w (p + 2 + 2 * a + 1) j = g (4 + (j : Int))) (hcrc : g ((4 + n : Nat) : Int) = zcrc g (4 + n)) (hne : p + 2 + 2 * a + 1 ≠ h + 1) :
    ∃ v, (∀ Q, zR 81 0 [some (.inr (some b)), some (.inr (some p)), none, none] [] w Q = Q none v) ∧ zRB w v h (5 + n) g := by
  have hpk := hp.2.2.2.2 a h1
  have st : ∀ {v : zW} {m : Nat}, zRB w v h m g → zk v b = 5 ∧ zp v 47 b = some h ∧ zk v (p + 2 + 2 * a) = 3 ∧ zk v h = 7 := fun {v m} hB => ⟨by rw [hB.1.k]; exact kb, by rw [hB.1.p]; exact p47, by rw [hB.1.k]; exact hpk.2.1, by rw [hB.1.k]; exact hr.1⟩
  have sf : ∀ {v : zW} {m : Nat} (f : Nat), f ≠ 57 → zRB w v h m g → zf v f (p + 2 + 2 * a) = zf w f (p + 2 + 2 * a) := fun {v m} f hf hB => hB.2.1 f _ (fun q => hf q.1)
  -- the loop
  have loop : ∀ (jj i : Nat) (v : zW), i + jj = n → zRB w v h (4 + i) g → ∃ v2, (∀ Q, zR 81 59 [some (.inr (some b)), some (.inr (some p)), some (.inr (some (p + 2 + 2 * a))), some (.inl (i : Int))] [] v Q = Q none v2) ∧ zRB w v2 h (5 + n) g := by
    intro jj
    induction jj with
    | zero =>
      intro i v hi hB
      have hi : i = n := by omega
      subst hi
      obtain ⟨s1, s2, s3, s4⟩ := st hB
      have hc : zcrc (zrc v h) (4 + i) = g ((4 + i : Nat) : Int) := by
        rw [hcrc]
        exact zcrc_eq (4 + i) (fun j j1 j2 => by
          have := hB.2.2.2.2 j.toNat (by omega)
          show za v (h + 1) j.toNat = g j
          rw [this, Int.toNat_of_nonneg j1])
      have hB2 := zRB_add hB hc
      rw [show 4 + i + 1 = 5 + i by omega] at hB2
      refine ⟨_, fun Q => ?_, hB2⟩
      rw [zr_81_59, zr_81_60, zr_81_61 s3, sf 29 (by decide) hB, f29, zr_81_64, if_pos (Int.le_refl _), zr_81_86, zr_81_87 s1, s2, zr_81_90 (by exact Nat.le_of_ble_eq_true rfl) s4, m_141 (hB.rw hr) (by omega), Option.toList_none, List.nil_append, zr_81_93]
    | succ jj ih =>
      intro i v hi hB
      obtain ⟨s1, s2, s3, s4⟩ := st hB
      have ti : (zN (i : Int)).toNat = i := by rw [zN_of (by omega) (by omega), Int.toNat_natCast]
      have p30 : zp v 30 (p + 2 + 2 * a) = some (p + 2 + 2 * a + 1) := by rw [hB.1.p]; exact hpk.2.2.1
      have hx : za v (p + 2 + 2 * a + 1) i = g ((4 + i : Nat) : Int) := by
        rw [hB.2.2.1 _ hne, hby i (by omega), show ((4 + i : Nat) : Int) = 4 + (i : Int) by omega]
      have hB2 := zRB_add hB hx
      obtain ⟨v2, c1, c2⟩ := ih (i + 1) _ (by omega) hB2
      refine ⟨v2, fun Q => ?_, c2⟩
      rw [zr_81_59, zr_81_60, zr_81_61 s3, sf 29 (by decide) hB, f29, zr_81_64, zN_of (x := (i : Int)) (by omega) (by omega), zN_of (x := (n : Int)) (by omega) (by omega), if_neg (by omega), zr_81_67, zr_81_68 s1, s2, zr_81_71, zr_81_72 s3, p30, zr_81_75, zr_81_76 ⟨Or.inl (by rw [hB.1.k]; exact hpk.2.2.2.1), by rw [zN_of (by omega) (by omega)]; omega, by rw [zN_of (by omega) (by omega), hB.1.l, hpk.2.2.2.2]; omega⟩, ti, zr_81_77 (by exact Nat.le_of_ble_eq_true rfl) s4, m_140 (hB.rw hr) (by omega), Option.toList_none, List.nil_append, zr_81_80, zr_81_83]
      exact c1 Q
  have B0 : zRB w (zsf w 57 h 0) h 0 g := zRB_0
  have c0 : ∀ Q, zR 81 0 [some (.inr (some b)), some (.inr (some p)), none, none] [] w Q = zR 81 12 [some (.inr (some b)), some (.inr (some p)), some (.inr (some (p + 2 + 2 * a))), none] [] (zsf w 57 h 0) Q := fun Q => by
    rw [zr_81_0, zr_81_1 (by exact Nat.le_of_ble_eq_true rfl) hp.1, m_130 hp ha h1, Option.toList_some, List.cons_append, List.nil_append, zr_81_4, zr_81_5, zr_81_6 kb, p47, zr_81_9 (by exact Nat.le_of_ble_eq_true rfl) hr.1, zr_139_0, zr_139_1, zr_139_2 hr.1, zr_139_5, Option.toList_none, List.nil_append]
  generalize zsf w 57 h 0 = v0 at B0 c0
  have B1 := zRB_add B0 (show g 0 = g ((0 : Nat) : Int) from rfl)
  have c1 : ∀ Q, zR 81 12 [some (.inr (some b)), some (.inr (some p)), some (.inr (some (p + 2 + 2 * a))), none] [] v0 Q = zR 81 24 [some (.inr (some b)), some (.inr (some p)), some (.inr (some (p + 2 + 2 * a))), none] [] (zsf (zsa v0 (h + 1) 0 (g 0)) 57 h (((0 : Nat) : Int) + 1)) Q := fun Q => by
    obtain ⟨s1, s2, s3, s4⟩ := st B0
    rw [zr_81_12, zr_81_13 s1, s2, zr_81_16, zr_81_17, zr_81_18 (by exact Nat.le_of_ble_eq_true rfl) s1, haim v0 B0, Option.toList_some, List.cons_append, List.nil_append, zr_81_21 (by exact Nat.le_of_ble_eq_true rfl) s4, m_140 (B0.rw hr) (by omega), Option.toList_none, List.nil_append]
  generalize zsf (zsa v0 (h + 1) 0 (g 0)) 57 h (((0 : Nat) : Int) + 1) = v1 at B1 c1
  have B2 := zRB_add B1 (show g 1 = g ((0 + 1 : Nat) : Int) from rfl)
  have c2 : ∀ Q, zR 81 24 [some (.inr (some b)), some (.inr (some p)), some (.inr (some (p + 2 + 2 * a))), none] [] v1 Q = zR 81 35 [some (.inr (some b)), some (.inr (some p)), some (.inr (some (p + 2 + 2 * a))), none] [] (zsf (zsa v1 (h + 1) (0 + 1) (g 1)) 57 h (((0 + 1 : Nat) : Int) + 1)) Q := fun Q => by
    obtain ⟨s1, s2, s3, s4⟩ := st B1
    rw [zr_81_24, zr_81_25 s1, s2, zr_81_28, zr_81_29 s3, sf 26 (by decide) B1, f26, zr_81_32 (by exact Nat.le_of_ble_eq_true rfl) s4, m_140 (B1.rw hr) (by omega), Option.toList_none, List.nil_append]
  generalize zsf (zsa v1 (h + 1) (0 + 1) (g 1)) 57 h (((0 + 1 : Nat) : Int) + 1) = v2 at B2 c2
  have B3 := zRB_add B2 (show g 2 = g ((0 + 1 + 1 : Nat) : Int) from rfl)
  have c3 : ∀ Q, zR 81 35 [some (.inr (some b)), some (.inr (some p)), some (.inr (some (p + 2 + 2 * a))), none] [] v2 Q = zR 81 46 [some (.inr (some b)), some (.inr (some p)), some (.inr (some (p + 2 + 2 * a))), none] [] (zsf (zsa v2 (h + 1) (0 + 1 + 1) (g 2)) 57 h (((0 + 1 + 1 : Nat) : Int) + 1)) Q := fun Q => by
    obtain ⟨s1, s2, s3, s4⟩ := st B2
    rw [zr_81_35, zr_81_36 s1, s2, zr_81_39, zr_81_40 s3, sf 27 (by decide) B2, f27, zr_81_43 (by exact Nat.le_of_ble_eq_true rfl) s4, m_140 (B2.rw hr) (by omega), Option.toList_none, List.nil_append]
  generalize zsf (zsa v2 (h + 1) (0 + 1 + 1) (g 2)) 57 h (((0 + 1 + 1 : Nat) : Int) + 1) = v3 at B3 c3
  have B4 := zRB_add B3 (show g 3 = g ((0 + 1 + 1 + 1 : Nat) : Int) from rfl)
  have c4 : ∀ Q, zR 81 46 [some (.inr (some b)), some (.inr (some p)), some (.inr (some (p + 2 + 2 * a))), none] [] v3 Q = zR 81 59 [some (.inr (some b)), some (.inr (some p)), some (.inr (some (p + 2 + 2 * a))), some (.inl ((0 : Nat) : Int))] [] (zsf (zsa v3 (h + 1) (0 + 1 + 1 + 1) (g 3)) 57 h (((0 + 1 + 1 + 1 : Nat) : Int) + 1)) Q := fun Q => by
    obtain ⟨s1, s2, s3, s4⟩ := st B3
    rw [zr_81_46, zr_81_47 s1, s2, zr_81_50, zr_81_51 s3, sf 28 (by decide) B3, f28, zr_81_54 (by exact Nat.le_of_ble_eq_true rfl) s4, m_140 (B3.rw hr) (by omega), Option.toList_none, List.nil_append, zr_81_57, zr_81_58]
    rfl
  generalize zsf (zsa v3 (h + 1) (0 + 1 + 1 + 1) (g 3)) 57 h (((0 + 1 + 1 + 1 : Nat) : Int) + 1) = v4 at B4 c4
  obtain ⟨v5, d1, d2⟩ := loop n 0 v4 (by omega) B4
  exact ⟨v5, fun Q => by rw [c0, c1, c2, c3, c4]; exact d1 Q, d2⟩
-- the wire at h of the bus at b: noise
def ztx (w : zW) (h n : Nat) (np mk : Int) : zW := if 0 ≤ np ∧ np < (n : Int) + 1 then zsa w (h + 1) np.toNat (zo_xor (za w (h + 1) np.toNat) mk) else w
theorem m_77 {w : zW} {Q : Option zV → zW → Prop} {b h n : Nat} {np mk : Int} (kb : zk w b = 5) (p44 : zp w 44 b = some h) (hr : zRW w h (n + 1)) (hn : n < 13) (f45 : zf w 45 b = np) (f46 : zf w 46 b = mk) (rnp : -1 ≤ np ∧ np ≤ 12) :
    zR 77 0 [some (.inr (some b))] [] w Q = Q (some (.inl (if zN (za (ztx w h n np mk) (h + 1) n) = zN (zcrc (zrc (ztx w h n np mk) h) n) then 1 else 0))) (zsf (ztx w h n np mk) 45 b (-1)) := by
  have en : zN np = np := zN_of (by omega) (by omega)
  have en1 : zN ((n + 1 : Nat) : Int) = ((n + 1 : Nat) : Int) := zN_of (by omega) (by omega)
  have hend : ∀ u : zW, zSF w u → zf u 57 h = zf w 57 h → zR 77 40 [some (.inr (some b))] [] u Q = Q (some (.inl (if zN (za u (h + 1) n) = zN (zcrc (zrc u h) n) then 1 else 0))) (zsf u 45 b (-1)) := by
    intro u hS hf
    have kbu : zk u b = 5 := by rw [hS.k]; exact kb
    have hru : zRW (zsf u 45 b (-1)) h (n + 1) := ⟨by show zk u h = 7; rw [hS.k]; exact hr.1, by show zp u 56 h = _; rw [hS.p]; exact hr.2.1, by show zk u (h + 1) = 12; rw [hS.k]; exact hr.2.2.1, by show zl u (h + 1) = 13; rw [hS.l]; exact hr.2.2.2.1, by rw [u_f_ne (by decide), hf]; exact hr.2.2.2.2⟩
    rw [zr_77_40, zr_77_41, zr_77_42 kbu, zr_77_45, zr_77_46 (by exact kbu), u_p_sf, show zp u 44 b = some h by rw [hS.p]; exact p44, zr_77_49 (by exact Nat.le_of_ble_eq_true rfl) hru.1, m_142 hru hn, Option.toList_some, List.cons_append, List.nil_append]
    have hb01 : zN (if zN (za (zsf u 45 b (-1)) (h + 1) n) = zN (zcrc (zrc (zsf u 45 b (-1)) h) n) then (1 : Int) else 0) = 0 ∨ zN (if zN (za (zsf u 45 b (-1)) (h + 1) n) = zN (zcrc (zrc (zsf u 45 b (-1)) h) n) then (1 : Int) else 0) = 1 := by
      split
      · exact Or.inr (by decide)
      · exact Or.inl (by decide)
    rw [zr_77_52 hb01]
    rfl
  by_cases c1 : 0 ≤ np
  · by_cases c2 : np < (n : Int) + 1
    · rw [show ztx w h n np mk = zsa w (h + 1) np.toNat (zo_xor (za w (h + 1) np.toNat) mk) from if_pos ⟨c1, c2⟩, zr_77_0, zr_77_1 kb, f45, zr_77_4, en, if_neg (by omega), zr_77_7, zr_77_8 kb, f45, zr_77_11, zr_77_12 kb, p44, zr_77_15 hr.1, hr.2.2.2.2, zr_77_18, en, en1, if_neg (by omega), zr_77_21, zr_77_22 kb, p44, zr_77_25 hr.1, hr.2.1, zr_77_28, zr_77_29 kb, f45, zr_77_32, zr_77_33 ⟨Or.inl hr.2.2.1, by rw [en]; omega, by rw [en, hr.2.2.2.1]; omega⟩, en, zr_77_34, zr_77_35 kb, f46, zr_77_38, zr_77_39 ⟨hr.2.2.1, by rw [en]; omega, by rw [en, hr.2.2.2.1]; omega⟩, en]
      exact hend _ ⟨rfl, rfl, rfl⟩ rfl
    · rw [show ztx w h n np mk = w from if_neg (fun q => c2 q.2), zr_77_0, zr_77_1 kb, f45, zr_77_4, en, if_neg (by omega), zr_77_7, zr_77_8 kb, f45, zr_77_11, zr_77_12 kb, p44, zr_77_15 hr.1, hr.2.2.2.2, zr_77_18, en, en1, if_pos (by omega)]
      exact hend _ ⟨rfl, rfl, rfl⟩ rfl
  · rw [show ztx w h n np mk = w from if_neg (fun q => c1 q.1), zr_77_0, zr_77_1 kb, f45, zr_77_4, en, if_pos (by omega)]
    exact hend _ ⟨rfl, rfl, rfl⟩ rfl
