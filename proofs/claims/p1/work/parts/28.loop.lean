-- the law up to its loop, and the loop
theorem zopt2 {o : Option (Option zV × zW)} {v : zW} {a b c : Nat} (hv : v = (o.getD (none, zw00)).2) (h : o.map (fun q => (q.1, zn q.2, zsl q.2, zk q.2 0)) = some (none, a, b, c)) : o = some (none, v) ∧ zn v = a ∧ zsl v = b ∧ zk v 0 = c := by
  subst hv
  exact zopt h
theorem zc1_all : zc1 = some (none, zCA) ∧ zn zCA = 193 ∧ zsl zCA = 2082 ∧ zk zCA 0 = 1000 := zopt2 rfl zc1_ok
theorem zc2_all : zc2 = some (none, zC) ∧ zn zC = 239 ∧ zsl zC = 21900 ∧ zk zC 0 = 1000 := zopt2 rfl zc2_ok
theorem znew_k {w : zW} {k n : Nat} : zk (znew w k n) (zn w + 1) = k := if_pos rfl
theorem z_prolog {L : Nat} {xs : Nat → Int} {Q : Option zV → zW → Prop} (h : zR 155 18 [some (.inr (some 0)), some (.inr (some 1)), some (.inr (some 194)), some (.inl 0)] [] (zo L xs zC) Q) : zR 155 0 [some (.inr (some 0)), none, none, none] [] (zw0 L xs) Q := by
  have c1 : zx 3000 0 0 (zent 0 [.inr (some 1)]) [] (znew zw00 0 6) = some (none, zCA) := zc1_all.1
  have d1 : zx 3000 23 0 (zent 23 [.inr (some 194)]) [] (znew zCA 11 52) = some (none, zC) := zc2_all.1
  have c2 := zc1_all.2.1
  have c4 := zc1_all.2.2.2
  revert c1 c2 c4 d1
  generalize zCA = wA
  generalize zC = wC at h ⊢
  intro c1 d1 c2 c4
  have hA : zk (znew zw00 0 6) 0 = 1000 := rfl
  have r1 := (zo_run (L := L) (xs := xs) 3000 0 0 (zent 0 [.inr (some 1)]) [] (znew zw00 0 6) none wA hA c1).1
  rw [zo_new] at r1
  have hB : zk (znew wA 11 52) 0 = 1000 := by
    show (if 0 = zn wA + 1 then 11 else zk wA 0) = 1000
    rw [if_neg (Nat.succ_ne_zero _).symm]
    exact c4
  have r2 := (zo_run (L := L) (xs := xs) 3000 23 0 (zent 23 [.inr (some 194)]) [] (znew wA 11 52) none wC hB d1).1
  rw [zo_new] at r2
  show zR 155 0 [some (.inr (some 0)), none, none, none] [] (zo L xs zw00) Q
  rw [zr_155_0, zr_155_3, zr_155_4 (Nat.le_of_ble_eq_true rfl) (by rw [znew_k]; decide)]
  refine ⟨3000, none, zo L xs wA, r1, ?_⟩
  show zR 155 7 [some (.inr (some 0)), none, none, none] (.inr (some 1) :: []) (zo L xs wA) Q
  rw [zr_155_7, zr_155_8, zr_155_11, zr_155_12 (Nat.le_of_ble_eq_true rfl) (by rw [znew_k]; decide)]
  have e1 : zn (zo L xs wA) = 193 := c2
  rw [e1]
  refine ⟨3000, none, zo L xs wC, r2, ?_⟩
  show zR 155 15 [some (.inr (some 0)), some (.inr (some 1)), none, none] (.inr (some 194) :: []) (zo L xs wC) Q
  rw [zr_155_15, zr_155_16, zr_155_17]
  exact h
theorem zN_of {x : Int} (h1 : -2147483648 ≤ x) (h2 : x < 2147483648) : zN x = x := by
  unfold zN
  exact Int32.toInt_ofInt_of_le (by simpa using h1) (by simpa using h2)
theorem zN_toInt (v : Int32) : zN v.toInt = v.toInt := by
  unfold zN
  rw [Int32.ofInt_toInt]
theorem z_and15 (x : Int) : ∃ t : Nat, t < 16 ∧ zN (zo_and x 15) = (t : Int) := by
  unfold zo_and
  rw [zN_toInt]
  have h1 : (zI x &&& zI 15) = Int32.ofNat ((zI x).toBitVec.toNat % 16) := by
    apply Int32.toBitVec_inj.mp
    apply BitVec.eq_of_toNat_eq
    rw [Int32.toBitVec_and, BitVec.toNat_and, show (Int32.ofNat ((zI x).toBitVec.toNat % 16)).toBitVec = BitVec.ofNat 32 ((zI x).toBitVec.toNat % 16) from rfl, BitVec.toNat_ofNat]
    rw [show (zI 15).toBitVec.toNat = 2 ^ 4 - 1 by decide, Nat.and_two_pow_sub_one_eq_mod]
    omega
  refine ⟨(zI x).toBitVec.toNat % 16, Nat.mod_lt _ (by decide), ?_⟩
  rw [h1]
  exact Int32.toInt_ofNat_of_lt (by omega)
abbrev zLs4 (i : Int) : List (Option zV) := [some (.inr (some 0)), some (.inr (some 1)), some (.inr (some 194)), some (.inl i)]
theorem z_loop {L : Nat} {xs : Nat → Int} (hL : L ≤ 2048) (P : Nat → zW → Prop) (hscr : ∀ k w, P k w → zScr L xs w)
    (hstep : ∀ (k : Nat) (w : zW) (Q : Option zV → zW → Prop), 4 * k + 4 ≤ L → P k w → (∀ w', P (k + 1) w' → zR 155 630 (zLs4 ((4 * k : Nat) : Int)) [] w' Q) → zR 155 26 (zLs4 ((4 * k : Nat) : Int)) [] w Q) :
    ∀ (m k : Nat) (w : zW), 4 * k ≤ L → L < 4 * k + 4 + m → P k w → zR 155 18 (zLs4 ((4 * k : Nat) : Int)) [] w (fun r w' => r = some (.inl 1) ∧ ∃ k, P k w') := by
  intro m
  induction m with
  | zero =>
    intro k w hkL hm hp
    obtain ⟨s1, s2, s3⟩ := hscr k w hp
    have hz := zNC_lt
    have e1 : zN ((L : Int) - 4) = (L : Int) - 4 := zN_of (by omega) (by omega)
    have e2 : zN (((4 * k : Nat) : Int)) = ((4 * k : Nat) : Int) := zN_of (by omega) (by omega)
    rw [zr_155_18, zr_155_19, zr_155_20 ⟨by omega, by omega⟩, s2, zr_155_21, zr_155_22, zr_155_23, e1, e2, if_pos (by omega), zr_155_636, zr_155_637 (Or.inr (by decide))]
    exact ⟨rfl, k, hp⟩
  | succ m ih =>
    intro k w hkL hm hp
    by_cases hlt : L < 4 * k + 4 + m
    · exact ih k w hkL hlt hp
    obtain ⟨s1, s2, s3⟩ := hscr k w hp
    have hz := zNC_lt
    have e1 : zN ((L : Int) - 4) = (L : Int) - 4 := zN_of (by omega) (by omega)
    have e2 : zN (((4 * k : Nat) : Int)) = ((4 * k : Nat) : Int) := zN_of (by omega) (by omega)
    rw [zr_155_18, zr_155_19, zr_155_20 ⟨by omega, by omega⟩, s2, zr_155_21, zr_155_22, zr_155_23, e1, e2, if_neg (by omega)]
    refine hstep k w _ (by omega) hp (fun w' hp' => ?_)
    rw [zr_155_630, zr_155_633]
    have e3 : (((4 * k : Nat) : Int)) + 4 = ((4 * (k + 1) : Nat) : Int) := by omega
    rw [e3]
    exact ih (k + 1) w' (by omega) (by omega) hp'
