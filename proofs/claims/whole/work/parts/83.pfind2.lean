-- who sends: both sides together
theorem zOwn {w : zW} (h : zCon w) {p : Nat} (hp : p < 8) : zf w 17 (zPt p) = if p = 0 ∨ p = 7 then 1 else 0 := by
  obtain ⟨w0, h1, -, -, h4⟩ := h
  have hp8 : p = 0 ∨ p = 1 ∨ p = 2 ∨ p = 3 ∨ p = 4 ∨ p = 5 ∨ p = 6 ∨ p = 7 := by omega
  rcases hp8 with rfl | rfl | rfl | rfl | rfl | rfl | rfl | rfl
  · exact ((h4 7 (by omega)).1).trans (zff_17_7 h1)
  · exact ((h4 32 (by omega)).1).trans (zff_17_32 h1)
  · exact ((h4 86 (by omega)).1).trans (zff_17_86 h1)
  · exact ((h4 108 (by omega)).1).trans (zff_17_108 h1)
  · exact ((h4 130 (by omega)).1).trans (zff_17_130 h1)
  · exact ((h4 152 (by omega)).1).trans (zff_17_152 h1)
  · exact ((h4 174 (by omega)).1).trans (zff_17_174 h1)
  · exact ((h4 52 (by omega)).1).trans (zff_17_52 h1)
theorem zBus_all {L : Nat} {xs : Nat → Int} {w : zW} (hb : zBase L xs w) (h : zCon w) {b : Nat} (hb2 : b < 2) : zp w 42 (70 + 7 * b) = some (70 + 7 * b + 1) ∧ zk w (70 + 7 * b + 1) = 21 ∧ zl w (70 + 7 * b + 1) = 7 ∧ zp w 43 (70 + 7 * b) = some (72 + 7 * b) ∧ zk w (72 + 7 * b) = 6 ∧ zp w 44 (70 + 7 * b) = some (73 + 7 * b) ∧ zp w 47 (70 + 7 * b) = some (75 + 7 * b) ∧ zRK w (73 + 7 * b) ∧ zRK w (75 + 7 * b) ∧ zb w 2 b = some (70 + 7 * b) := by
  have hb01 : b = 0 ∨ b = 1 := by omega
  rcases hb01 with rfl | rfl
  · exact ⟨zcq_42_70 h, zk_at_71 hb, zl_at_71 hb, zcq_43_70 h, zk_at_72 hb, zcq_44_70 h, zcq_47_70 h, ⟨zk_at_73 hb, zcq_56_73 h, zk_at_74 hb, zl_at_74 hb⟩, ⟨zk_at_75 hb, zcq_56_75 h, zk_at_76 hb, zl_at_76 hb⟩, zcb_2_0 hb h⟩
  · exact ⟨zcq_42_77 h, zk_at_78 hb, zl_at_78 hb, zcq_43_77 h, zk_at_79 hb, zcq_44_77 h, zcq_47_77 h, ⟨zk_at_80 hb, zcq_56_80 h, zk_at_81 hb, zl_at_81 hb⟩, ⟨zk_at_82 hb, zcq_56_82 h, zk_at_83 hb, zl_at_83 hb⟩, zcb_2_1 hb h⟩
theorem zaim_eq {s t : zSt} {p : Int} (h1 : ∀ x, t 201 x = s 201 x) (h2 : t 100 0 = s 100 0) : zaim t p = zaim s p := by
  unfold zaim
  rw [h1, h2]
theorem zrwc_eq {s t : zSt} {p : Int} {n : Nat} (h1 : ∀ x, t 201 x = s 201 x) (h2 : t 100 0 = s 100 0) : zrwc t p n = zrwc s p n := by
  have e : zrow t p = zrow s p := funext fun x => by
    unfold zrow
    rw [zaim_eq h1 h2, h1, h1]
  funext x
  unfold zrwc
  rw [e]
theorem zlt_01 {g h : Int → Int} {n m : Int} : ∀ (k : Nat) (i : Int), zlt g h n m k i = 0 ∨ zlt g h n m k i = 1
  | 0, _ => by
    rw [zlt]
    split
    · exact Or.inr rfl
    · exact Or.inl rfl
  | k + 1, i => by
    rw [zlt]
    split
    · exact zlt_01 k (i + 1)
    · split
      · exact Or.inr rfl
      · exact Or.inl rfl
-- how far the choosing has come: who leads, and its row on the wire and in the reference's best
def zIv (b : Nat) (s : zSt) (w v : zW) (t : zSt) (sn : Option Nat) : Prop := zSF w v ∧ (∀ f k, ¬ (f = 57 ∧ (k = 73 + 7 * b ∨ k = 75 + 7 * b)) → zf v f k = zf w f k) ∧ (∀ k, k ≠ 74 + 7 * b → k ≠ 76 + 7 * b → ∀ j, za v k j = za w k j) ∧ (∀ a, a ≠ 224 → a ≠ 104 → a ≠ 225 → a ≠ 106 → ∀ x, t a x = s a x) ∧ (∃ m : Nat, m ≤ 13 ∧ zf v 57 (73 + 7 * b) = (m : Int)) ∧
  ((sn = none ∧ zf v 57 (73 + 7 * b) = zf w 57 (73 + 7 * b) ∧ ∀ j, za v (74 + 7 * b) j = za w (74 + 7 * b) j) ∨ ∃ p n : Nat, sn = some p ∧ p < 8 ∧ s 195 (p : Int) = (b : Int) ∧ 0 < s 200 (p : Int) ∧ s 201 (96 * (p : Int) + 3) = (n : Int) ∧ n ≤ 8 ∧ zf v 57 (73 + 7 * b) = ((5 + n : Nat) : Int) ∧ (∀ j : Nat, j < 5 + n → za v (74 + 7 * b) j = zrwc s (p : Int) n (j : Int)) ∧ t 106 0 = 5 + (n : Int) ∧ ∀ j : Int, 0 ≤ j → j < 5 + (n : Int) → t 225 j = zrwc s (p : Int) n j)
abbrev zsC (sn : Option Nat) : Option Nat := sn.map zPt
abbrev zsN (sn : Option Nat) : Int := match sn with
  | none => -1
  | some p => (p : Int)
set_option maxHeartbeats 2000000 in
theorem S_port {L : Nat} {xs : Nat → Int} {B : Int} {own : Nat → Nat} {s t : zSt} {w v : zW} (hb : zBase L xs w) (h : zJ0 B 8 own s w) {b p d : Nat} {q : Int} {sn : Option Nat} {l3 l5 l6 : Option zV} (hb2 : b < 2) (hp : p < 8) (hd : d < 7) (hbus : s 195 (p : Int) = (b : Int)) (hport : zb w (70 + 7 * b + 1) d = some (zPt p)) (hI : zIv b s w v t sn) :
    ∃ v2 t2 sn2 m3 m5, (∀ Q, zR 78 4 [some (.inr (some (70 + 7 * b))), some (.inr (zsC sn)), some (.inl (d : Int)), l3] [] v Q = zR 78 4 [some (.inr (some (70 + 7 * b))), some (.inr (zsC sn2)), some (.inl ((d + 1 : Nat) : Int)), m3] [] v2 Q) ∧ (∀ c Q, zKR c → zR 54 34 [some (.inr (some 194)), some (.inl (b : Int)), some (.inl (zsN sn)), some (.inl q), some (.inl (p : Int)), l5, l6] [] (zmk c t) Q = zR 54 4 [some (.inr (some 194)), some (.inl (b : Int)), some (.inl (zsN sn2)), some (.inl (q + 1)), some (.inl (p : Int)), m5, l6] [] (zmk c t2) Q) ∧ zIv b s w v2 t2 sn2 := by
  obtain ⟨k5, f41⟩ := zBus_any hb h.1 hb2
  obtain ⟨b1, b2, b3, b4, b5, b6, b7, b8, b9, b10⟩ := zBus_all hb h.1 hb2
  have hI0 := hI
  obtain ⟨vS, vf, va, vt, vm, vor⟩ := hI
  have hpc := zPt_c hp
  obtain ⟨hd2, nb, q1, q2, q3, q4, q5, q6⟩ := h.2.2.2.1.1.1 p hp (by omega)
  rw [if_neg (show p ≠ 8 by omega)] at q2 q4 q6
  have q4 : zf w 23 (zPt p) = (nb : Int) := q4
  have hiN := h.2.1.2
  have rbus := hiN.2.2.2 (p : Int) (by omega) (by omega)
  have hpo := zPO_at hb h.1 hp
  have hpov : zPO v (zPt p) := hpo.sf vS
  have hP := h.2.2.1.1 p hp
  have hiP := h.2.2.1.2
  have t201 : ∀ x, t 201 x = s 201 x := fun x => vt 201 (by decide) (by decide) (by decide) (by decide) x
  have t100 : t 100 0 = s 100 0 := vt 100 (by decide) (by decide) (by decide) (by decide) 0
  have t195 : t 195 (p : Int) = s 195 (p : Int) := vt 195 (by decide) (by decide) (by decide) (by decide) _
  have t200 : t 200 (p : Int) = s 200 (p : Int) := vt 200 (by decide) (by decide) (by decide) (by decide) _
  have t197 : t 197 (p : Int) = s 197 (p : Int) := vt 197 (by decide) (by decide) (by decide) (by decide) _
  have fv : ∀ f k, f ≠ 57 → zf v f k = zf w f k := fun f k hf => vf f k (fun e => hf e.1)
  have k5v : zk v (70 + 7 * b) = 5 := by rw [vS.k]; exact k5
  have kpv : zk v (zPt p) = 2 := hpov.1
  have a23 : zf v 23 (zPt p) = s 200 (p : Int) := (fv 23 _ (by decide)).trans (q4.trans q5.symm)
  have a19 : zf v 19 (zPt p) = s 197 (p : Int) := (fv 19 _ (by decide)).trans hP.2.1
  have r197 : 0 ≤ s 197 (p : Int) ∧ s 197 (p : Int) ≤ 31 := by
    have e0 : s 197 ((0 : Nat) : Int) = s 197 0 := rfl
    have e7 : s 197 ((7 : Nat) : Int) = s 197 7 := rfl
    by_cases c0 : p = 0
    · subst c0
      have := hiP.2.1.1
      omega
    · by_cases c7 : p = 7
      · subst c7
        have := hiP.2.1.2.1
        omega
      · have := hiP.2.1.2.2 (p : Int) (by omega) (by omega)
        omega
  have c42 : zp v 42 (70 + 7 * b) = some (70 + 7 * b + 1) := by rw [vS.p]; exact b1
  have kp1 : zk v (70 + 7 * b + 1) = 21 := by rw [vS.k]; exact b2
  have lp1 : zl v (70 + 7 * b + 1) = 7 := by rw [vS.l]; exact b3
  have hbd : zb v (70 + 7 * b + 1) d = some (zPt p) := by rw [vS.b]; exact hport
  -- no packet, or no address
  by_cases c1 : s 200 (p : Int) = 0 ∨ s 197 (p : Int) = 0
  · refine ⟨v, t, sn, some (.inr (some (zPt p))), l5, fun Q => m_78_no k5v c42 kp1 lp1 hd hbd (fun Q => m_79_n1 k5v kpv a23 a19 (by omega) (by omega) c1), fun c Q hc => ?_, hI0⟩
    by_cases c2 : s 200 (p : Int) = 0
    · exact m_54_s2 hc (by omega) (by omega) (by rw [t195]; exact rbus) (by rw [t195]; exact hbus) (by rw [t200]; exact c2)
    · exact m_54_s3 hc (by omega) (by omega) (by rw [t195]; exact rbus) (by rw [t195]; exact hbus) (by rw [t200]; omega) (by rw [t197]; omega)
  · have hnb : 0 < nb := by omega
    have hE := q6 0 hnb
    rw [show (hd2 + 0 + 0) % 8 = hd2 by omega] at hE
    have e12 : (12 * (8 * (p : Int) + ((0 : Nat) : Int))) = 96 * (p : Int) := by omega
    unfold zEnt at hE
    rw [e12] at hE
    obtain ⟨E0, E1, E2, E3, E4⟩ := hE
    obtain ⟨hok, hok7⟩ := h.2.2.2.1.2 (p : Int) 0 (by omega) (by omega) (by omega) (by omega) (by omega)
    rw [show 12 * (8 * (p : Int) + 0) = 96 * (p : Int) by omega] at hok hok7
    obtain ⟨o0, o1, o2, o3, o4⟩ := hok
    obtain ⟨n, hn⟩ : ∃ n : Nat, s 201 (96 * (p : Int) + 3) = (n : Int) := ⟨(s 201 (96 * (p : Int) + 3)).toNat, by omega⟩
    have hn8 : n ≤ 8 := by omega
    have own : zf w 17 (zPt p) = if p = 0 ∨ p = 7 then 1 else 0 := zOwn h.1 hp
    -- where it is aimed at, in every world that differs in rows alone
    have haim : ∀ u : zW, zSF w u → (∀ f k, f ≠ 57 → zf u f k = zf w f k) → ∀ Q, zR 80 0 [some (.inr (some (70 + 7 * b))), some (.inr (some (zPt p))), none] [] u Q = Q (some (.inl (zaim s (p : Int)))) u := by
      intro u uS uf Q
      have kbu : zk u (70 + 7 * b) = 5 := by rw [uS.k]; exact k5
      have hpu := hpo.sf uS
      have u17 : zf u 17 (zPt p) = if p = 0 ∨ p = 7 then 1 else 0 := (uf 17 _ (by decide)).trans own
      have u25 : zf u 25 (zPt p) = (hd2 : Int) := (uf 25 _ (by decide)).trans q3
      have u26 : zf u 26 (zPt p + 2 + 2 * hd2) = s 201 (96 * (p : Int)) := (uf 26 _ (by decide)).trans E0
      have u41 : zf u 41 (70 + 7 * b) = (b : Int) := (uf 41 _ (by decide)).trans f41
      by_cases c0 : p = 0
      · subst c0
        have hb0 : b = 0 := by
          have := hiN.1
          have e0 : s 195 ((0 : Nat) : Int) = s 195 0 := rfl
          omega
        subst hb0
        by_cases c32 : s 201 (96 * ((0 : Nat) : Int)) < 32
        · rw [show zaim s ((0 : Nat) : Int) = s 201 (96 * ((0 : Nat) : Int)) + 7 by unfold zaim; rw [if_neg (by decide), if_neg (by decide), if_neg (by omega)]]
          exact m_80_near kbu hpu u17 u25 q1 u26 o0 u41 c32
        · rw [show zaim s ((0 : Nat) : Int) = s 100 0 by unfold zaim; rw [if_neg (by decide), if_neg (by decide), if_pos (by omega)]]
          exact m_80_brg kbu hpu u17 u25 q1 u26 o0 u41 (by omega) (by rw [uS.p]; exact b4) (by rw [uS.k]; exact b5) ((uf 51 _ (by decide)).trans h.2.2.2.2.2.2.2.1.1.2.1)
      · by_cases c7 : p = 7
        · subst c7
          have hb1 : b = 1 := by
            have := hiN.2.2.1
            have e7 : s 195 ((7 : Nat) : Int) = s 195 7 := rfl
            omega
          subst hb1
          rw [show zaim s ((7 : Nat) : Int) = s 201 (96 * ((7 : Nat) : Int)) - 16 by unfold zaim; rw [if_pos (by decide)]]
          exact m_80_far kbu hpu u17 u25 q1 u26 o0 u41 (hok7 rfl)
        · rw [show zaim s (p : Int) = 8 by unfold zaim; rw [if_neg (by omega), if_pos (by omega)]]
          rw [if_neg (by omega)] at u17
          exact m_80_dev hpu.1 u17
    have r100 := h.2.2.2.2.2.2.2.1.2.2
    have raim : 0 ≤ zaim s (p : Int) ∧ zaim s (p : Int) ≤ 300 := by
      unfold zaim
      split
      · have := hok7 (by omega)
        omega
      · split
        · omega
        · split <;> omega
    have haimv := haim v vS fv
    by_cases c3 : zaim s (p : Int) = 0
    · exact ⟨v, t, sn, _, _, fun Q => m_78_no k5v c42 kp1 lp1 hd hbd (fun Q => m_79_n2 k5v kpv a23 a19 (by omega) (by omega) haimv raim (by omega)), fun c Q hc => m_54_s4 hc (by omega) (by omega) (by rw [t195]; exact rbus) (by rw [t195]; exact hbus) (by rw [t200]; omega) (by rw [t197]; omega) (t201 _) o0 ((zaim_eq t201 t100).trans c3), hI0⟩
    · -- it begins
      have hmay : ∀ Q, zR 79 0 [some (.inr (some (70 + 7 * b))), some (.inr (some (zPt p)))] [] v Q = Q (some (.inl 1)) v := fun Q => m_79_y k5v kpv a23 a19 (by omega) (by omega) haimv raim (by omega)
      have hg := zrwc_eq (p := (p : Int)) (n := n) t201 t100
      have rk9 : zRK v (75 + 7 * b) := ⟨by rw [vS.k]; exact b9.1, by rw [vS.p]; exact b9.2.1, by rw [vS.k]; exact b9.2.2.1, by rw [vS.l]; exact b9.2.2.2⟩
      obtain ⟨v1, r1, r2⟩ := m_81 (g := zrwc s (p : Int) n) (n := n) k5v (by rw [vS.p]; exact b7) rk9 hpov ((fv 25 _ (by decide)).trans q3) q1 hn8 (fun u hu Q => by
          rw [zrwc_i (by omega), zrow, if_pos rfl]
          exact haim u (zSF.tr vS hu.1) (fun f k hf => (hu.2.1 f k (fun e => hf e.1)).trans (fv f k hf)) Q)
        (by rw [fv 26 _ (by decide), E0, zrwc_i (by omega), zrow, if_neg (by decide), if_pos (by decide)]; congr 1 <;> omega) (by rw [fv 27 _ (by decide), E1, zrwc_i (by omega), zrow, if_neg (by decide), if_pos (by decide)]; congr 1) (by rw [fv 28 _ (by decide), E2, zrwc_i (by omega), zrow, if_neg (by decide), if_pos (by decide)]; congr 1) ((fv 29 _ (by decide)).trans (E3.trans hn))
        (fun j hj => by rw [va _ (by omega) (by omega), E4 j (by omega), zrwc_i (by omega), zrow, if_neg (by omega), if_neg (by omega)]; congr 1 <;> omega) zrwc_c (by omega)
      have wS : zSF w v1 := zSF.tr vS r2.1
      have f1 : ∀ f k, ¬ (f = 57 ∧ (k = 73 + 7 * b ∨ k = 75 + 7 * b)) → zf v1 f k = zf w f k := fun f k hk => (r2.2.1 f k (fun e => hk ⟨e.1, Or.inr e.2⟩)).trans (vf f k hk)
      have aa1 : ∀ k, k ≠ 74 + 7 * b → k ≠ 76 + 7 * b → ∀ j, za v1 k j = za w k j := fun k k1 k2 j => (r2.2.2.1 k (by omega) j).trans (va k k1 k2 j)
      have wl1 : zf v1 57 (73 + 7 * b) = zf v 57 (73 + 7 * b) := r2.2.1 57 _ (fun e => by omega)
      have wa1 : ∀ j, za v1 (74 + 7 * b) j = za v (74 + 7 * b) j := fun j => r2.2.2.1 _ (by omega) j
      have rk8 : zRK v1 (73 + 7 * b) := ⟨by rw [wS.k]; exact b8.1, by rw [wS.p]; exact b8.2.1, by rw [wS.k]; exact b8.2.2.1, by rw [wS.l]; exact b8.2.2.2⟩
      have rwc : zRW v1 (75 + 7 * b) (5 + n) := r2.rw rk9
      obtain ⟨m, m13, hm⟩ := vm
      have rwh : zRW v1 (73 + 7 * b) m := ⟨rk8.1, rk8.2.1, rk8.2.2.1, rk8.2.2.2, wl1.trans hm⟩
      have k5v1 : zk v1 (70 + 7 * b) = 5 := by rw [wS.k]; exact k5
      have p47v1 : zp v1 47 (70 + 7 * b) = some (75 + 7 * b) := by rw [wS.p]; exact b7
      have p44v1 : zp v1 44 (70 + 7 * b) = some (73 + 7 * b) := by rw [wS.p]; exact b6
      have hcp : ∀ Q, zR 144 0 [some (.inr (some (73 + 7 * b))), some (.inr (some (75 + 7 * b)))] [] v1 Q = Q none (zcp (zsf v1 57 (73 + 7 * b) ((5 + n : Nat) : Int)) (75 + 7 * b + 1) 0 (73 + 7 * b + 1) 0 (5 + n)) := fun Q => m_144 rwh rwc (by omega)
      -- the state behind wish
      have z104 : zrp t (zrwc t (p : Int) n) (5 + (n : Int)) 104 0 = 5 + (n : Int) := zrp_n
      have zo : ∀ a, a ≠ 224 → a ≠ 104 → ∀ x, zrp t (zrwc t (p : Int) n) (5 + (n : Int)) a x = t a x := fun a a1 a2 x => zrp_o a1 a2
      -- it leads from now on
      have hlead : zIv b s w (zcp (zsf v1 57 (73 + 7 * b) ((5 + n : Nat) : Int)) (75 + 7 * b + 1) 0 (73 + 7 * b + 1) 0 (5 + n)) (zbst (zrp t (zrwc t (p : Int) n) (5 + (n : Int))) (5 + (n : Int))) (some p) := by
        refine ⟨⟨wS.1, wS.2.1, wS.2.2⟩, fun f k hk => ?_, fun k k1 k2 j => ?_, fun a a1 a2 a3 a4 x => ?_, ⟨5 + n, by omega, ?_⟩, Or.inr ⟨p, n, rfl, hp, hbus, by omega, hn, hn8, ?_, fun j hj => ?_, ?_, fun j j1 j2 => ?_⟩⟩
        · rw [u_f_cp, ← f1 f k hk]
          by_cases e57 : f = 57
          · exact u_f_nh (fun e => hk ⟨e57, Or.inl e⟩)
          · exact u_f_ne e57
        · rw [u_a_cp (by omega), u_a_sf]
          exact aa1 k k1 k2 j
        · rw [zbst, zpt_ne a3, zv_ne a4, zo a a1 a2]
          exact vt a a1 a2 a3 a4 x
        · rw [u_f_cp, u_f_eq]
        · rw [u_f_cp, u_f_eq]
        · rw [show 74 + 7 * b = 73 + 7 * b + 1 by omega, u_a_cpi ⟨by omega, by omega⟩, Nat.zero_add, Nat.sub_zero, u_a_sf]
          exact r2.2.2.2.2 j hj
        · rw [zbst, zpt_ne (by decide), zv_eq]
        · rw [zbst, zpt_i j1 (by omega), zrp_g j1 j2, hg]
      have hrfl : ∀ c Q, zKR c → zR 54 91 [some (.inr (some 194)), some (.inl (b : Int)), some (.inl (zsN sn)), some (.inl q), some (.inl (p : Int)), l5, l6] [] (zmk c (zrp t (zrwc t (p : Int) n) (5 + (n : Int)))) Q = zR 54 4 [some (.inr (some 194)), some (.inl (b : Int)), some (.inl (p : Int)), some (.inl (q + 1)), some (.inl (p : Int)), some (.inl (5 + (n : Int))), l6] [] (zmk c (zbst (zrp t (zrwc t (p : Int) n) (5 + (n : Int))) (5 + (n : Int)))) Q := fun c Q hc => m_54_91 hc z104 (by omega)
      have tn : t 201 (96 * (p : Int) + 3) = (n : Int) := (t201 _).trans hn
      rcases vor with ⟨n1, n2, n3⟩ | ⟨p0, n0, m1, m2, m3, m4, m5, m6, m7, m8, m9, m10⟩
      · subst n1
        exact ⟨_, _, some p, _, _, fun Q => m_78_first k5v c42 kp1 lp1 hd hbd hmay r1 k5v1 rwc.1 rwh.1 p47v1 p44v1 hcp, fun c Q hc => (m_54_g1 hc (by omega) (by omega) (by rw [t195]; exact rbus) (by rw [t195]; exact hbus) (by rw [t200]; omega) (by rw [t197]; omega) (t201 _) o0 (by rw [zaim_eq t201 t100]; omega) tn hn8 rfl).trans (hrfl c Q hc), hlead⟩
      · subst m1
        have em : m = 5 + n0 := by
          have := hm.symm.trans m7
          omega
        subst em
        have t106 : zrp t (zrwc t (p : Int) n) (5 + (n : Int)) 106 0 = 5 + (n0 : Int) := (zo 106 (by decide) (by decide) 0).trans m9
        -- the two comparisons are one
        have hz1 : zlt (zrc v1 (75 + 7 * b)) (zrc v1 (73 + 7 * b)) ((5 + n : Nat) : Int) ((5 + n0 : Nat) : Int) (min (5 + n) (5 + n0)) 0 = zlt (zrwc s (p : Int) n) (zrwc s (p0 : Int) n0) ((5 + n : Nat) : Int) ((5 + n0 : Nat) : Int) (min (5 + n) (5 + n0)) 0 := zlt_eq _ _ (fun j j1 j2 => by
          obtain ⟨jn, hjn⟩ : ∃ jn : Nat, j = (jn : Int) := ⟨j.toNat, by omega⟩
          subst hjn
          refine ⟨r2.2.2.2.2 jn (by omega), ?_⟩
          show za v1 (73 + 7 * b + 1) jn = _
          rw [show 73 + 7 * b + 1 = 74 + 7 * b by omega, wa1, m8 jn (by omega)])
        have hz2 : zlt (zrp t (zrwc t (p : Int) n) (5 + (n : Int)) 224) (zrp t (zrwc t (p : Int) n) (5 + (n : Int)) 225) (5 + (n : Int)) (5 + (n0 : Int)) (Int.toNat (min (5 + (n : Int)) (5 + (n0 : Int)))) 0 = zlt (zrwc s (p : Int) n) (zrwc s (p0 : Int) n0) ((5 + n : Nat) : Int) ((5 + n0 : Nat) : Int) (min (5 + n) (5 + n0)) 0 := by
          rw [show Int.toNat (min (5 + (n : Int)) (5 + (n0 : Int))) = min (5 + n) (5 + n0) by omega, show ((5 + n : Nat) : Int) = 5 + (n : Int) by omega, show ((5 + n0 : Nat) : Int) = 5 + (n0 : Int) by omega]
          refine zlt_eq _ _ (fun j j1 j2 => ⟨?_, ?_⟩)
          · rw [zrp_g j1 (by omega), hg]
          · rw [zo 225 (by decide) (by decide)]
            exact m10 j j1 (by omega)
        rcases zlt_01 (g := zrwc s (p : Int) n) (h := zrwc s (p0 : Int) n0) (n := ((5 + n : Nat) : Int)) (m := ((5 + n0 : Nat) : Int)) (min (5 + n) (5 + n0)) 0 with hz | hz
        · refine ⟨v1, zrp t (zrwc t (p : Int) n) (5 + (n : Int)), some p0, _, _, fun Q => m_78_nless k5v c42 kp1 lp1 hd hbd hmay r1 k5v1 rwc.1 rwh.1 p47v1 p44v1 (fun Q => by rw [m_143 rwc rwh (by omega) (by omega), hz1, hz]), fun c Q hc => m_54_g3 hc (by omega) (by omega) (by rw [t195]; exact rbus) (by rw [t195]; exact hbus) (by rw [t200]; omega) (by rw [t197]; omega) (t201 _) o0 (by rw [zaim_eq t201 t100]; omega) tn hn8 (by show 0 ≤ (p0 : Int) ∧ (p0 : Int) ≤ 7; omega) t106 (by omega) (hz2.trans hz), wS, f1, aa1, fun a a1 a2 a3 a4 x => (zo a a1 a2 x).trans (vt a a1 a2 a3 a4 x), ⟨5 + n0, by omega, wl1.trans hm⟩, Or.inr ⟨p0, n0, rfl, m2, m3, m4, m5, m6, wl1.trans m7, fun j hj => by rw [wa1]; exact m8 j hj, t106, fun j j1 j2 => by rw [zo 225 (by decide) (by decide)]; exact m10 j j1 j2⟩⟩
        · exact ⟨_, _, some p, _, _, fun Q => m_78_less k5v c42 kp1 lp1 hd hbd hmay r1 k5v1 rwc.1 rwh.1 p47v1 p44v1 (fun Q => by rw [m_143 rwc rwh (by omega) (by omega), hz1, hz]) hcp, fun c Q hc => (m_54_g2 hc (by omega) (by omega) (by rw [t195]; exact rbus) (by rw [t195]; exact hbus) (by rw [t200]; omega) (by rw [t197]; omega) (t201 _) o0 (by rw [zaim_eq t201 t100]; omega) tn hn8 (by show 0 ≤ (p0 : Int) ∧ (p0 : Int) ≤ 7; omega) t106 (by omega) (hz2.trans hz)).trans (hrfl c Q hc), hlead⟩
