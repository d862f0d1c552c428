-- both sides together: a node takes a packet (the relation)
theorem zNd_any {L : Nat} {xs : Nat → Int} {w : zW} (hb : zBase L xs w) (h : zCon w) {d : Nat} (hd : d < 7) : (zk w (zNd d) = 1 ∨ zk w (zNd d) = 4 ∨ zk w (zNd d) = 8) ∧ (d = 0 → zk w (zNd d) = 1) ∧ (d = 1 → zk w (zNd d) = 4) ∧ (2 ≤ d → zk w (zNd d) = 8) ∧ zp w 14 (zNd d) = some (zPt d) ∧ zp w 16 (zNd d) = some (zNd d + 1) ∧ zk w (zNd d + 1) = 18 ∧ zl w (zNd d + 1) = 64 ∧ zb w 3 d = some (zNd d) ∧ zk w (zPt d) = 2 := by
  have hd7 : d = 0 ∨ d = 1 ∨ d = 2 ∨ d = 3 ∨ d = 4 ∨ d = 5 ∨ d = 6 := by omega
  rcases hd7 with rfl | rfl | rfl | rfl | rfl | rfl | rfl
  · exact ⟨Or.inl (zk_at_5 hb), fun _ => zk_at_5 hb, fun q => absurd q (by decide), fun q => absurd q (by decide), zcq_14_5 h, zcq_16_5 h, zk_at_6 hb, zl_at_6 hb, zcb_3_0 hb h, zk_at_7 hb⟩
  · exact ⟨Or.inr (Or.inl (zk_at_30 hb)), fun q => absurd q (by decide), fun _ => zk_at_30 hb, fun q => absurd q (by decide), zcq_14_30 h, zcq_16_30 h, zk_at_31 hb, zl_at_31 hb, zcb_3_1 hb h, zk_at_32 hb⟩
  · exact ⟨Or.inr (Or.inr (zk_at_84 hb)), fun q => absurd q (by decide), fun q => absurd q (by decide), fun _ => zk_at_84 hb, zcq_14_84 h, zcq_16_84 h, zk_at_85 hb, zl_at_85 hb, zcb_3_2 hb h, zk_at_86 hb⟩
  · exact ⟨Or.inr (Or.inr (zk_at_106 hb)), fun q => absurd q (by decide), fun q => absurd q (by decide), fun _ => zk_at_106 hb, zcq_14_106 h, zcq_16_106 h, zk_at_107 hb, zl_at_107 hb, zcb_3_3 hb h, zk_at_108 hb⟩
  · exact ⟨Or.inr (Or.inr (zk_at_128 hb)), fun q => absurd q (by decide), fun q => absurd q (by decide), fun _ => zk_at_128 hb, zcq_14_128 h, zcq_16_128 h, zk_at_129 hb, zl_at_129 hb, zcb_3_4 hb h, zk_at_130 hb⟩
  · exact ⟨Or.inr (Or.inr (zk_at_150 hb)), fun q => absurd q (by decide), fun q => absurd q (by decide), fun _ => zk_at_150 hb, zcq_14_150 h, zcq_16_150 h, zk_at_151 hb, zl_at_151 hb, zcb_3_5 hb h, zk_at_152 hb⟩
  · exact ⟨Or.inr (Or.inr (zk_at_172 hb)), fun q => absurd q (by decide), fun q => absurd q (by decide), fun _ => zk_at_172 hb, zcq_14_172 h, zcq_16_172 h, zk_at_173 hb, zl_at_173 hb, zcb_3_6 hb h, zk_at_174 hb⟩
theorem zBus_any {L : Nat} {xs : Nat → Int} {w : zW} (hb : zBase L xs w) (h : zCon w) {b : Nat} (hb2 : b < 2) : zk w (70 + 7 * b) = 5 ∧ zf w 41 (70 + 7 * b) = (b : Int) := by
  obtain ⟨w0, h1, -, -, h4⟩ := h
  have hb01 : b = 0 ∨ b = 1 := by omega
  rcases hb01 with rfl | rfl
  · exact ⟨zk_at_70 hb, ((h4 70 (by omega)).2).trans (zff_41_70 h1)⟩
  · exact ⟨zk_at_77 hb, ((h4 77 (by omega)).2).trans (zff_41_77 h1)⟩
-- the reference's part is left alone
def yRQ (w v : zW) : Prop := (∀ f, 72 ≤ f → f < 195 → zf v f 194 = zf w f 194) ∧ (∀ h, 195 ≤ h → h ≤ 239 → ∀ j, za v h j = za w h j)
theorem yRQ.rf {w : zW} : yRQ w w := ⟨fun _ _ _ => rfl, fun _ _ _ _ => rfl⟩
theorem yRQ.tr {w v u : zW} (h1 : yRQ w v) (h2 : yRQ v u) : yRQ w u := ⟨fun f a b => (h2.1 f a b).trans (h1.1 f a b), fun h a b j => (h2.2 h a b j).trans (h1.2 h a b j)⟩
theorem yRQ.mk {w v : zW} {s : zSt} (hS : zmk w s = w) (hr : yRQ w v) : zmk v s = v := by
  refine zWx rfl (fun f h => ?_) (fun _ _ => rfl) (fun h j => ?_) (fun _ _ => rfl)
  · by_cases e : h = 194 ∧ 72 ≤ f ∧ f < 195
    · obtain ⟨e1, e2⟩ := e
      subst e1
      rw [v_f e2, hr.1 f e2.1 e2.2, ← hS, v_f e2]
    · exact if_neg e
  · by_cases e : 195 ≤ h ∧ h ≤ 239
    · rw [v_a e.1 e.2, hr.2 h e.1 e.2 j, ← hS, v_a e.1 e.2]
    · exact v_ao (by omega)
theorem yFr.rq {own : Nat → Nat} {d : Nat} {w v : zW} (hd : d < 7) (h : yFr own d w v) : yRQ w v := by
  have := zNd_c hd
  exact ⟨fun f f1 f2 => h.2.1 f 194 (by rw [fg_hi f1]; decide) (Or.inl (by rw [fg_hi f1]; decide)), fun g g1 g2 j => h.2.2 g (by rw [ag_hi g1 g2]; decide) (Or.inl (by rw [ag_hi g1 g2]; decide)) (by omega) j⟩
theorem yFm.rq {own : Nat → Nat} {w v : zW} (h : yFm own w v) : yRQ w v := ⟨fun f f1 f2 => h.2.1 f 194 (by rw [fg_hi f1]; decide) (by rw [fg_hi f1]; decide), fun g g1 g2 j => h.2.2 g (by rw [ag_hi g1 g2]; decide) (by rw [ag_hi g1 g2]; decide) j⟩
theorem yFp.rq {own : Nat → Nat} {w v : zW} (h : yFp own w v) : yRQ w v := ⟨fun f f1 f2 => h.2.1 f 194 (by rw [fg_hi f1]; decide), fun g g1 g2 j => h.2.2 g (by rw [ag_hi g1 g2]; decide) j⟩
theorem yFm.base {L : Nat} {xs : Nat → Int} {own : Nat → Nat} {w v : zW} (hb : zBase L xs w) (h : yFm own w v) : zBase L xs v := by
  obtain ⟨⟨s1, s2, s3⟩, s4, s5⟩ := hb
  exact ⟨⟨by rw [h.1.k]; exact s1, by rw [h.1.l]; exact s2, fun j => by rw [h.2.2 0 (by show (0 : Nat) ≠ 5; decide) (by show (0 : Nat) ≠ 10; decide)]; exact s3 j⟩, by rw [h.1.n]; exact s4, fun e he => by rw [h.1.k, h.1.l]; exact s5 e he⟩
theorem yFp.base {L : Nat} {xs : Nat → Int} {own : Nat → Nat} {w v : zW} (hb : zBase L xs w) (h : yFp own w v) : zBase L xs v := by
  obtain ⟨⟨s1, s2, s3⟩, s4, s5⟩ := hb
  exact ⟨⟨by rw [h.1.k]; exact s1, by rw [h.1.l]; exact s2, fun j => by rw [h.2.2 0 (by show (0 : Nat) ≠ 4; decide)]; exact s3 j⟩, by rw [h.1.n]; exact s4, fun e he => by rw [h.1.k, h.1.l]; exact s5 e he⟩
-- the packet that is being delivered stays as it is
theorem zPkt_eq {s t : zSt} {w v : zW} {k : Nat} (h : zPkt s w k) (ht : ∀ x, t 228 x = s 228 x) (hf : ∀ f, f = 26 ∨ f = 27 ∨ f = 28 ∨ f = 29 → zf v f k = zf w f k) (ha : ∀ j, za v (k + 1) j = za w (k + 1) j) : zPkt t v k := by
  unfold zPkt at h ⊢
  rw [hf 26 (by omega), hf 27 (by omega), hf 28 (by omega), hf 29 (by omega), ht, ht, ht, ht]
  exact ⟨h.1, h.2.1, h.2.2.1, h.2.2.2.1, fun j hj => by rw [ha, ht]; exact h.2.2.2.2 j hj⟩
theorem fg3 {f : Nat} (h : f = 26 ∨ f = 27 ∨ f = 28 ∨ f = 29) : fg f = 3 := by
  rcases h with q | q | q | q <;> rw [q] <;> rfl
theorem zPkt_fr {own : Nat → Nat} {s t : zSt} {w v : zW} {d e i : Nat} (hd : d < 7) (he : e < 8) (hde : d ≠ e) (hi : i < 8) (h : zPkt s w (zPt e + 2 + 2 * i)) (ht : yFs s t) (hv : yFr own d w v) : zPkt t v (zPt e + 2 + 2 * i) := by
  have h1 := zPt_dis (show d < 8 by omega) he hde
  have hag : ag own (zPt e + 2 + 2 * i + 1) = 3 := ag_pk e he i hi
  refine zPkt_eq h (fun x => ht 228 (by decide) (by decide) (by decide) (by decide) x) (fun f hf => hv.2.1 f _ (by rw [fg3 hf]; decide) (Or.inr (by omega))) (fun j => hv.2.2 _ (by rw [hag]; decide) (Or.inr (by omega)) (fun q => ?_) j)
  have h0 : d = 0 ∨ 1 ≤ d := by omega
  rcases h0 with q0 | q0
  · subst q0
    have := zPt_c he
    have e26 : zNd 0 + 21 = 26 := rfl
    omega
  · have := ag_let (own := own) d q0 hd
    rw [← q, hag] at this
    cases this
theorem zPkt_fm {own : Nat → Nat} {s t : zSt} {w v : zW} {e i : Nat} (he : e < 8) (hi : i < 8) (h : zPkt s w (zPt e + 2 + 2 * i)) (ht : yFt s t) (hv : yFm own w v) : zPkt t v (zPt e + 2 + 2 * i) :=
  zPkt_eq h (fun x => ht 228 (by decide) (by decide) x) (fun f hf => hv.2.1 f _ (by rw [fg3 hf]; decide) (by rw [fg3 hf]; decide)) (fun j => hv.2.2 _ (by rw [ag_pk e he i hi]; decide) (by rw [ag_pk e he i hi]; decide) j)
theorem zPkt_fp {own : Nat → Nat} {s t : zSt} {w v : zW} {e i : Nat} (he : e < 8) (hi : i < 8) (h : zPkt s w (zPt e + 2 + 2 * i)) (ht : ∀ x, t 228 x = s 228 x) (hv : yFp own w v) : zPkt t v (zPt e + 2 + 2 * i) :=
  zPkt_eq h ht (fun f hf => hv.2.1 f _ (by rw [fg3 hf]; decide)) (fun j => hv.2.2 _ (by rw [ag_pk e he i hi]; decide) j)
-- what a node's taking comes to
def yOut (L : Nat) (xs : Nat → Int) (B : Int) (e i : Nat) (s t : zSt) (w v : zW) : Prop := ∃ own, zJ0 B e own t v ∧ zBase L xs v ∧ zPkt t v (zPt e + 2 + 2 * i) ∧ yRQ w v ∧ ∀ a, a = 195 ∨ a = 197 ∨ a = 228 ∨ a = 199 → ∀ x, t a x = s a x
set_option maxHeartbeats 2000000 in
theorem P_node {L : Nat} {xs : Nat → Int} {B : Int} {e : Nat} {own : Nat → Nat} {s : zSt} {w : zW} (hb : zBase L xs w) (h : zJ0 B e own s w) {d p b i : Nat} (he : e < 8) (hi : i < 8) (hpk : zPkt s w (zPt e + 2 + 2 * i)) (hI : zPkI s) (hd : d < 7) (hpd : (p = 7 ∧ d = 1) ∨ (p ≠ 7 ∧ d = p)) (hb2 : b < 2) (hbus : s 195 (p : Int) = (b : Int)) (hse : s 195 (e : Int) = (b : Int)) (hpe : p ≠ e) (hB : B < 1999999999) {l2 l4 l5 l7 l8 : Option zV} :
    ∃ v t m8, (∀ Q, zR 21 62 [some (.inr (some 1)), some (.inr (some (70 + 7 * b))), l2, some (.inr (some (zPt e + 2 + 2 * i))), l4, l5, some (.inl (d : Int)), l7, l8] [] w Q = zR 21 96 [some (.inr (some 1)), some (.inr (some (70 + 7 * b))), l2, some (.inr (some (zPt e + 2 + 2 * i))), l4, l5, some (.inl (d : Int)), l7, m8] [] v Q) ∧ (∀ c Q, zKR c → zR 45 0 [some (.inr (some 194)), some (.inl (p : Int)), none, none, none, none] [] (zmk c s) Q = Q none (zmk c t)) ∧ yOut L xs (B + 1) e i s t w v := by
  obtain ⟨n1, n2, n3, n4, n5, n6, n7, n8, n9, n10⟩ := zNd_any hb h.1 hd
  obtain ⟨b1, b2⟩ := zBus_any hb h.1 hb2
  obtain ⟨iN0, iN1, iN7, iNa⟩ := h.2.1.2
  have hpo := zPO_at hb h.1 he
  obtain ⟨-, k3, k30, kk, kl⟩ := hpo.2.2.2.2 i hi
  have hpec := zPt_c he
  have hde : d ≠ e := by
    rcases hpd with ⟨q1, q2⟩ | ⟨q1, q2⟩
    · intro q
      rw [← q, q2] at hse
      rw [q1] at hbus
      have e1 : s 195 ((1 : Nat) : Int) = s 195 1 := rfl
      have e7 : s 195 ((7 : Nat) : Int) = s 195 7 := rfl
      omega
    · omega
  have hlive : 0 ≤ s 195 (d : Int) := by
    rcases hpd with ⟨q1, q2⟩ | ⟨q1, q2⟩
    · rw [q2]
      have e1 : s 195 ((1 : Nat) : Int) = s 195 1 := rfl
      omega
    · rw [q2]
      omega
  have hpd' : ((p : Int) = 7 ∧ (d : Int) = 1) ∨ ((p : Int) ≠ 7 ∧ (d : Int) = (p : Int)) := by omega
  obtain ⟨o26, o27, o28, o29, oby⟩ := id hpk
  obtain ⟨I0, I1, I2, I3, I4⟩ := id hI
  have f21 : zf w 21 (zPt d) = s 202 (d : Int) := (h.2.2.1.1 d (by omega)).2.2.2.1 hd
  have r202 := h.2.2.1.2.2.2.2.2.2 (d : Int) (by omega) (by omega)
  by_cases heq : s 228 0 = s 202 (d : Int)
  · obtain ⟨f, hf⟩ : ∃ f : Nat, s 228 1 = (f : Int) := ⟨(s 228 1).toNat, by omega⟩
    obtain ⟨fl, hfl⟩ : ∃ fl : Nat, s 228 2 = (fl : Int) := ⟨(s 228 2).toNat, by omega⟩
    obtain ⟨ln, hln⟩ : ∃ ln : Nat, s 228 3 = (ln : Int) := ⟨(s 228 3).toNat, by omega⟩
    -- the part stands, or is made
    have hpart : ∃ own1 w1 g, zJ0 B e own1 s w1 ∧ zb w1 (zNd d + 1) f = some g ∧ (∀ Q, zR 113 0 [some (.inr (some (zNd d))), some (.inr (some (zPt e + 2 + 2 * i))), some (.inl (b : Int)), none] [] w Q = zR 113 62 [some (.inr (some (zNd d))), some (.inr (some (zPt e + 2 + 2 * i))), some (.inl (b : Int)), some (.inl (f : Int))] [] w1 Q) ∧ zBase L xs w1 ∧ zPkt s w1 (zPt e + 2 + 2 * i) ∧ yRQ w w1 := by
      rcases h.2.2.2.2.1.1 d f hd (by omega) with q | ⟨g, q1, q2⟩
      · have hdc := zNd_c hd
        have h239 := hb.2.1
        obtain ⟨J1, J2, J3, J4⟩ := J_part hb h hd (by omega) q.1
        have ho : ∀ k2, k2 ≤ 239 → zk (zPW w d f) k2 = zk w k2 ∧ zl (zPW w d f) k2 = zl w k2 ∧ (∀ g, zf (zPW w d f) g k2 = zf w g k2) ∧ (∀ j, za (zPW w d f) k2 j = za w k2 j) := fun k2 hk2 => by
          obtain ⟨o1, o2, o3, o4, o5, o6⟩ := zPN_old (w := w) (f := (f : Int)) (h := k2) (by omega)
          exact ⟨o1, o2, o3, o5⟩
        refine ⟨_, zPW w d f, zn w + 1, J1, J2, fun Q => m_113_new n1 k3 n10 n5 o26 f21 I0 (by omega) heq (o27.trans hf) (by omega) n6 n7 n8 q.1 (by omega), ?_, ?_, ?_⟩
        · obtain ⟨⟨s1, s2, s3⟩, s4, s5⟩ := hb
          have hk239 : ∀ e ∈ zKT, e.1 ≤ 239 := by decide +kernel
          exact ⟨⟨by rw [(ho 0 (by omega)).1]; exact s1, by rw [(ho 0 (by omega)).2.1]; exact s2, fun j => by rw [(ho 0 (by omega)).2.2.2]; exact s3 j⟩, by show 239 ≤ zn w + 2; omega, fun e he => by rw [(ho e.1 (hk239 e he)).1, (ho e.1 (hk239 e he)).2.1]; exact s5 e he⟩
        · exact zPkt_eq hpk (fun _ => rfl) (fun f2 _ => (ho _ (by omega)).2.2.1 f2) (fun j => (ho _ (by omega)).2.2.2 j)
        · exact ⟨fun f2 _ _ => (ho 194 (by omega)).2.2.1 f2, fun k2 _ h2 j => (ho k2 h2).2.2.2 j⟩
      · exact ⟨own, w, g, h, q1, fun Q => m_113_old n1 k3 n10 n5 o26 f21 I0 (by omega) heq (o27.trans hf) (by omega) n6 n7 n8 q1, hb, hpk, yRQ.rf⟩
    obtain ⟨own1, w1, g, J1, hbg, hcl1, hb1, hpk1, rq1⟩ := hpart
    obtain ⟨m1, m2, m3, m4, m5, m6, m7, m8, m9, m10⟩ := zNd_any hb1 J1.1 hd
    obtain ⟨-, k3', k30', kk', kl'⟩ := (zPO_at hb1 J1.1 he).2.2.2.2 i hi
    have kg : zk w1 g = 9 := by
      rcases J1.2.2.2.2.1.1 d f hd (by omega) with q | ⟨g2, q1, q2⟩
      · rw [hbg] at q
        cases q.1
      · rw [hbg] at q1
        cases q1
        exact q2.1
    rcases P_collect J1 hd (show f < 64 by omega) hbg k3' k30' kk' kl' (by omega) hpk1 hf hfl (by omega) hln (by omega) (by omega) (fun j j1 j2 => I4 j j1 (by omega)) with ⟨v, t, c1, c2, c3, c4, c5⟩ | ⟨v, t, kd, n, c1, c2, c3, c4, c5, c6⟩
    · refine ⟨v, t, _, fun Q => m_21_no (zk_at_1 hb) (zcq_1_1 h.1) (zk_at_3 hb) (zl_at_3 hb) hd n9 n1 b1 b2 (fun Q => (hcl1 Q).trans (m_113_62no m1 m6 m7 m8 (by omega) hbg kg c4.1 c1)), fun c Q hc => m_45_join hc (by omega) hpd' rfl rfl I0 (by omega) heq (fun Q => c2 c Q hc), own1, zJ_mono c3 (by omega), yFp.base hb1 c4, zPkt_fp he hi hpk1 (fun x => c5 228 (by decide) x) c4, yRQ.tr rq1 (yFp.rq c4), fun a ha x => c5 a (by rcases ha with q | q | q | q <;> rw [q] <;> decide) x⟩
    · obtain ⟨y1, y2, y3, y4, y5, y6, y7, y8, y9, y10, y11, y12, y13, y14, y15⟩ := c6
      have hbv := yFp.base hb1 c4
      have hpkv := zPkt_fp he hi hpk1 (fun x => c5 228 (by decide) (by decide) (by decide) x) c4
      obtain ⟨x1, x2, x3, x4, x5, x6, x7, x8, x9, x10⟩ := zNd_any hbv c3.1 hd
      have htk : ∀ Q, zR 113 0 [some (.inr (some (zNd d))), some (.inr (some (zPt e + 2 + 2 * i))), some (.inl (b : Int)), none] [] w Q = Q (some (.inr (some g))) v := fun Q => (hcl1 Q).trans (m_113_62yes m1 m6 m7 m8 (by omega) hbg kg c4.1 c1)
      by_cases d0 : d = 0
      · subst d0
        obtain ⟨u, t2, z1, z2, z3, z4, z5⟩ := P_mgr hbv c3 y1 y2 y3 y4 y5 y6 y7 y8 y9 y10 y11 y12 (by omega) y13 y14 y15
        refine ⟨u, t2, _, fun Q => m_21_mg (zk_at_1 hb) (zcq_1_1 h.1) (zk_at_3 hb) (zl_at_3 hb) hd n9 n1 b1 b2 (zk_at_1 hbv) (zcq_1_1 c3.1) (zk_at_3 hbv) (zl_at_3 hbv) x9 (x2 rfl) htk z1, fun c Q hc => m_45_join hc (by omega) hpd' rfl rfl I0 (by omega) heq (fun Q => c2 c Q _ hc (fun Q => z2 c Q hc)), own1, zJ_mono z3 (by omega), yFm.base hbv z4, zPkt_fm he hi hpkv z5 z4, yRQ.tr rq1 (yRQ.tr (yFp.rq c4) (yFm.rq z4)), fun a ha x => ?_⟩
        rw [z5 a (by rcases ha with q | q | q | q <;> rw [q] <;> decide) (by rcases ha with q | q | q | q <;> rw [q] <;> decide)]
        exact c5 a (by rcases ha with q | q | q | q <;> rw [q] <;> decide) (by rcases ha with q | q | q | q <;> rw [q] <;> decide) (by rcases ha with q | q | q | q <;> rw [q] <;> decide) x
      · obtain ⟨u, t2, z1, z2, z3, z4, z5⟩ := P_dev hbv c3 (show 1 ≤ d by omega) hd hde (by rw [c5 195 (by decide) (by decide) (by decide)]; exact hlive) y1 y2 y3 y4 y5 y6 y7 y8 y9 y10 y11 y12 (by omega) y13 y14 y15 hB
        have hgv : zk v (zNd d) = 4 ∨ zk v (zNd d) = 8 := by
          by_cases q : d = 1
          · exact Or.inl (x3 q)
          · exact Or.inr (x4 (by omega))
        refine ⟨u, t2, _, fun Q => m_21_dv (zk_at_1 hb) (zcq_1_1 h.1) (zk_at_3 hb) (zl_at_3 hb) hd n9 n1 b1 b2 (zk_at_1 hbv) (zcq_1_1 c3.1) (zk_at_3 hbv) (zl_at_3 hbv) x9 hgv htk z1, fun c Q hc => m_45_join hc (by omega) hpd' rfl rfl I0 (by omega) heq (fun Q => c2 c Q _ hc (fun Q => z2 c Q hc)), own1, z3, yBase hbv z4, zPkt_fr hd he hde hi hpkv z5 z4, yRQ.tr rq1 (yRQ.tr (yFp.rq c4) (yFr.rq hd z4)), fun a ha x => ?_⟩
        rw [z5 a (by rcases ha with q | q | q | q <;> rw [q] <;> decide) (by rcases ha with q | q | q | q <;> rw [q] <;> decide) (by rcases ha with q | q | q | q <;> rw [q] <;> decide) (by rcases ha with q | q | q | q <;> rw [q] <;> decide)]
        exact c5 a (by rcases ha with q | q | q | q <;> rw [q] <;> decide) (by rcases ha with q | q | q | q <;> rw [q] <;> decide) (by rcases ha with q | q | q | q <;> rw [q] <;> decide) x
  · have same : yOut L xs (B + 1) e i s s w w := ⟨own, zJ_mono h (by omega), hb, hpk, yRQ.rf, fun _ _ _ => rfl⟩
    by_cases d1 : d = 1
    · subst d1
      have k4 := n3 rfl
      obtain ⟨ln, hln⟩ : ∃ ln : Nat, s 228 3 = (ln : Int) := ⟨(s 228 3).toNat, by omega⟩
      -- passing on by port q
      have hgo : ∀ (q P : Nat), q < 8 → zPt q = P → q ≠ e → 0 ≤ s 195 (q : Int) → (q = 7 → 32 ≤ s 228 0) → (∀ (a2 b3 : Nat), zf w 25 P = (a2 : Int) → zf w 23 P = (b3 : Int) → a2 < 8 → b3 ≤ 7 → zPO w P → ∀ Q, zR 75 0 [some (.inr (some 30)), some (.inr (some (zPt e + 2 + 2 * i))), some (.inl (b : Int)), none, none, none] [] w Q = Q none (zsnd1 w P ((b3 : Int) + 1) (s 228 0) (s 228 1) (s 228 2) (P + 2 + 2 * ((a2 + b3) % 8)) (zPt e + 2 + 2 * i + 1) 0 ln)) → (∀ (b3 : Nat), zf w 23 P = (b3 : Int) → b3 = 8 → zPO w P → ∀ Q, zR 75 0 [some (.inr (some 30)), some (.inr (some (zPt e + 2 + 2 * i))), some (.inl (b : Int)), none, none, none] [] w Q = Q none w) → (∀ c Q, zKR c → zR 45 0 [some (.inr (some 194)), some (.inl (p : Int)), none, none, none, none] [] (zmk c s) Q = zR 45 73 [some (.inr (some 194)), some (.inl (p : Int)), some (.inl 1), some (.inl (s 228 0)), some (.inl (q : Int)), none] [] (zmk c s) Q) →
          ∃ v t m8, (∀ Q, zR 21 62 [some (.inr (some 1)), some (.inr (some (70 + 7 * b))), l2, some (.inr (some (zPt e + 2 + 2 * i))), l4, l5, some (.inl ((1 : Nat) : Int)), l7, l8] [] w Q = zR 21 96 [some (.inr (some 1)), some (.inr (some (70 + 7 * b))), l2, some (.inr (some (zPt e + 2 + 2 * i))), l4, l5, some (.inl ((1 : Nat) : Int)), l7, m8] [] v Q) ∧ (∀ c Q, zKR c → zR 45 0 [some (.inr (some 194)), some (.inl (p : Int)), none, none, none, none] [] (zmk c s) Q = Q none (zmk c t)) ∧ yOut L xs (B + 1) e i s t w v := by
        intro q P hq8 hqP hqe hql hq7 hyes hfull hrf
        subst hqP
        obtain ⟨hd2, bq, y1, y2, y3, y4, y5, y6⟩ := h.2.2.2.1.1.1 q hq8 hql
        rw [if_neg hqe] at y2 y4
        have y4 : zf w 23 (zPt q) = (bq : Int) := y4
        have hpoq := zPO_at hb h.1 hq8
        by_cases h8 : bq = 8
        · exact ⟨w, s, _, fun Q => m_21_no (zk_at_1 hb) (zcq_1_1 h.1) (zk_at_3 hb) (zl_at_3 hb) hd n9 n1 b1 b2 (fun Q => m_113_br n1 k3 n10 n5 o26 f21 I0 (by omega) heq k4 (hfull bq y4 h8 hpoq)), fun c Q hc => (hrf c Q hc).trans (m_45_full hc (by omega) y5 (by omega)), same⟩
        · have hJ := J_pass (k := zPt e + 2 + 2 * i) (ln := ln) h hq8 hqe hql y3 y4 y5 y1 (by omega) hpk hI hln hq7
          have hdis := zPt_dis hq8 he hqe
          have hqc := zPt_c hq8
          refine ⟨_, _, _, fun Q => m_21_no (zk_at_1 hb) (zcq_1_1 h.1) (zk_at_3 hb) (zl_at_3 hb) hd n9 n1 b1 b2 (fun Q => m_113_br n1 k3 n10 n5 o26 f21 I0 (by omega) heq k4 (hyes hd2 bq y3 y4 y1 (by omega) hpoq)), fun c Q hc => (hrf c Q hc).trans (m_45_pass hc (by omega) y5 (by omega)), own, zJ_mono hJ (by omega), ?_, zPkt_eq hpk (fun x => zps_f.1 228 (by decide) (by decide) x) (fun f2 _ => zsnd1_fh (by omega) (by omega)) (fun j => zsnd1_ah (by omega)), ⟨fun f2 _ _ => zsnd1_fh (by omega) (by omega), fun k2 _ _ j => zsnd1_ah (by omega)⟩, fun a ha x => zps_f.1 a (by omega) (by omega) x⟩
          obtain ⟨⟨s1, s2, s3⟩, s4, s5⟩ := hb
          exact ⟨⟨s1, s2, fun j => by rw [zsnd1_ah (by omega)]; exact s3 j⟩, s4, s5⟩
      have hs1 : s 195 ((1 : Nat) : Int) = s 195 1 := rfl
      have hs7 : s 195 ((7 : Nat) : Int) = s 195 7 := rfl
      have r2021 : 0 ≤ s 202 1 ∧ s 202 1 ≤ 63 := r202
      rcases hpd with ⟨p7, -⟩ | ⟨p7, p1⟩
      · subst p7
        have hb1 : b = 1 := by omega
        subst hb1
        by_cases t32 : s 228 0 < 32
        · refine hgo 1 32 (by omega) rfl (fun q => by rw [← q] at hse; omega) (by omega) (fun q => by omega) (fun a2 b3 z1 z2 z3 z4 z5 Q => m_75_y1 k4 k3 o26 I0 o27 o28 (o29.trans hln) (by omega) k30 kk kl (zcq_14_30 h.1) z5 z1 z2 z3 z4 (by omega) (by omega) t32) (fun b3 z1 z2 z3 Q => m_75_y1f k4 k3 o26 I0 (zcq_14_30 h.1) z3 z1 z2 t32) (fun c Q hc => m_45_go1 hc (by omega) hpd' rfl rfl I0 (by omega) heq rfl rfl hbus t32)
        · exact ⟨w, s, _, fun Q => m_21_no (zk_at_1 hb) (zcq_1_1 h.1) (zk_at_3 hb) (zl_at_3 hb) hd n9 n1 b1 b2 (fun Q => m_113_br n1 k3 n10 n5 o26 f21 I0 (by omega) heq k4 (fun Q => m_75_n1 k4 k3 o26 I0 (by omega))), fun c Q hc => m_45_no1 hc (by omega) hpd' rfl rfl I0 (by omega) heq rfl hbus (by omega), same⟩
      · subst p1
        have hb0 : b = 0 := by omega
        subst hb0
        have he7 : e ≠ 7 := fun q => by rw [q] at hse; omega
        by_cases t32 : s 228 0 < 32
        · exact ⟨w, s, _, fun Q => m_21_no (zk_at_1 hb) (zcq_1_1 h.1) (zk_at_3 hb) (zl_at_3 hb) hd n9 n1 b1 b2 (fun Q => m_113_br n1 k3 n10 n5 o26 f21 I0 (by omega) heq k4 (fun Q => m_75_n0 k4 k3 o26 I0 t32)), fun c Q hc => m_45_no0 hc (by omega) hpd' rfl rfl I0 (by omega) heq rfl hbus t32, same⟩
        · refine hgo 7 52 (by omega) rfl (fun q => by rw [← q] at hse; omega) (by omega) (fun _ => by omega) (fun a2 b3 z1 z2 z3 z4 z5 Q => m_75_y0 k4 k3 o26 I0 o27 o28 (o29.trans hln) (by omega) k30 kk kl (zcq_31_30 h.1) z5 z1 z2 z3 z4 (by omega) (by omega) (by omega)) (fun b3 z1 z2 z3 Q => m_75_y0f k4 k3 o26 I0 (zcq_31_30 h.1) z3 z1 z2 (by omega)) (fun c Q hc => m_45_go0 hc (by omega) hpd' rfl rfl I0 (by omega) heq rfl (by omega) hbus (by omega))
    · have hno : zk w (zNd d) ≠ 4 := by
        by_cases q : d = 0
        · rw [n2 q]
          decide
        · rw [n4 (by omega)]
          decide
      exact ⟨w, s, _, fun Q => m_21_no (zk_at_1 hb) (zcq_1_1 h.1) (zk_at_3 hb) (zl_at_3 hb) hd n9 n1 b1 b2 (fun Q => m_113_oth n1 k3 n10 n5 o26 f21 I0 (by omega) heq hno), fun c Q hc => m_45_dev hc (by omega) hpd' rfl rfl I0 (by omega) heq (by omega), same⟩
