-- a tick of one bus that is not being enumerated
def yEnd (L : Nat) (xs : Nat → Int) (B : Int) (t : zSt) (w v : zW) : Prop := (∃ own, zJ0 B 8 own t v) ∧ zBase L xs v ∧ yRQ w v
theorem zIv.wr {b : Nat} {s t : zSt} {w v : zW} {sn : Option Nat} (h : zIv b s w v t sn) : zWr b s t w v :=
  ⟨h.1, h.2.1, h.2.2.1, fun a ha x => h.2.2.2.1 a (fun q => ha (by rw [q]; rfl)) (fun q => ha (by rw [q]; rfl)) (fun q => ha (by rw [q]; rfl)) (fun q => ha (by rw [q]; rfl)) x⟩
theorem zWr.wg {b : Nat} {s t : zSt} {w v : zW} (h : zWr b s t w v) : zWg b s t w v := ⟨h.1, fun f k k1 _ => h.2.1 f k k1, h.2.2.1, fun a ha _ x => h.2.2.2 a ha x⟩
set_option maxHeartbeats 1000000 in
theorem P_packets {L : Nat} {xs : Nat → Int} {B : Int} {own : Nat → Nat} {s : zSt} {w : zW} (hb : zBase L xs w) (h : zJ0 B 8 own s w) {b : Nat} (hb2 : b < 2) (hst : s 215 (b : Int) ≠ 1) (hB : B + 7 < 1999999999) :
    ∃ v t, (∀ Q, zR 20 0 [some (.inr (some 1)), some (.inr (some (70 + 7 * b))), none] [] w Q = Q none v) ∧ (∀ c Q, zKR c → zR 54 0 [some (.inr (some 194)), some (.inl (b : Int)), none, none, none, none, none] [] (zmk c s) Q = Q none (zmk c t)) ∧ yEnd L xs (B + 7) t w v := by
  obtain ⟨k5, f41⟩ := zBus_any hb h.1 hb2
  obtain ⟨b1, b2, b3, b4, b5, b6, b7, b8, b9, b10⟩ := zBus_all hb h.1 hb2
  have f48 : zf w 48 (72 + 7 * b) = s 215 (b : Int) := (h.2.2.2.2.2.2.2.1.1.1 b hb2).1
  have r215 := (h.2.2.2.2.2.2.2.1.2.1 (b : Int) (by omega) (by omega)).1
  obtain ⟨v, t, sn, m4, m5, a1, a2, a3⟩ := P_find hb h hb2
  have hwr := a3.wr
  rcases a3.2.2.2.2.2 with ⟨n1, n2, n3⟩ | ⟨p, n, m1, hp, pbus, pw, hn, hn8, r57, rby, t106, tby⟩
  · subst n1
    refine ⟨v, t, fun Q => m_20_none (zk_at_1 hb) k5 b4 b5 f48 r215 hst a1, fun c Q hc => (a2 c Q hc).trans (m_54_none hc), ⟨own, ?_⟩, zBase_sf hb hwr.1 (fun j => hwr.2.2.1 0 (by omega) (by omega) j), zWg.rq hb2 hwr.wg⟩
    refine zJ_mono (zJ_gen (hwr.wg.dv hb2) h (by decide) (fun q => absurd q (by decide)) (fun q => absurd q (by decide)) (fun q => absurd q (by decide)) (fun q => absurd q (by decide)) (fun q => absurd q (by decide)) (fun q => absurd q (by decide)) (fun q => absurd q (by decide)) (fun _ => ⟨fun b' hb' => ?_, ?_⟩) (fun q => absurd q (by decide)) (fun q => absurd q (by decide))) (by omega)
    · have g := h.2.2.2.2.2.2.2.2.1.1 b' hb'
      rw [hwr.2.2.2 222 (by decide), hwr.2.2.2 223 (by decide), hwr.2.2.2 227 (by decide), hwr.2.1 45 _ (by omega), hwr.2.1 46 _ (by omega)]
      refine ⟨g.1, ?_, fun j hj => ?_⟩
      · by_cases eb : b' = b
        · rw [eb, n2, ← eb]
          exact g.2.1
        · rw [hwr.2.1 57 _ (by omega)]
          exact g.2.1
      · rw [hwr.2.2.2 226 (by decide)]
        by_cases eb : b' = b
        · rw [eb, n3, ← eb]
          exact g.2.2 j hj
        · rw [hwr.2.2.1 _ (by omega) (by omega)]
          exact g.2.2 j hj
    · have g := h.2.2.2.2.2.2.2.2.1.2
      unfold iB at g ⊢
      simp only [hwr.2.2.2 222 (by decide), hwr.2.2.2 223 (by decide), hwr.2.2.2 227 (by decide)]
      exact g
  · subst m1
    -- the row goes
    have ht1 : ∀ a, sg a ≠ 0 → ∀ x, zrst t (5 + (n : Int)) a x = s a x := fun a ha x => by
      unfold zrst
      rw [zpt_ne (fun q => ha (by rw [q]; rfl)), zv_ne (fun q => ha (by rw [q]; rfl))]
      exact hwr.2.2.2 a ha x
    obtain ⟨g, v2, t2, c1, c2, c3, c4, c5, c6, c7⟩ := P_go (n := 4 + n) (t := zrst t (5 + (n : Int))) hb h hb2 (by omega) ⟨hwr.1, hwr.2.1, hwr.2.2.1, ht1⟩ (by rw [r57]; congr 1; omega) (fun j hj => by
        unfold zrst
        rw [zpt_i (by omega) (by omega), rby j (by omega), tby (j : Int) (by omega) (by omega)]) (by unfold zrst; rw [zpt_ne (by decide), zv_eq]; omega)
    have T : ∀ a, sg a ≠ 0 → sg a ≠ 8 → ∀ x, t2 a x = s a x := c6.2.2.2
    have t195 : ∀ x, t2 195 x = s 195 x := T 195 (by decide) (by decide)
    have t200 : ∀ x, t2 200 x = s 200 x := T 200 (by decide) (by decide)
    have hse : t2 195 (p : Int) = (b : Int) := by rw [t195]; exact pbus
    have hsw : 0 < t2 200 (p : Int) := by rw [t200]; exact pw
    have iN2 := c4.2.1.2.2.2.2
    have hpo2 := zPO_at c5 c4.1 hp
    have k5v : zk v (70 + 7 * b) = 5 := by rw [hwr.1.k]; exact k5
    obtain ⟨k5u, -⟩ := zBus_any c5 c4.1 hb2
    -- who would take it
    obtain ⟨k, d1, d2, d3, d4, d5⟩ := m_54_201 (s := t2) (l3 := some (.inl g)) (b := (b : Int)) (sn := (p : Int)) (to := t2 224 0) (by omega) (by omega) iN2 8 0 0 (by omega) (by omega) (by omega) (by omega)
    have hR : ∀ c Q, zKR c → zR 54 0 [some (.inr (some 194)), some (.inl (b : Int)), none, none, none, none, none] [] (zmk c s) Q = zR 54 253 [some (.inr (some 194)), some (.inl (b : Int)), some (.inl (p : Int)), some (.inl g), some (.inl (t2 224 0)), some (.inl k), some (.inl 8)] [] (zmk c t2) Q := fun c Q hc =>
      (a2 c Q hc).trans ((m_54_140 hc (by show 0 ≤ (p : Int) ∧ (p : Int) ≤ 7; omega) t106 (by omega)).trans ((m_54_181 hc (fun Q => c3 c Q hc)).trans (d5 c Q hc)))
    obtain ⟨hd, nb, q1, q2, q3, q4, q5, q6⟩ := c4.2.2.2.1.1.1 p hp (by omega)
    rw [if_neg (show p ≠ 8 by omega)] at q2 q4 q6
    have hrw2 : zRW v2 (73 + 7 * b) (t2 227 (b : Int)).toNat := by
      have e227 := (c4.2.2.2.2.2.2.2.2.1.1 b hb2).2.1
      have i227 := (c4.2.2.2.2.2.2.2.2.1.2 (b : Int) (by omega) (by omega)).2.2
      have S2 := c6.1
      exact ⟨by rw [S2.k]; exact b8.1, by rw [S2.p]; exact b8.2.1, by rw [S2.k]; exact b8.2.2.1, by rw [S2.l]; exact b8.2.2.2, by omega⟩
    have hdl0 : ∀ Q, zR 21 0 [some (.inr (some 1)), some (.inr (some (70 + 7 * b))), some (.inr (some (zPt p))), none, none, none, none, none, none] [] v2 Q = zR 21 22 [some (.inr (some 1)), some (.inr (some (70 + 7 * b))), some (.inr (some (zPt p))), some (.inr (some (zPt p + 2 + 2 * hd))), some (.inl (t2 224 0)), some (.inl 0), some (.inl 0), none, none] [] v2 Q := fun Q => by
      have q := m_21_0 (Q := Q) k5u (by rw [c6.1.p]; exact b6) hrw2 hpo2 q3 q1
      rw [show 73 + 7 * b + 1 = 74 + 7 * b by omega, c7] at q
      exact q
    have rq2 := zWg.rq hb2 c6
    obtain ⟨v3, t3, e1, e2, e3, e4, e5⟩ := P_fail (b := (b : Int)) (l3 := some (.inl g)) (l4 := some (.inl (t2 224 0))) (l5 := some (.inl k)) (l6 := some (.inl 8)) c5 c4 hp (by omega) hsw
    rcases c1 with g0 | g1
    · subst g0
      exact ⟨v3, t3, fun Q => m_20_bad (zk_at_1 hb) k5 b4 b5 f48 r215 hst a1 k5v c2 hpo2.1 e1, fun c Q hc => (hR c Q hc).trans (m_54_253_n1.trans (e2 c Q hc)), ⟨own, zJ_mono e3 (by omega)⟩, e4, yRQ.tr rq2 e5⟩
    · subst g1
      by_cases k0 : k = 0
      · subst k0
        have hnone : ∀ Q, zR 21 0 [some (.inr (some 1)), some (.inr (some (70 + 7 * b))), some (.inr (some (zPt p))), none, none, none, none, none, none] [] v2 Q = Q (some (.inl 0)) v2 := fun Q => (hdl0 Q).trans (C_skips c5 c4 hb2 hp (Or.inl rfl) 7 0 (by omega) (fun d2 a1 a2 => d3 rfl _ (by omega) (by unfold zpd; split <;> omega)) none Q)
        exact ⟨v3, t3, fun Q => m_20_lost (zk_at_1 hb) k5 b4 b5 f48 r215 hst a1 k5v c2 hpo2.1 (zk_at_1 c5) hnone hpo2.1 e1, fun c Q hc => (hR c Q hc).trans (m_54_253_n2.trans (e2 c Q hc)), ⟨own, zJ_mono e3 (by omega)⟩, e4, yRQ.tr rq2 e5⟩
      · -- it is taken out, and taken
        have J1 : zJ0 B 8 own (zpt t2 228 0 12 (fun x => t2 201 (96 * (p : Int) + x))) v2 := zJ_0 c4 ⟨rfl, fun _ _ _ => rfl, rfl, fun _ _ _ => rfl, rfl, fun a ha x => zpt_ne (fun q => ha (by rw [q]; rfl))⟩
        have J2 := J_leave J1 hp (by rw [zpt_ne (by decide)]; omega) (by rw [zpt_ne (by decide)]; exact hsw)
        have hnb : 0 < nb := by omega
        have hE := q6 0 hnb
        rw [show (hd + 0 + 0) % 8 = hd by omega] at hE
        unfold zEnt at hE
        rw [show (12 * (8 * (p : Int) + ((0 : Nat) : Int))) = 96 * (p : Int) by omega] at hE
        obtain ⟨E0, E1, E2, E3, E4⟩ := hE
        obtain ⟨hok, -⟩ := c4.2.2.2.1.2 (p : Int) 0 (by omega) (by omega) (by omega) (by omega) (by omega)
        rw [show 12 * (8 * (p : Int) + 0) = 96 * (p : Int) by omega] at hok
        obtain ⟨o0, o1, o2, o3, o4⟩ := hok
        have x228 : ∀ x : Int, 0 ≤ x → x < 12 → zpk t2 (p : Int) 228 x = t2 201 (96 * (p : Int) + x) := fun x x1 x2 => by
          unfold zpk
          rw [zlvp_o (by decide) (by decide) (by decide), zpt_i x1 (by omega)]
        have xo : ∀ a, a ≠ 199 → a ≠ 200 → a ≠ 201 → a ≠ 228 → ∀ x, zpk t2 (p : Int) a x = t2 a x := fun a a1 a2 a3 a4 x => by
          unfold zpk
          rw [zlvp_o a1 a2 a3, zpt_ne a4]
        have x0 := x228 0 (by omega) (by omega)
        rw [Int.add_zero] at x0
        have hpk : zPkt (zpk t2 (p : Int)) v2 (zPt p + 2 + 2 * hd) := by
          unfold zPkt
          rw [x0, x228 1 (by omega) (by omega), x228 2 (by omega) (by omega), x228 3 (by omega) (by omega)]
          exact ⟨E0, E1, E2, E3, fun j hj => by rw [x228 _ (by omega) (by omega), E4 j hj, Int.add_assoc]⟩
        have hI : zPkI (zpk t2 (p : Int)) := by
          unfold zPkI
          rw [x0, x228 1 (by omega) (by omega), x228 2 (by omega) (by omega), x228 3 (by omega) (by omega)]
          exact ⟨o0, o1, o2, o3, fun j j1 j2 => by rw [x228 _ (by omega) (by omega), ← Int.add_assoc]; exact o4 j j1 j2⟩
        have x195 := xo 195 (by decide) (by decide) (by decide) (by decide)
        have x197 := xo 197 (by decide) (by decide) (by decide) (by decide)
        obtain ⟨v4, t4, f1, f2, own4, y1, y2, y3, y4, y5⟩ := T_some (l3 := some (.inl 1)) (l5 := some (.inl k)) (l7 := none) (l8 := none) (to := t2 224 0) c5 J2 hb2 hp q1 hpk hI ((x195 _).trans hse) hB (by
          obtain ⟨z, z1, z2, z3⟩ := d4 (by omega)
          exact ⟨z, z1, z2, (zTk_eq x195 x197 z).2 z3⟩)
        have e195 : t4 195 (p : Int) = (b : Int) := (y5 195 (by omega) _).trans ((x195 _).trans hse)
        obtain ⟨hd5, b5', w1, w2, w3, w4⟩ := J_drop y1 hp (by omega) ((y5 199 (by omega) _).trans (by rw [zlvp_9, if_pos rfl]))
        have hpo4 := zPO_at y2 y1.1 hp
        exact ⟨_, t4, fun Q => m_20_took (zk_at_1 hb) k5 b4 b5 f48 r215 hst a1 k5v c2 hpo2.1 (zk_at_1 c5) (fun Q => (hdl0 Q).trans (f1 Q)) hpo4.1 (fun Q => m_132 hpo4.1 w2 w3 w1), fun c Q hc => (hR c Q hc).trans ((m_54_253_y (by omega)).trans ((m_54_288 hc (by omega)).trans (f2 c Q hc))), ⟨own4, w4⟩, zdrp_base y2, yRQ.tr rq2 (yRQ.tr y4 zdrp_rq)⟩
