-- a tick of a bus that is being enumerated: both sides, second lot
set_option maxHeartbeats 1000000 in
theorem P_give {L : Nat} {xs : Nat → Int} {B : Int} {own : Nat → Nat} {s : zSt} {w : zW} (hb : zBase L xs w) (h : zJ0 B 8 own s w) {b : Nat} (hb2 : b < 2) (hst : s 215 (b : Int) = 1) (hg : s 216 (b : Int) = 2) : ∃ v t, (∀ Q, zR 90 34 [some (.inr (some (72 + 7 * b))), some (.inr (some (70 + 7 * b)))] [] w Q = Q none v) ∧ (∀ c Q, zKR c → zR 62 0 [some (.inr (some 194)), some (.inl (b : Int)), none] [] (zmk c s) Q = Q none (zmk c t)) ∧ yEnd L xs B t w v := by
  obtain ⟨k5, f41⟩ := zBus_any hb h.1 hb2
  obtain ⟨b1, b2, b3, b4, b5, b6, b7, b8, b9, b10⟩ := zBus_all hb h.1 hb2
  have hE := h.2.2.2.2.2.2.2.1
  obtain ⟨e48, e49, e50, e52, e53, e54⟩ := hE.1.1 b hb2
  obtain ⟨r215, r216, r217, r218, r219, r221, r220⟩ := hE.2.1 (b : Int) (by omega) (by omega)
  have r7 := r221 hst hg
  obtain ⟨v, h94, hB⟩ := m_94_give b5 k5 b6 b8 (e52.trans hg) (e53 hst hg) e49
  obtain ⟨G, u, t2, g1, g2, g3, g4, g5, g6⟩ := P_erow (n := 3) hb h hb2 (by omega) hB
  have T : ∀ a, sg a ≠ 0 → sg a ≠ 8 → ∀ x, t2 a x = s a x := g6.2.2.2
  have u215 : t2 215 (b : Int) = 1 := (T 215 (by decide) (by decide) _).trans hst
  have u216 : t2 216 (b : Int) = 2 := (T 216 (by decide) (by decide) _).trans hg
  have u221 : t2 221 (b : Int) = (s 221 (b : Int)) := T 221 (by decide) (by decide) _
  have u219 : t2 219 (b : Int) = (s 219 (b : Int)) := T 219 (by decide) (by decide) _
  have kbv : zk v (70 + 7 * b) = 5 := by rw [hB.1.k]; exact k5
  obtain ⟨k5u, f41u⟩ := zBus_any g5 g4.1 hb2
  obtain ⟨-, -, -, -, b5u, -⟩ := zBus_all g5 g4.1 hb2
  rcases g1 with g0 | g0
  · subst g0
    obtain ⟨v3, t3, q1, q2, q3⟩ := P_efail g5 g4 hb2 u215
    exact ⟨v3, t3, fun Q => m_90_34n b5 h94 kbv g2 b5u q1, fun c Q hc => m_62_0n hc (by omega) rfl rfl (fun Q => q2 c Q _ hc (fun Q => g3 c Q hc)), q3.tr (zWg.rq hb2 g6)⟩
  · subst g0
    have hE2 := g4.2.2.2.2.2.2.2.1
    obtain ⟨x48, x49, x50, x52, x53, x54⟩ := hE2.1.1 b hb2
    have x53 := x53 u215 u216
    have hi2 := g4.2.1.2
    have iP2 := g4.2.2.1.2
    obtain ⟨y1, z1, z2⟩ := C85 (x := (s 221 (b : Int))) (y := 16 + (s 219 (b : Int))) g5 g4 hb2 r7.2
    have hl := fun c Q hc => m_62_61 (c := c) (Q := Q) (s := t2) hc (show 0 ≤ (b : Int) ∧ (b : Int) ≤ 1 by omega) u221 r7.2 u219 (by omega) hi2 iP2.1 iP2.2.2.1 8 0 (by omega) (by omega)
    have dz : zDv [2] own u y1 t2 (zu62 t2 (b : Int) (s 221 (b : Int)) (s 219 (b : Int)) 8) := z1.dv (fun f hf => (if_neg (fun q => hf (by rw [q]; rfl))).trans (if_neg (fun q => hf (by rw [q]; rfl)))) (fun a ha x => zu62_o (fun q => ha (by rw [q]; rfl)) (fun q => ha (by rw [q]; rfl)))
    have J3 : zJ0 B 8 own (zu62 t2 (b : Int) (s 221 (b : Int)) (s 219 (b : Int)) 8) y1 := by
      refine J_2 g4 dz ⟨fun p hp => ?_, ?_⟩
      · obtain ⟨a1, a2, a3, a4, a5⟩ := g4.2.2.1.1 p hp
        rw [z1.2.2.1 18 _ rfl, z1.2.2.1 21 _ rfl, z1.2.2.1 22 _ rfl, zu62_o (k := 196) (by decide) (by decide), zu62_o (k := 199) (by decide) (by decide), zu62_o (k := 202) (by decide) (by decide)]
        rcases z1.c hi2 hb2 (fun p hc => hc.1) hp with ⟨c1, c2⟩ | ⟨c1, c2⟩
        · have hy := zu62_y (s := t2) (a := (s 219 (b : Int))) (n := 8) (p := (p : Int)) (by omega) c1
          rw [c2 19 _ rfl, c2 20 _ rfl, hy.1, hy.2]
          refine ⟨a1, rfl, ?_, a4, a5⟩
          split <;> rfl
        · have hy := fun k => zu62_n (s := t2) (a := (s 219 (b : Int))) (n := 8) (k := k) (p := (p : Int)) c1
          rw [c2, c2, hy, hy]
          exact ⟨a1, a2, a3, a4, a5⟩
      · obtain ⟨a1, a2, a3, a4, a5⟩ := iP2
        unfold iP
        simp only [fun p : Int => zu62_o (s := t2) (b := (b : Int)) (x := (s 221 (b : Int))) (a := (s 219 (b : Int))) (n := 8) (p := p) (show 196 ≠ 197 by decide) (show 196 ≠ 198 by decide), fun p : Int => zu62_o (s := t2) (b := (b : Int)) (x := (s 221 (b : Int))) (a := (s 219 (b : Int))) (n := 8) (p := p) (show 199 ≠ 197 by decide) (show 199 ≠ 198 by decide), fun p : Int => zu62_o (s := t2) (b := (b : Int)) (x := (s 221 (b : Int))) (a := (s 219 (b : Int))) (n := 8) (p := p) (show 202 ≠ 197 by decide) (show 202 ≠ 198 by decide)]
        refine ⟨a1, ⟨?_, ?_, fun p p1 p2 => ?_⟩, fun p p1 p2 => ?_, a4, a5⟩
        · rw [zu62_n (fun z => z.1.2.1 rfl)]
          exact a2.1
        · rw [zu62_n (fun z => z.1.2.2 rfl)]
          exact a2.2.1
        · by_cases g : zGv t2 (b : Int) (s 221 (b : Int)) p
          · rw [(zu62_y (by omega) g).1]
            omega
          · rw [zu62_n g]
            exact a2.2.2 p p1 p2
        · by_cases g : zGv t2 (b : Int) (s 221 (b : Int)) p
          · rw [(zu62_y (by omega) g).2]
            exact Or.inr rfl
          · rw [zu62_n g]
            exact a3 p p1 p2
    have eb := dz.end (by decide) g5
    have rq1 := yRQ.tr (zWg.rq hb2 g6) eb.2
    obtain ⟨-, -, -, -, b5y, -⟩ := zBus_all eb.1 J3.1 hb2
    have y49 : zf y1 49 (72 + 7 * b) = (s 219 (b : Int)) := (z1.2.2.1 49 _ rfl).trans (x49.trans u219)
    have y53 : zf y1 53 (72 + 7 * b) = (s 221 (b : Int)) := (z1.2.2.1 53 _ rfl).trans (x53.trans u221)
    have hE3 := J3.2.2.2.2.2.2.2.1
    have w215 : (zu62 t2 (b : Int) (s 221 (b : Int)) (s 219 (b : Int)) 8) 215 (b : Int) = 1 := (zu62_o (by decide) (by decide)).trans u215
    have w216 : (zu62 t2 (b : Int) (s 221 (b : Int)) (s 219 (b : Int)) 8) 216 (b : Int) = 2 := (zu62_o (by decide) (by decide)).trans u216
    have w221 : (zu62 t2 (b : Int) (s 221 (b : Int)) (s 219 (b : Int)) 8) 221 (b : Int) = (s 221 (b : Int)) := (zu62_o (by decide) (by decide)).trans u221
    have w219 : (zu62 t2 (b : Int) (s 221 (b : Int)) (s 219 (b : Int)) 8) 219 (b : Int) = (s 219 (b : Int)) := (zu62_o (by decide) (by decide)).trans u219
    generalize hU : (zu62 t2 (b : Int) (s 221 (b : Int)) (s 219 (b : Int)) 8) = U at *
    have hr : ∀ c Q, zKR c → zR 62 0 [some (.inr (some 194)), some (.inl (b : Int)), none] [] (zmk c s) Q = Q none (zmk c (zv (zv (zv (zv U 220 (16 * (b : Int) + (s 219 (b : Int))) (s 221 (b : Int))) 219 (b : Int) ((s 219 (b : Int)) + 1)) 216 (b : Int) 1) 218 (b : Int) 0)) := fun c Q hc => by
      refine (m_62_0y hc (by omega) rfl rfl (fun Q => m_59_y hc (by omega) (fun Q => g3 c Q hc))).trans ?_
      have q := hl c Q hc
      rw [zu62_0] at q
      exact q.trans (m_62_128 hc (by omega) w221 w219 (by omega))
    obtain ⟨v48, v49, v50, v52, v53, v54⟩ := hE3.1.1 b hb2
    have r220' := (hE3.2.1 (b : Int) (by omega) (by omega)).2.2.2.2.2.2
    have t220 : ∀ x, zv (zv (zv (zv U 220 (16 * (b : Int) + (s 219 (b : Int))) (s 221 (b : Int))) 219 (b : Int) ((s 219 (b : Int)) + 1)) 216 (b : Int) 1) 218 (b : Int) 0 220 x = if x = 16 * (b : Int) + (s 219 (b : Int)) then (s 221 (b : Int)) else U 220 x := fun x => by
      rw [zv_ne (by decide), zv_ne (by decide), zv_ne (by decide)]
      by_cases q : x = 16 * (b : Int) + (s 219 (b : Int))
      · rw [q, zv_eq, if_pos rfl]
      · rw [zv_nj q, if_neg q]
    have hx1 : s 221 (b : Int) = 1000 ∨ s 221 (b : Int) ≠ 1000 := Decidable.em _
    have keyr : ∀ x : Int, 0 ≤ x → x < 16 → 0 ≤ (if 16 * (b : Int) + x = 16 * (b : Int) + (s 219 (b : Int)) then (s 221 (b : Int)) else U 220 (16 * (b : Int) + x)) ∧ (if 16 * (b : Int) + x = 16 * (b : Int) + (s 219 (b : Int)) then (s 221 (b : Int)) else U 220 (16 * (b : Int) + x)) ≤ 65535 := fun x x1 x2 => by
      have := r220' x x1 x2
      split <;> omega
    have kgb : b = 0 → ∀ t : zSt, (∀ x, t 220 x = if x = 16 * (b : Int) + (s 219 (b : Int)) then (s 221 (b : Int)) else U 220 x) → zgb t ((s 219 (b : Int)) + 1).toNat = if (s 221 (b : Int)) = 1000 then 16 + (s 219 (b : Int)) else zf y1 55 72 := fun b0 t ht => by
      subst b0
      obtain ⟨n, hn⟩ : ∃ n : Nat, s 219 ((0 : Nat) : Int) = (n : Int) := ⟨(s 219 ((0 : Nat) : Int)).toNat, by omega⟩
      have w9 : U 219 0 = s 219 ((0 : Nat) : Int) := w219
      rw [hn] at ht w9 ⊢
      have et : t 220 (n : Int) = s 221 ((0 : Nat) : Int) := by rw [ht, if_pos (by omega)]
      rw [show ((n : Int) + 1).toNat = n + 1 by omega, zgb, et, zgb_lt (s := U) n (fun x x1 x2 => by rw [ht, if_neg (by omega)])]
      have q := hE3.1.2.2 w215 (fun q => by have w6 : U 216 0 = 2 := w216; omega)
      rw [w9, Int.toNat_natCast] at q
      rw [q]
    rcases hx1 with hx | hx
    · have d : zDv [7] own y1 (zsf (zsf (zsf (zsf y1 49 (72 + 7 * b) ((s 219 (b : Int)) + 1)) 55 (72 + 7 * b) (16 + (s 219 (b : Int)))) 52 (72 + 7 * b) 1) 50 (72 + 7 * b) 0) U (zv (zv (zv (zv U 220 (16 * (b : Int) + (s 219 (b : Int))) (s 221 (b : Int))) 219 (b : Int) ((s 219 (b : Int)) + 1)) 216 (b : Int) 1) 218 (b : Int) 0) := ⟨rfl, fun f hf k => by rw [u_f_ne (fun q => hf (by rw [q]; decide)), u_f_ne (fun q => hf (by rw [q]; decide)), u_f_ne (fun q => hf (by rw [q]; decide)), u_f_ne (fun q => hf (by rw [q]; decide))], rfl, fun _ _ _ => rfl, rfl, fun a ha x => by rw [zv_ne (fun q => ha (by rw [q]; decide)), zv_ne (fun q => ha (by rw [q]; decide)), zv_ne (fun q => ha (by rw [q]; decide)), zv_ne (fun q => ha (by rw [q]; decide))]⟩
      refine ⟨_, _, fun Q => m_90_34y b5 h94 kbv g2 b5u (fun Q => m_95_2y b5u k5u (x52.trans u216) (x49.trans u219) (x53.trans u221) b5y y49 y53 z2 r7.2 hx), hr, yEnd.tr rq1 ⟨⟨own, J_7 J3 d (E_new (S := 1) (G := 1) (A := (s 219 (b : Int)) + 1) (F := 0) hb2 hE3 (fun f k hk _ => by rw [u_f_nh hk, u_f_nh hk, u_f_nh hk, u_f_nh hk]) (fun a a1 a2 a3 x hx => by rw [zv_nj hx, zv_nj hx, zv_nj hx, zv_ne a2]) (fun x hx => by rw [t220, if_neg (by omega)]) (fun x x1 x2 => by rw [t220]; exact keyr x x1 x2) (by rw [zv_ne (by decide), zv_ne (by decide), zv_ne (by decide), zv_ne (by decide)]; exact w215) (by rw [zv_ne (by decide), zv_eq]) (by rw [zv_ne (by decide), zv_ne (by decide), zv_eq]) zv_eq (by rw [u_f_ne (by decide), u_f_ne (by decide), u_f_ne (by decide), u_f_ne (by decide)]; exact v48.trans w215) (by rw [u_f_ne (by decide), u_f_eq]) (by rw [u_f_ne (by decide), u_f_ne (by decide), u_f_ne (by decide), u_f_eq]) u_f_eq (by omega) (by omega) (by omega) (by omega) (fun _ q => absurd q (by decide)) (fun _ q => absurd q (by decide)) (by rw [u_f_ne (by decide), u_f_ne (by decide), u_f_ne (by decide), u_f_ne (by decide), zv_ne (by decide), zv_ne (by decide), zv_ne (by decide), zv_ne (by decide)]; exact ⟨hE3.1.2.1, hE3.2.2⟩) (fun q1 _ _ => ?_))⟩, d.end (by decide) eb.1⟩⟩
      rw [kgb q1 _ t220, if_pos hx]
      subst q1
      rw [u_f_ne (by decide), u_f_ne (by decide), u_f_eq]
    · have d : zDv [7] own y1 (zsf (zsf (zsf y1 49 (72 + 7 * b) ((s 219 (b : Int)) + 1)) 52 (72 + 7 * b) 1) 50 (72 + 7 * b) 0) U (zv (zv (zv (zv U 220 (16 * (b : Int) + (s 219 (b : Int))) (s 221 (b : Int))) 219 (b : Int) ((s 219 (b : Int)) + 1)) 216 (b : Int) 1) 218 (b : Int) 0) := ⟨rfl, fun f hf k => by rw [u_f_ne (fun q => hf (by rw [q]; decide)), u_f_ne (fun q => hf (by rw [q]; decide)), u_f_ne (fun q => hf (by rw [q]; decide))], rfl, fun _ _ _ => rfl, rfl, fun a ha x => by rw [zv_ne (fun q => ha (by rw [q]; decide)), zv_ne (fun q => ha (by rw [q]; decide)), zv_ne (fun q => ha (by rw [q]; decide)), zv_ne (fun q => ha (by rw [q]; decide))]⟩
      refine ⟨_, _, fun Q => m_90_34y b5 h94 kbv g2 b5u (fun Q => m_95_2n b5u k5u (x52.trans u216) (x49.trans u219) (x53.trans u221) b5y y49 y53 z2 r7.2 hx), hr, yEnd.tr rq1 ⟨⟨own, J_7 J3 d (E_new (S := 1) (G := 1) (A := (s 219 (b : Int)) + 1) (F := 0) hb2 hE3 (fun f k hk _ => by rw [u_f_nh hk, u_f_nh hk, u_f_nh hk]) (fun a a1 a2 a3 x hx => by rw [zv_nj hx, zv_nj hx, zv_nj hx, zv_ne a2]) (fun x hx => by rw [t220, if_neg (by omega)]) (fun x x1 x2 => by rw [t220]; exact keyr x x1 x2) (by rw [zv_ne (by decide), zv_ne (by decide), zv_ne (by decide), zv_ne (by decide)]; exact w215) (by rw [zv_ne (by decide), zv_eq]) (by rw [zv_ne (by decide), zv_ne (by decide), zv_eq]) zv_eq (by rw [u_f_ne (by decide), u_f_ne (by decide), u_f_ne (by decide)]; exact v48.trans w215) (by rw [u_f_ne (by decide), u_f_eq]) (by rw [u_f_ne (by decide), u_f_ne (by decide), u_f_eq]) u_f_eq (by omega) (by omega) (by omega) (by omega) (fun _ q => absurd q (by decide)) (fun _ q => absurd q (by decide)) (by rw [u_f_ne (by decide), u_f_ne (by decide), u_f_ne (by decide), zv_ne (by decide), zv_ne (by decide), zv_ne (by decide), zv_ne (by decide)]; exact ⟨hE3.1.2.1, hE3.2.2⟩) (fun q1 _ _ => ?_))⟩, d.end (by decide) eb.1⟩⟩
      rw [kgb q1 _ t220, if_neg hx]
      subst q1
      rw [u_f_ne (by decide), u_f_ne (by decide), u_f_ne (by decide)]
set_option maxHeartbeats 1000000 in
theorem P_prep {L : Nat} {xs : Nat → Int} {B : Int} {own : Nat → Nat} {s : zSt} {w : zW} (hb : zBase L xs w) (h : zJ0 B 8 own s w) {b : Nat} (hb2 : b < 2) (hst : s 215 (b : Int) = 1) (hg : s 216 (b : Int) = 0) : ∃ v t, (∀ Q, zR 90 0 [some (.inr (some (72 + 7 * b))), some (.inr (some (70 + 7 * b)))] [] w Q = Q none v) ∧ (∀ c Q, zKR c → zR 60 0 [some (.inr (some 194)), some (.inl (b : Int)), none] [] (zmk c s) Q = Q none (zmk c t)) ∧ yEnd L xs B t w v := by
  obtain ⟨k5, f41⟩ := zBus_any hb h.1 hb2
  obtain ⟨b1, b2, b3, b4, b5, b6, b7, b8, b9, b10⟩ := zBus_all hb h.1 hb2
  have hE := h.2.2.2.2.2.2.2.1
  obtain ⟨e48, e49, e50, e52, e53, e54⟩ := hE.1.1 b hb2
  obtain ⟨r215, r216, r217, r218, r219, r221, r220⟩ := hE.2.1 (b : Int) (by omega) (by omega)
  have hi := h.2.1.2
  have iP2 := h.2.2.1.2
  obtain ⟨u, z1, z2⟩ := C84 hb h hb2
  have keu : zk u (72 + 7 * b) = 6 := by rw [z1.1.k]; exact b5
  have zn : ∀ f, f ≠ 20 → zS84 f = none := fun f hf => if_neg hf
  have d : zDv [2, 7] own w (zsf (zsf (zsf (zsf u 49 (72 + 7 * b) 0) 55 (72 + 7 * b) 0) 52 (72 + 7 * b) 1) 50 (72 + 7 * b) 0) s (zv (zv (zv (zpt s 198 0 8 (zg60 s (b : Int))) 219 (b : Int) 0) 216 (b : Int) 1) 218 (b : Int) 0) := ⟨z1.1.1, fun f hf k => by rw [u_f_ne (fun q => hf (by rw [q]; decide)), u_f_ne (fun q => hf (by rw [q]; decide)), u_f_ne (fun q => hf (by rw [q]; decide)), u_f_ne (fun q => hf (by rw [q]; decide)), z1.2.2.1 f k (zn f (fun q => hf (by rw [q]; decide)))], z1.1.2.1, fun k _ j => z1.2.1 k j, z1.1.2.2, fun a ha x => by rw [zv_ne (fun q => ha (by rw [q]; decide)), zv_ne (fun q => ha (by rw [q]; decide)), zv_ne (fun q => ha (by rw [q]; decide)), zpt_ne (fun q => ha (by rw [q]; decide))]⟩
  have ts : ∀ a, a ≠ 218 → a ≠ 216 → a ≠ 219 → a ≠ 198 → ∀ x, (zv (zv (zv (zpt s 198 0 8 (zg60 s (b : Int))) 219 (b : Int) 0) 216 (b : Int) 1) 218 (b : Int) 0) a x = s a x := fun a a1 a2 a3 a4 x => by rw [zv_ne a1, zv_ne a2, zv_ne a3, zpt_ne a4]
  have t198 : ∀ x : Int, 0 ≤ x → x < 8 → (zv (zv (zv (zpt s 198 0 8 (zg60 s (b : Int))) 219 (b : Int) 0) 216 (b : Int) 1) 218 (b : Int) 0) 198 x = zg60 s (b : Int) x := fun x x1 x2 => by rw [zv_ne (by decide), zv_ne (by decide), zv_ne (by decide), zpt_i x1 (by omega)]
  have vf : ∀ f k, f ≠ 50 → f ≠ 52 → f ≠ 55 → f ≠ 49 → zf (zsf (zsf (zsf (zsf u 49 (72 + 7 * b) 0) 55 (72 + 7 * b) 0) 52 (72 + 7 * b) 1) 50 (72 + 7 * b) 0) f k = zf u f k := fun f k f1 f2 f3 f4 => by rw [u_f_ne f1, u_f_ne f2, u_f_ne f3, u_f_ne f4]
  refine ⟨(zsf (zsf (zsf (zsf u 49 (72 + 7 * b) 0) 55 (72 + 7 * b) 0) 52 (72 + 7 * b) 1) 50 (72 + 7 * b) 0), (zv (zv (zv (zpt s 198 0 8 (zg60 s (b : Int))) 219 (b : Int) 0) 216 (b : Int) 1) 218 (b : Int) 0), fun Q => m_90_prep b5 k5 (e52.trans hg) keu z2, fun c Q hc => m_60_prep hc (by omega) hi iP2.2.2.1 hg, ⟨own, J_27 h d ⟨fun p hp => ?_, ?_⟩ (E_new (S := 1) (G := 1) (A := 0) (F := 0) hb2 hE (fun f k hk hf => by rw [u_f_nh hk, u_f_nh hk, u_f_nh hk, u_f_nh hk, z1.2.2.1 f k (zn f (fun q => by rw [q] at hf; cases hf))]) (fun a a1 a2 a3 x hx => by rw [zv_nj hx, zv_nj hx, zv_nj hx, zpt_ne (fun q => by rw [q] at a1; cases a1)]) (fun x _ => ts 220 (by decide) (by decide) (by decide) (by decide) x) (fun x x1 x2 => by rw [ts 220 (by decide) (by decide) (by decide) (by decide)]; exact r220 x x1 x2) ((ts 215 (by decide) (by decide) (by decide) (by decide) _).trans hst) (by rw [zv_ne (by decide), zv_eq]) (by rw [zv_ne (by decide), zv_ne (by decide), zv_eq]) zv_eq ((vf 48 _ (by decide) (by decide) (by decide) (by decide)).trans ((z1.2.2.1 48 _ rfl).trans (e48.trans hst))) (by rw [u_f_ne (by decide), u_f_eq]) (by rw [u_f_ne (by decide), u_f_ne (by decide), u_f_ne (by decide), u_f_eq]) u_f_eq (by omega) (by omega) (by omega) (by omega) (fun _ q => absurd q (by decide)) (fun _ q => absurd q (by decide)) (by rw [vf 51 _ (by decide) (by decide) (by decide) (by decide), z1.2.2.1 51 _ rfl, ts 100 (by decide) (by decide) (by decide) (by decide)]; exact ⟨hE.1.2.1, hE.2.2⟩) (fun q1 _ _ => ?_))⟩, d.end (by decide) hb⟩
  · obtain ⟨a1, a2, a3, a4, a5⟩ := h.2.2.1.1 p hp
    rw [vf 18 _ (by decide) (by decide) (by decide) (by decide), vf 19 _ (by decide) (by decide) (by decide) (by decide), vf 20 _ (by decide) (by decide) (by decide) (by decide), vf 21 _ (by decide) (by decide) (by decide) (by decide), vf 22 _ (by decide) (by decide) (by decide) (by decide), z1.2.2.1 18 _ rfl, z1.2.2.1 19 _ rfl, z1.2.2.1 21 _ rfl, z1.2.2.1 22 _ rfl, ts 196 (by decide) (by decide) (by decide) (by decide), ts 197 (by decide) (by decide) (by decide) (by decide), ts 199 (by decide) (by decide) (by decide) (by decide), ts 202 (by decide) (by decide) (by decide) (by decide), t198 _ (by omega) (by omega)]
    refine ⟨a1, a2, ?_, a4, a5⟩
    rcases z1.c hi hb2 (fun p hc => hc.1) hp with ⟨c1, c2⟩ | ⟨c1, c2⟩
    · rw [c2 20 _ rfl, if_neg (fun q => by have := c1.1.2; omega), show zg60 s (b : Int) (p : Int) = 0 from if_pos c1.1]
    · rw [c2, a3, show zg60 s (b : Int) (p : Int) = s 198 (p : Int) from if_neg (fun z => c1 ⟨z, trivial⟩)]
  · obtain ⟨a1, a2, a3, a4, a5⟩ := iP2
    unfold iP
    simp only [ts 196 (by decide) (by decide) (by decide) (by decide), ts 197 (by decide) (by decide) (by decide) (by decide), ts 199 (by decide) (by decide) (by decide) (by decide), ts 202 (by decide) (by decide) (by decide) (by decide)]
    refine ⟨a1, a2, fun p p1 p2 => ?_, a4, a5⟩
    rw [t198 p p1 p2]
    unfold zg60
    split
    · exact Or.inl rfl
    · exact a3 p p1 p2
  · subst q1
    rw [u_f_ne (by decide), u_f_ne (by decide), u_f_eq]
    rfl
theorem zLeast_eq {s : zSt} {b x y m k : Int} (hx : zLeast s b 8 x m) (hy : zLeast s b 8 y k) : (x = m ∧ y = k) ∨ (x = y ∧ ∃ q : Int, 0 ≤ q ∧ q < 8 ∧ x = s 196 q) := by
  rcases hx with ⟨x1, x2⟩ | ⟨q, q1, q2, q3, q4, q5⟩
  · rcases hy with ⟨y1, y2⟩ | ⟨r, r1, r2, r3, r4, r5⟩
    · exact Or.inl ⟨x1, y1⟩
    · exact absurd r3 (x2 r r1 r2)
  · rcases hy with ⟨y1, y2⟩ | ⟨r, r1, r2, r3, r4, r5⟩
    · exact absurd q3 (y2 q q1 q2)
    · have h1 := q5 r r1 r2 r3
      have h2 := r5 q q1 q2 q3
      exact Or.inr ⟨by omega, q, q1, q2, q4⟩
set_option maxHeartbeats 1000000 in
theorem P_ask {L : Nat} {xs : Nat → Int} {B : Int} {own : Nat → Nat} {s : zSt} {w : zW} (hb : zBase L xs w) (h : zJ0 B 8 own s w) {b : Nat} (hb2 : b < 2) (hst : s 215 (b : Int) = 1) (hg : s 216 (b : Int) = 1) : ∃ v t, (∀ Q, zR 90 0 [some (.inr (some (72 + 7 * b))), some (.inr (some (70 + 7 * b)))] [] w Q = Q none v) ∧ (∀ c Q, zKR c → zR 61 0 [some (.inr (some 194)), some (.inl (b : Int)), none, none] [] (zmk c s) Q = Q none (zmk c t)) ∧ yEnd L xs B t w v := by
  obtain ⟨k5, f41⟩ := zBus_any hb h.1 hb2
  obtain ⟨b1, b2, b3, b4, b5, b6, b7, b8, b9, b10⟩ := zBus_all hb h.1 hb2
  have hE := h.2.2.2.2.2.2.2.1
  obtain ⟨e48, e49, e50, e52, e53, e54⟩ := hE.1.1 b hb2
  obtain ⟨r215, r216, r217, r218, r219, r221, r220⟩ := hE.2.1 (b : Int) (by omega) (by omega)
  have hi := h.2.1.2
  have iP2 := h.2.2.1.2
  obtain ⟨x, x1, x2⟩ := C83 hb h hb2
  obtain ⟨y, y1, y2⟩ := m_61_0 (s := s) (b := (b : Int)) (by omega) hi iP2.1 iP2.2.2.1
  have g52 := e52.trans hg
  have g48 := e48.trans hst
  rcases zLeast_eq x1 y1 with ⟨q1, q2⟩ | ⟨q1, p, p1, p2, p3⟩
  · subst q1
    subst q2
    by_cases ca : s 219 (b : Int) = 0
    · obtain ⟨t4, o1, o2⟩ := P_done hb h hb2 hst (by omega)
      have o3 := (o2 53 (-1)).resolve_right (fun q => q (Or.inl rfl))
      exact ⟨_, t4, fun Q => m_90_a0 b5 k5 g52 g48 (e49.trans ca) x2, fun c Q hc => (y2 c Q hc).trans (m_61_done hc (by omega) ca (fun Q => o1 c Q hc)), o3⟩
    · have d : zDv [7] own w (zsf (zsf (zsf (zsf w 53 (72 + 7 * b) (-1)) 54 (72 + 7 * b) 0) 52 (72 + 7 * b) 3) 50 (72 + 7 * b) 0) s (zv (zv (zv s 216 (b : Int) 3) 218 (b : Int) 0) 217 (b : Int) 0) := ⟨rfl, fun f hf k => by rw [u_f_ne (fun q => hf (by rw [q]; decide)), u_f_ne (fun q => hf (by rw [q]; decide)), u_f_ne (fun q => hf (by rw [q]; decide)), u_f_ne (fun q => hf (by rw [q]; decide))], rfl, fun _ _ _ => rfl, rfl, fun a ha x => by rw [zv_ne (fun q => ha (by rw [q]; decide)), zv_ne (fun q => ha (by rw [q]; decide)), zv_ne (fun q => ha (by rw [q]; decide))]⟩
      have J1 : zJ0 B 8 own (zv (zv (zv s 216 (b : Int) 3) 218 (b : Int) 0) 217 (b : Int) 0) (zsf (zsf (zsf (zsf w 53 (72 + 7 * b) (-1)) 54 (72 + 7 * b) 0) 52 (72 + 7 * b) 3) 50 (72 + 7 * b) 0) := by
        refine J_7 h d (E_new (S := 1) (G := 3) (A := s 219 (b : Int)) (F := 0) hb2 hE (fun f k hk _ => by rw [u_f_nh hk, u_f_nh hk, u_f_nh hk, u_f_nh hk]) (fun a a1 a2 a3 x hx => by rw [zv_nj hx, zv_nj hx, zv_nj hx]) (fun x _ => by rw [zv_ne (by decide), zv_ne (by decide), zv_ne (by decide)]) (fun x x1 x2 => by rw [zv_ne (by decide), zv_ne (by decide), zv_ne (by decide)]; exact r220 x x1 x2) (by rw [zv_ne (by decide), zv_ne (by decide), zv_ne (by decide)]; exact hst) (by rw [zv_ne (by decide), zv_ne (by decide), zv_eq]) (by rw [zv_ne (by decide), zv_ne (by decide), zv_ne (by decide)]) (by rw [zv_ne (by decide), zv_eq]) (by rw [u_f_ne (by decide), u_f_ne (by decide), u_f_ne (by decide), u_f_ne (by decide)]; exact g48) (by rw [u_f_ne (by decide), u_f_eq]) (by rw [u_f_ne (by decide), u_f_ne (by decide), u_f_ne (by decide), u_f_ne (by decide)]; exact e49) u_f_eq (by omega) (by omega) r219 (by omega) (fun _ q => absurd q (by decide)) (fun _ _ => by rw [u_f_ne (by decide), u_f_ne (by decide), u_f_eq, zv_eq]; exact ⟨rfl, by omega, by omega⟩) (by rw [u_f_ne (by decide), u_f_ne (by decide), u_f_ne (by decide), u_f_ne (by decide), zv_ne (by decide), zv_ne (by decide), zv_ne (by decide)]; exact ⟨hE.1.2.1, hE.2.2⟩) (fun q1 _ _ => ?_))
        subst q1
        rw [u_f_ne (by decide), u_f_ne (by decide), u_f_ne (by decide), u_f_ne (by decide), zgb_df (s := s) (fun x => by rw [zv_ne (by decide), zv_ne (by decide), zv_ne (by decide)])]
        exact hE.1.2.2 hst (fun q => by have : s 216 0 = 1 := hg; omega)
      have eb := d.end (by decide) hb
      obtain ⟨v, t, o1, o2, o3⟩ := P_set eb.1 J1 hb2 (by rw [zv_ne (by decide), zv_ne (by decide), zv_ne (by decide)]; exact hst) (by rw [zv_ne (by decide), zv_ne (by decide), zv_eq])
      exact ⟨v, t, fun Q => (m_90_a1 b5 k5 g52 g48 e49 (by omega) x2).trans (o1 Q), fun c Q hc => (y2 c Q hc).trans (m_61_set hc (by omega) rfl (by omega) (fun Q => o2 c Q hc)), o3.tr eb.2⟩
  · subst q1
    have rx : 0 ≤ x ∧ x ≤ 65535 := by
      rw [p3]
      exact iP2.1 p p1 p2
    by_cases ca : s 219 (b : Int) = 16
    · have d : zDv [7] own w (zsf (zsf (zsf w 53 (72 + 7 * b) x) 48 (72 + 7 * b) 3) 50 (72 + 7 * b) 0) s (zv (zv s 215 (b : Int) 3) 218 (b : Int) 0) := ⟨rfl, fun f hf k => by rw [u_f_ne (fun q => hf (by rw [q]; decide)), u_f_ne (fun q => hf (by rw [q]; decide)), u_f_ne (fun q => hf (by rw [q]; decide))], rfl, fun _ _ _ => rfl, rfl, fun a ha x => by rw [zv_ne (fun q => ha (by rw [q]; decide)), zv_ne (fun q => ha (by rw [q]; decide))]⟩
      exact ⟨_, _, fun Q => m_90_a2 b5 k5 g52 g48 rx (e49.trans ca) x2, fun c Q hc => (y2 c Q hc).trans (m_61_full hc (by omega) rx ca), ⟨own, J_7 h d (E_new (S := 3) (G := s 216 (b : Int)) (A := s 219 (b : Int)) (F := 0) hb2 hE (fun f k hk _ => by rw [u_f_nh hk, u_f_nh hk, u_f_nh hk]) (fun a a1 a2 a3 x hx => by rw [zv_nj hx, zv_nj hx]) (fun x _ => by rw [zv_ne (by decide), zv_ne (by decide)]) (fun x x1 x2 => by rw [zv_ne (by decide), zv_ne (by decide)]; exact r220 x x1 x2) (by rw [zv_ne (by decide), zv_eq]) (by rw [zv_ne (by decide), zv_ne (by decide)]) (by rw [zv_ne (by decide), zv_ne (by decide)]) zv_eq (by rw [u_f_ne (by decide), u_f_eq]) (by rw [u_f_ne (by decide), u_f_ne (by decide), u_f_ne (by decide)]; exact e52) (by rw [u_f_ne (by decide), u_f_ne (by decide), u_f_ne (by decide)]; exact e49) u_f_eq (by omega) r216 r219 (by omega) (fun q => absurd q (by decide)) (fun q => absurd q (by decide)) (by rw [u_f_ne (by decide), u_f_ne (by decide), u_f_ne (by decide), zv_ne (by decide), zv_ne (by decide)]; exact ⟨hE.1.2.1, hE.2.2⟩) (fun _ q => absurd q (by decide)))⟩, d.end (by decide) hb⟩
    · have d : zDv [7] own w (zsf w 53 (72 + 7 * b) x) s s := ⟨rfl, fun f hf k => by rw [u_f_ne (fun q => hf (by rw [q]; decide))], rfl, fun _ _ _ => rfl, rfl, fun _ _ _ => rfl⟩
      have J1 : zJ0 B 8 own s (zsf w 53 (72 + 7 * b) x) := J_7 h d (E_new (S := 1) (G := 1) (A := s 219 (b : Int)) (F := s 218 (b : Int)) hb2 hE (fun f k hk _ => by rw [u_f_nh hk]) (fun _ _ _ _ _ _ => rfl) (fun _ _ => rfl) r220 hst hg rfl rfl ((u_f_ne (by decide)).trans g48) ((u_f_ne (by decide)).trans g52) ((u_f_ne (by decide)).trans e49) ((u_f_ne (by decide)).trans e50) (by omega) (by omega) r219 r218 (fun _ q => absurd q (by decide)) (fun _ q => absurd q (by decide)) (by rw [u_f_ne (by decide)]; exact ⟨hE.1.2.1, hE.2.2⟩) (fun q1 _ _ => by
        subst q1
        rw [u_f_ne (by decide)]
        exact hE.1.2.2 hst (fun q => by have : s 216 0 = 1 := hg; omega)))
      have eb := d.end (by decide) hb
      obtain ⟨v, h94, hB⟩ := m_94_ask (w := zsf w 53 (72 + 7 * b) x) b5 k5 b6 b8 ((u_f_ne (by decide)).trans g52) u_f_eq
      obtain ⟨G, u, t2, g1, g2, g3, g4, g5, g6⟩ := P_erow (n := 2) eb.1 J1 hb2 (by omega) hB
      have T : ∀ a, sg a ≠ 0 → sg a ≠ 8 → ∀ x, t2 a x = s a x := g6.2.2.2
      have u215 : t2 215 (b : Int) = 1 := (T 215 (by decide) (by decide) _).trans hst
      have u216 : t2 216 (b : Int) = 1 := (T 216 (by decide) (by decide) _).trans hg
      have u219 : t2 219 (b : Int) = s 219 (b : Int) := T 219 (by decide) (by decide) _
      have kbv : zk v (70 + 7 * b) = 5 := by rw [hB.1.k]; exact k5
      obtain ⟨k5u, f41u⟩ := zBus_any g5 g4.1 hb2
      obtain ⟨-, -, -, -, b5u, -⟩ := zBus_all g5 g4.1 hb2
      have rq1 := yRQ.tr eb.2 (zWg.rq hb2 g6)
      rcases g1 with g0 | g0
      · subst g0
        obtain ⟨v3, t3, o1, o2, o3⟩ := P_efail g5 g4 hb2 u215
        exact ⟨v3, t3, fun Q => (m_90_a3 b5 k5 g52 g48 rx e49 (by omega) x2).trans (m_90_34n (w := zsf w 53 (72 + 7 * b) x) b5 h94 kbv g2 b5u o1), fun c Q hc => (y2 c Q hc).trans (m_61_rown hc (by omega) rx rfl (by omega) (fun Q => o2 c Q _ hc (fun Q => g3 c Q hc))), o3.tr rq1⟩
      · subst g0
        have hE2 := g4.2.2.2.2.2.2.2.1
        obtain ⟨x48, x49, x50, x52, x53, x54⟩ := hE2.1.1 b hb2
        have r220' := (hE2.2.1 (b : Int) (by omega) (by omega)).2.2.2.2.2.2
        have u53 : zf u 53 (72 + 7 * b) = x := (g6.2.1 53 _ (by omega) (by omega)).trans u_f_eq
        have d2 : zDv [7] own u (zsf (zsf u 52 (72 + 7 * b) 2) 50 (72 + 7 * b) 0) t2 (zv (zv (zv t2 221 (b : Int) x) 216 (b : Int) 2) 218 (b : Int) 0) := ⟨rfl, fun f hf k => by rw [u_f_ne (fun q => hf (by rw [q]; decide)), u_f_ne (fun q => hf (by rw [q]; decide))], rfl, fun _ _ _ => rfl, rfl, fun a ha x => by rw [zv_ne (fun q => ha (by rw [q]; decide)), zv_ne (fun q => ha (by rw [q]; decide)), zv_ne (fun q => ha (by rw [q]; decide))]⟩
        refine ⟨_, _, fun Q => (m_90_a3 b5 k5 g52 g48 rx e49 (by omega) x2).trans (m_90_34y (w := zsf w 53 (72 + 7 * b) x) b5 h94 kbv g2 b5u (fun Q => m_95_1 b5u (x52.trans u216))), fun c Q hc => (y2 c Q hc).trans (m_61_rowy hc (by omega) rx rfl (by omega) (fun Q => m_59_y hc (by omega) (fun Q => g3 c Q hc))), yEnd.tr rq1 ⟨⟨own, J_7 g4 d2 (E_new (S := 1) (G := 2) (A := s 219 (b : Int)) (F := 0) hb2 hE2 (fun f k hk _ => by rw [u_f_nh hk, u_f_nh hk]) (fun a a1 a2 a3 x hx => by rw [zv_nj hx, zv_nj hx, zv_nj hx]) (fun x _ => by rw [zv_ne (by decide), zv_ne (by decide), zv_ne (by decide)]) (fun x x1 x2 => by rw [zv_ne (by decide), zv_ne (by decide), zv_ne (by decide)]; exact r220' x x1 x2) (by rw [zv_ne (by decide), zv_ne (by decide), zv_ne (by decide)]; exact u215) (by rw [zv_ne (by decide), zv_eq]) (by rw [zv_ne (by decide), zv_ne (by decide), zv_ne (by decide)]; exact u219) zv_eq (by rw [u_f_ne (by decide), u_f_ne (by decide)]; exact x48.trans u215) (by rw [u_f_ne (by decide), u_f_eq]) (by rw [u_f_ne (by decide), u_f_ne (by decide)]; exact x49.trans u219) u_f_eq (by omega) (by omega) r219 (by omega) (fun _ _ => by rw [u_f_ne (by decide), u_f_ne (by decide), zv_ne (by decide), zv_ne (by decide), zv_eq]; exact ⟨u53, by omega, rx⟩) (fun _ q => absurd q (by decide)) (by rw [u_f_ne (by decide), u_f_ne (by decide), zv_ne (by decide), zv_ne (by decide), zv_ne (by decide)]; exact ⟨hE2.1.2.1, hE2.2.2⟩) (fun q1 _ _ => ?_))⟩, d2.end (by decide) g5⟩⟩
        subst q1
        have w9 : t2 219 0 = s 219 ((0 : Nat) : Int) := u219
        rw [u_f_ne (by decide), u_f_ne (by decide), zgb_df (s := t2) (fun x => by rw [zv_ne (by decide), zv_ne (by decide), zv_ne (by decide)]), ← w9]
        exact hE2.1.2.2 u215 (fun q => by have : t2 216 0 = 1 := u216; omega)
theorem P_enum {L : Nat} {xs : Nat → Int} {B : Int} {own : Nat → Nat} {s : zSt} {w : zW} (hb : zBase L xs w) (h : zJ0 B 8 own s w) {b : Nat} (hb2 : b < 2) (hst : s 215 (b : Int) = 1) : ∃ v t, (∀ Q, zR 20 0 [some (.inr (some 1)), some (.inr (some (70 + 7 * b))), none] [] w Q = Q none v) ∧ (∀ c Q, zKR c → zR 60 0 [some (.inr (some 194)), some (.inl (b : Int)), none] [] (zmk c s) Q = Q none (zmk c t)) ∧ yEnd L xs B t w v := by
  obtain ⟨k5, f41⟩ := zBus_any hb h.1 hb2
  obtain ⟨b1, b2, b3, b4, b5, b6, b7, b8, b9, b10⟩ := zBus_all hb h.1 hb2
  have hE := h.2.2.2.2.2.2.2.1
  obtain ⟨e48, e49, e50, e52, e53, e54⟩ := hE.1.1 b hb2
  obtain ⟨r215, r216, r217, r218, r219, r221, r220⟩ := hE.2.1 (b : Int) (by omega) (by omega)
  have hc4 : s 216 (b : Int) = 0 ∨ s 216 (b : Int) = 1 ∨ s 216 (b : Int) = 2 ∨ s 216 (b : Int) = 3 := by omega
  have g48 := e48.trans hst
  rcases hc4 with q | q | q | q
  · obtain ⟨v, t, a1, a2, a3⟩ := P_prep hb h hb2 hst q
    exact ⟨v, t, fun Q => m_20_enum (zk_at_1 hb) k5 b4 b5 g48 a1, a2, a3⟩
  · obtain ⟨v, t, a1, a2, a3⟩ := P_ask hb h hb2 hst q
    exact ⟨v, t, fun Q => m_20_enum (zk_at_1 hb) k5 b4 b5 g48 a1, fun c Q hc => m_60_ask hc (by omega) q (fun Q => a2 c Q hc), a3⟩
  · obtain ⟨v, t, a1, a2, a3⟩ := P_give hb h hb2 hst q
    exact ⟨v, t, fun Q => m_20_enum (zk_at_1 hb) k5 b4 b5 g48 (fun Q => (m_90_g b5 e52 (Or.inl q) g48).trans (a1 Q)), fun c Q hc => m_60_give hc (by omega) q (fun Q => a2 c Q hc), a3⟩
  · obtain ⟨v, t, a1, a2, a3⟩ := P_set hb h hb2 hst q
    exact ⟨v, t, fun Q => m_20_enum (zk_at_1 hb) k5 b4 b5 g48 (fun Q => (m_90_g b5 e52 (Or.inr q) g48).trans (a1 Q)), fun c Q hc => m_60_set hc (by omega) q (fun Q => a2 c Q hc), a3⟩
