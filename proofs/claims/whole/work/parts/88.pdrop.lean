-- a packet leaves the output
theorem zlvp_9 {s : zSt} {p x : Int} : zlvp s p 199 x = if x = p then 0 else s 199 x := by
  unfold zlvp
  by_cases e : x = p
  · rw [e, zv_eq, if_pos rfl]
  · rw [zv_nj e, zv_ne (by decide), zpt_ne (by decide), if_neg e]
theorem zlvp_0 {s : zSt} {p x : Int} : zlvp s p 200 x = if x = p then s 200 p - 1 else s 200 x := by
  unfold zlvp
  rw [zv_ne (by decide)]
  by_cases e : x = p
  · rw [e, zv_eq, if_pos rfl]
  · rw [zv_nj e, zpt_ne (by decide), if_neg e]
theorem zlvp_1i {s : zSt} {p x : Int} (h1 : 96 * p ≤ x) (h2 : x < 96 * p + 84) : zlvp s p 201 x = s 201 (x + 12) := by
  unfold zlvp
  rw [zv_ne (by decide), zv_ne (by decide), zpt_i h1 h2]
theorem zlvp_1o {s : zSt} {p x : Int} (h : x < 96 * p ∨ 96 * p + 84 ≤ x) : zlvp s p 201 x = s 201 x := by
  unfold zlvp
  rw [zv_ne (by decide), zv_ne (by decide), zpt_o h]
theorem zlvp_o {s : zSt} {p x : Int} {a : Nat} (h1 : a ≠ 199) (h2 : a ≠ 200) (h3 : a ≠ 201) : zlvp s p a x = s a x := by
  unfold zlvp
  rw [zv_ne h1, zv_ne h2, zpt_ne h3]
theorem zEnt_mv {s t : zSt} {w : zW} {p q k m h : Nat} (he : zEnt s w p k h) (hl : s 201 (12 * (8 * (p : Int) + (k : Int)) + 3) ≤ 8) (h2 : ∀ j : Int, 0 ≤ j → j < 12 → t 201 (12 * (8 * (q : Int) + (m : Int)) + j) = s 201 (12 * (8 * (p : Int) + (k : Int)) + j)) : zEnt t w q m h := by
  unfold zEnt at he ⊢
  have h0 := h2 0 (by omega) (by omega)
  rw [Int.add_zero, Int.add_zero] at h0
  rw [h0, h2 1 (by omega) (by omega), h2 2 (by omega) (by omega), h2 3 (by omega) (by omega)]
  refine ⟨he.1, he.2.1, he.2.2.1, he.2.2.2.1, fun j hj => ?_⟩
  rw [he.2.2.2.2 j hj, Int.add_assoc, Int.add_assoc (12 * (8 * (q : Int) + (m : Int))), h2 (4 + (j : Int)) (by omega) (by omega)]
theorem zOK_mv {s t : zSt} {a a2 : Int} (h : zOK s a) (h2 : ∀ j : Int, 0 ≤ j → j < 12 → t 201 (a2 + j) = s 201 (a + j)) : zOK t a2 := by
  unfold zOK at h ⊢
  have h0 := h2 0 (by omega) (by omega)
  rw [Int.add_zero, Int.add_zero] at h0
  rw [h0, h2 1 (by omega) (by omega), h2 2 (by omega) (by omega), h2 3 (by omega) (by omega)]
  refine ⟨h.1, h.2.1, h.2.2.1, h.2.2.2.1, fun j j1 j2 => ?_⟩
  rw [Int.add_assoc, h2 (4 + j) (by omega) (by omega), ← Int.add_assoc]
  exact h.2.2.2.2 j j1 j2
theorem J_leave {B : Int} {own : Nat → Nat} {s : zSt} {w : zW} (h : zJ0 B 8 own s w) {e : Nat} (he : e < 8) (hl : 0 ≤ s 195 (e : Int)) (hw : 0 < s 200 (e : Int)) : zJ0 B e own (zlvp s (e : Int)) w := by
  have d : zDv [2, 3] own w w s (zlvp s (e : Int)) := ⟨rfl, fun _ _ _ => rfl, rfl, fun _ _ _ => rfl, rfl, fun a ha x => zlvp_o (fun q => ha (by rw [q]; decide)) (fun q => ha (by rw [q]; decide)) (fun q => ha (by rw [q]; decide))⟩
  have s195 : ∀ x, zlvp s (e : Int) 195 x = s 195 x := fun x => zlvp_o (by decide) (by decide) (by decide)
  have iq := h.2.2.2.1.2
  have hw8 := gQ_8 h.2.2.2.1.1
  obtain ⟨j0, j1, j2, j3, j4, j5, j6, j7, j8, j9, j10, j11⟩ := h
  refine ⟨j0, ⟨gN_g d (by decide) j1.1, iN_g d (by decide) j1.2⟩, ⟨fun p hp => ?_, ?_⟩, ⟨⟨fun p hp hpl => ?_, j3.1.2⟩, fun p k p1 p2 p3 k1 k2 => ?_⟩, ⟨gT_g d (by decide) j4.1, iT_g d (by decide) j4.2⟩, ⟨gR_g d (by decide) j5.1, iR_g d (by decide) j5.2⟩, ⟨gS_g d (by decide) j6.1, iS_g d (by decide) j6.2⟩, ⟨gE_g d (by decide) j7.1, iE_g d (by decide) j7.2⟩, ⟨gB_g d (by decide) j8.1, iB_g d (by decide) j8.2⟩, ⟨gM_g d (by decide) j9.1, iM_g d (by decide) j9.2⟩, gL_g d (by decide) j10, gH_g d (by decide) j11⟩
  · obtain ⟨a1, a2, a3, a4, a5⟩ := j2.1 p hp
    rw [zlvp_o (by decide) (by decide) (by decide), zlvp_o (by decide) (by decide) (by decide), zlvp_o (by decide) (by decide) (by decide), zlvp_o (by decide) (by decide) (by decide)]
    refine ⟨a1, a2, a3, a4, fun pe => ?_⟩
    rw [zlvp_9, if_neg (by omega)]
    exact a5 (by omega)
  · obtain ⟨a1, a2, a3, a4, a5⟩ := j2.2
    refine ⟨fun p p1 p2 => ?_, ?_, fun p p1 p2 => ?_, fun p p1 p2 => ?_, ?_⟩
    · rw [zlvp_o (by decide) (by decide) (by decide)]
      exact a1 p p1 p2
    · refine ⟨?_, ?_, fun p p1 p2 => ?_⟩
      · rw [zlvp_o (by decide) (by decide) (by decide)]
        exact a2.1
      · rw [zlvp_o (by decide) (by decide) (by decide)]
        exact a2.2.1
      · rw [zlvp_o (by decide) (by decide) (by decide)]
        exact a2.2.2 p p1 p2
    · rw [zlvp_o (by decide) (by decide) (by decide)]
      exact a3 p p1 p2
    · rw [zlvp_9]
      have := a4 p p1 p2
      split <;> omega
    · refine ⟨?_, fun p p1 p2 => ?_⟩
      · rw [zlvp_o (by decide) (by decide) (by decide)]
        exact a5.1
      · rw [zlvp_o (by decide) (by decide) (by decide)]
        exact a5.2 p p1 p2
  · rw [s195] at hpl
    obtain ⟨hd, b, a1, a2, a3, a4, a5, a6⟩ := j3.1.1 p hp hpl
    rw [if_neg (show p ≠ 8 by omega)] at a2 a4 a6
    by_cases pe : p = e
    · subst pe
      rw [if_pos rfl]
      refine ⟨hd, b - 1, a1, by omega, a3, by rw [a4]; omega, by rw [zlvp_0, if_pos rfl]; omega, fun k hk => ?_⟩
      have q := a6 (k + 1) (by omega)
      rw [show hd + 0 + (k + 1) = hd + 1 + k by omega] at q
      have ok := (iq (p : Int) ((k + 1 : Nat) : Int) (by omega) (by omega) hpl (by omega) (by omega)).1
      exact zEnt_mv q ok.2.2.2.1.2 (fun j j1 j2 => by rw [zlvp_1i (by omega) (by omega)]; congr 1; omega)
    · rw [if_neg pe]
      refine ⟨hd, b, a1, a2, a3, a4, by rw [zlvp_0, if_neg (by omega)]; exact a5, fun k hk => ?_⟩
      have ok := (iq (p : Int) (k : Int) (by omega) (by omega) hpl (by omega) (by omega)).1
      exact zEnt_mv (a6 k hk) ok.2.2.2.1.2 (fun j j1 j2 => zlvp_1o (by omega))
  · rw [s195] at p3
    rw [zlvp_0] at k2
    have h8 := hw8 p p1 p2 p3
    by_cases pe : p = (e : Int)
    · rw [if_pos pe] at k2
      subst pe
      obtain ⟨o1, o2⟩ := iq (e : Int) (k + 1) p1 p2 p3 (by omega) (by omega)
      refine ⟨zOK_mv o1 (fun j j1 j2 => by rw [zlvp_1i (by omega) (by omega)]; congr 1; omega), fun q => ?_⟩
      rw [zlvp_1i (by omega) (by omega), show 12 * (8 * (e : Int) + k) + 12 = 12 * (8 * (e : Int) + (k + 1)) by omega]
      exact o2 q
    · rw [if_neg pe] at k2
      obtain ⟨o1, o2⟩ := iq p k p1 p2 p3 k1 k2
      refine ⟨zOK_mv o1 (fun j j1 j2 => zlvp_1o (by omega)), fun q => ?_⟩
      rw [zlvp_1o (by omega)]
      exact o2 q
theorem zdrp_f {w : zW} {p a b f h : Nat} (hh : ¬ (h = p ∧ (f = 25 ∨ f = 23 ∨ f = 22))) : zf (zdrp w p a b) f h = zf w f h := by
  unfold zdrp
  by_cases e : h = p
  · rw [u_f_ne (fun q => hh ⟨e, by omega⟩), u_f_ne (fun q => hh ⟨e, by omega⟩), u_f_ne (fun q => hh ⟨e, by omega⟩)]
  · rw [u_f_nh e, u_f_nh e, u_f_nh e]
theorem J_drop {B : Int} {own : Nat → Nat} {t : zSt} {v : zW} {e : Nat} (h : zJ0 B e own t v) (he : e < 8) (hl : 0 ≤ t 195 (e : Int)) (h9 : t 199 (e : Int) = 0) : ∃ hd b : Nat, hd < 8 ∧ zf v 25 (zPt e) = (hd : Int) ∧ zf v 23 (zPt e) = ((b + 1 : Nat) : Int) ∧ zJ0 B 8 own t (zdrp v (zPt e) hd b) := by
  obtain ⟨j0, j1, j2, j3, j4, j5, j6, j7, j8, j9, j10, j11⟩ := h
  obtain ⟨hd, b, a1, a2, a3, a4, a5, a6⟩ := j3.1.1 e he hl
  rw [if_pos rfl] at a2 a4 a6
  refine ⟨hd, b, a1, a3, a4, ?_⟩
  have d : zDv [2, 3] own v (zdrp v (zPt e) hd b) t t := ⟨rfl, fun f hf k => zdrp_f (fun q => hf (by rcases q.2 with x | x | x <;> rw [x] <;> decide)), rfl, fun _ _ _ => rfl, rfl, fun _ _ _ => rfl⟩
  have x25 : zf (zdrp v (zPt e) hd b) 25 (zPt e) = (((hd + 1) % 8 : Nat) : Int) := by
    unfold zdrp
    rw [u_f_ne (by decide), u_f_ne (by decide), u_f_eq]
  have x23 : zf (zdrp v (zPt e) hd b) 23 (zPt e) = (b : Int) := by
    unfold zdrp
    rw [u_f_ne (by decide), u_f_eq]
  have x22 : zf (zdrp v (zPt e) hd b) 22 (zPt e) = 0 := by
    unfold zdrp
    rw [u_f_eq]
  have hec := zPt_c he
  refine ⟨zCon_g d (by decide) j0, ⟨gN_g d (by decide) j1.1, iN_g d (by decide) j1.2⟩, ⟨fun p hp => ?_, j2.2⟩, ⟨⟨fun p hp hpl => ?_, fun p hp => ?_⟩, j3.2⟩, ⟨gT_g d (by decide) j4.1, iT_g d (by decide) j4.2⟩, ⟨gR_g d (by decide) j5.1, iR_g d (by decide) j5.2⟩, ⟨gS_g d (by decide) j6.1, iS_g d (by decide) j6.2⟩, ⟨gE_g d (by decide) j7.1, iE_g d (by decide) j7.2⟩, ⟨gB_g d (by decide) j8.1, iB_g d (by decide) j8.2⟩, ⟨gM_g d (by decide) j9.1, iM_g d (by decide) j9.2⟩, gL_g d (by decide) j10, gH_g d (by decide) j11⟩
  · obtain ⟨c1, c2, c3, c4, c5⟩ := j2.1 p hp
    rw [zdrp_f (f := 18) (by omega), zdrp_f (f := 19) (by omega), zdrp_f (f := 20) (by omega), zdrp_f (f := 21) (by omega)]
    refine ⟨c1, c2, c3, c4, fun _ => ?_⟩
    by_cases pe : p = e
    · rw [pe, x22, h9]
    · have := zPt_dis hp he pe
      rw [zdrp_f (by omega)]
      exact c5 pe
  · by_cases pe : p = e
    · subst pe
      rw [if_neg (show p ≠ 8 by omega)]
      refine ⟨(hd + 1) % 8, b, by omega, by omega, x25, by rw [x23]; rfl, a5, fun k hk => ?_⟩
      have q := a6 k hk
      rw [show ((hd + 1) % 8 + 0 + k) % 8 = (hd + 1 + k) % 8 by omega]
      unfold zEnt at q ⊢
      rw [zdrp_f (by omega), zdrp_f (by omega), zdrp_f (by omega), zdrp_f (by omega)]
      exact q
    · have hdis := zPt_dis hp he pe
      have hpc := zPt_c hp
      obtain ⟨hd2, b2, c1, c2, c3, c4, c5, c6⟩ := j3.1.1 p hp hpl
      rw [if_neg pe] at c2 c4 c6
      rw [if_neg (show p ≠ 8 by omega)]
      refine ⟨hd2, b2, c1, c2, by rw [zdrp_f (by omega)]; exact c3, by rw [zdrp_f (by omega)]; exact c4, c5, fun k hk => ?_⟩
      have q := c6 k hk
      unfold zEnt at q ⊢
      rw [zdrp_f (by omega), zdrp_f (by omega), zdrp_f (by omega), zdrp_f (by omega)]
      exact q
  · by_cases pe : p = e
    · subst pe
      exact ⟨(hd + 1) % 8, b, by omega, by omega, x25, x23⟩
    · have hdis := zPt_dis hp he pe
      obtain ⟨hd2, b2, c1, c2, c3, c4⟩ := j3.1.2 p hp
      exact ⟨hd2, b2, c1, c2, by rw [zdrp_f (by omega)]; exact c3, by rw [zdrp_f (by omega)]; exact c4⟩
theorem zdrp_base {L : Nat} {xs : Nat → Int} {v : zW} {p a b : Nat} (hb : zBase L xs v) : zBase L xs (zdrp v p a b) := zBase_sf hb ⟨rfl, rfl, rfl⟩ (fun _ => rfl)
theorem zdrp_rq {v : zW} {p a b : Nat} : yRQ v (zdrp v p a b) := ⟨fun f f1 f2 => zdrp_f (by omega), fun _ _ _ _ => rfl⟩
-- it failed
theorem P_fail {L : Nat} {xs : Nat → Int} {B : Int} {own : Nat → Nat} {s : zSt} {w : zW} (hb : zBase L xs w) (h : zJ0 B 8 own s w) {e : Nat} {b : Int} {l3 l4 l5 l6 : Option zV} (he : e < 8) (hl : 0 ≤ s 195 (e : Int)) (hw : 0 < s 200 (e : Int)) :
    ∃ v t, (∀ Q, zR 133 0 [some (.inr (some (zPt e)))] [] w Q = Q none v) ∧ (∀ c Q, zKR c → zR 54 262 [some (.inr (some 194)), some (.inl b), some (.inl (e : Int)), l3, l4, l5, l6] [] (zmk c s) Q = Q none (zmk c t)) ∧ zJ0 B 8 own t v ∧ zBase L xs v ∧ yRQ w v := by
  have hpo := zPO_at hb h.1 he
  have hec := zPt_c he
  have r9 := h.2.2.1.2.2.2.2.1 (e : Int) (by omega) (by omega)
  have f22 := (h.2.2.1.1 e he).2.2.2.2 (by omega)
  by_cases c : s 199 (e : Int) = 2
  · have J1 := J_leave h he hl hw
    have e9 : zlvp s (e : Int) 199 (e : Int) = 0 := by rw [zlvp_9, if_pos rfl]
    obtain ⟨hd, b2, q1, q2, q3, q4⟩ := J_drop J1 he (by rw [zlvp_o (by decide) (by decide) (by decide)]; exact hl) e9
    refine ⟨zdrp w (zPt e) hd b2, zlvp s (e : Int), fun Q => ?_, fun c2 Q hc => ?_, q4, zdrp_base hb, zdrp_rq⟩
    · rw [m_133_drop hpo.1 f22 c q2 q3 q1]
      congr 1
      refine zWx rfl (fun f k => ?_) (fun _ _ => rfl) (fun _ _ => rfl) (fun _ _ => rfl)
      unfold zdrp
      by_cases e1 : f = 22 ∧ k = zPt e
      · obtain ⟨x1, x2⟩ := e1
        subst x1
        subst x2
        rw [u_f_eq, u_f_eq]
      · by_cases e2 : f = 22
        · have hk : k ≠ zPt e := fun q => e1 ⟨e2, q⟩
          rw [u_f_nh hk, u_f_nh hk, u_f_nh hk, u_f_nh hk, u_f_nh hk, u_f_nh hk, u_f_nh hk]
        · rw [u_f_ne (w := zsf (zsf (zsf w 22 (zPt e) (s 199 (e : Int) + 1)) 25 (zPt e) (((hd + 1) % 8 : Nat) : Int)) 23 (zPt e) (b2 : Int)) e2, u_f_ne (w := zsf (zsf w 25 (zPt e) (((hd + 1) % 8 : Nat) : Int)) 23 (zPt e) (b2 : Int)) e2]
          by_cases e3 : k = zPt e
          · subst e3
            by_cases e4 : f = 23
            · subst e4
              rw [u_f_eq, u_f_eq]
            · rw [u_f_ne e4, u_f_ne e4]
              by_cases e5 : f = 25
              · subst e5
                rw [u_f_eq, u_f_eq]
              · rw [u_f_ne e5, u_f_ne e5, u_f_ne e2]
          · rw [u_f_nh e3, u_f_nh e3, u_f_nh e3, u_f_nh e3, u_f_nh e3]
    · rw [m_54_262_y hc (by omega) rfl c]
      congr 2
      funext a x
      by_cases a1 : a = 199
      · subst a1
        rw [zlvp_9, zlvp_9]
        by_cases e1 : x = (e : Int)
        · rw [if_pos e1, if_pos e1]
        · rw [if_neg e1, if_neg e1, zv_nj e1]
      · by_cases a2 : a = 200
        · subst a2
          rw [zlvp_0, zlvp_0, zv_ne (by decide), zv_ne (by decide)]
        · by_cases a3 : a = 201
          · subst a3
            by_cases e1 : 96 * (e : Int) ≤ x ∧ x < 96 * (e : Int) + 84
            · rw [zlvp_1i e1.1 e1.2, zlvp_1i e1.1 e1.2, zv_ne (by decide)]
            · rw [zlvp_1o (by omega), zlvp_1o (by omega), zv_ne (by decide)]
          · rw [zlvp_o a1 a2 a3, zlvp_o a1 a2 a3, zv_ne a1]
  · refine ⟨zsf w 22 (zPt e) (s 199 (e : Int) + 1), zv s 199 (e : Int) (s 199 (e : Int) + 1), fun Q => m_133_no hpo.1 f22 (by omega), fun c2 Q hc => m_54_262_n hc (by omega) rfl (by omega), ?_, zBase_sf hb ⟨rfl, rfl, rfl⟩ (fun _ => rfl), ⟨fun f f1 f2 => u_f_ne (by omega), fun _ _ _ _ => rfl⟩⟩
    refine zJ_P h ⟨rfl, fun f hf k => u_f_ne (fun q => hf (by rw [q]; rfl)), rfl, fun _ _ _ => rfl, rfl, fun a ha x => zv_ne (fun q => ha (by rw [q]; rfl))⟩ ⟨fun p hp => ?_, ?_⟩
    · obtain ⟨c1, c2, c3, c4, c5⟩ := h.2.2.1.1 p hp
      rw [u_f_ne (by decide), u_f_ne (by decide), u_f_ne (by decide), u_f_ne (by decide), zv_ne (by decide), zv_ne (by decide), zv_ne (by decide), zv_ne (by decide)]
      refine ⟨c1, c2, c3, c4, fun q => ?_⟩
      by_cases pe : p = e
      · subst pe
        rw [u_f_eq, zv_eq]
      · have := zPt_dis hp he pe
        rw [u_f_nh (by omega), zv_nj (by omega)]
        exact c5 q
    · obtain ⟨a1, a2, a3, a4, a5⟩ := h.2.2.1.2
      unfold iP
      simp only [zv_ne (show 196 ≠ 199 by decide), zv_ne (show 197 ≠ 199 by decide), zv_ne (show 198 ≠ 199 by decide), zv_ne (show 202 ≠ 199 by decide)]
      refine ⟨a1, a2, a3, fun p p1 p2 => ?_, a5⟩
      by_cases pe : p = (e : Int)
      · rw [pe, zv_eq]
        omega
      · rw [zv_nj pe]
        exact a4 p p1 p2
