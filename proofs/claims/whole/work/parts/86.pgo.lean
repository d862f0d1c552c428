-- a row goes over the wire: both sides
-- what differs while a row is made: wire and candidate of bus b; the reference's scratch
def zWr (b : Nat) (s t : zSt) (w v : zW) : Prop := zSF w v ∧ (∀ f k, ¬ (f = 57 ∧ (k = 73 + 7 * b ∨ k = 75 + 7 * b)) → zf v f k = zf w f k) ∧ (∀ k, k ≠ 74 + 7 * b → k ≠ 76 + 7 * b → ∀ j, za v k j = za w k j) ∧ ∀ a, sg a ≠ 0 → ∀ x, t a x = s a x
-- what differs when it has gone
def zWg (b : Nat) (s t : zSt) (w v : zW) : Prop := zSF w v ∧ (∀ f k, ¬ (f = 57 ∧ (k = 73 + 7 * b ∨ k = 75 + 7 * b)) → ¬ (f = 45 ∧ k = 70 + 7 * b) → zf v f k = zf w f k) ∧ (∀ k, k ≠ 74 + 7 * b → k ≠ 76 + 7 * b → ∀ j, za v k j = za w k j) ∧ ∀ a, sg a ≠ 0 → sg a ≠ 8 → ∀ x, t a x = s a x
theorem ag_wire {own : Nat → Nat} {b : Nat} (hb : b < 2) : ag own (74 + 7 * b) = 8 ∧ ag own (76 + 7 * b) = 0 := by
  have hb01 : b = 0 ∨ b = 1 := by omega
  rcases hb01 with rfl | rfl
  · exact ⟨rfl, rfl⟩
  · exact ⟨rfl, rfl⟩
theorem zWg.dv {own : Nat → Nat} {b : Nat} {s t : zSt} {w v : zW} (hb : b < 2) (h : zWg b s t w v) : zDv [8, 0] own w v s t := by
  obtain ⟨a1, a2, a3, a4⟩ := h
  refine ⟨a1.1, fun f hf k => a2 f k (fun e => hf ?_) (fun e => hf ?_), a1.2.1, fun k hk j => a3 k (fun e => hk ?_) (fun e => hk ?_) j, a1.2.2, fun a ha x => a4 a (fun e => ha ?_) (fun e => ha ?_) x⟩
  · rw [e.1]
    decide
  · rw [e.1]
    decide
  · rw [e, (ag_wire hb).1]
    decide
  · rw [e, (ag_wire hb).2]
    decide
  · rw [e]
    decide
  · rw [e]
    decide
theorem zWg.rq {b : Nat} {s t : zSt} {w v : zW} (hb : b < 2) (h : zWg b s t w v) : yRQ w v := ⟨fun f f1 f2 => h.2.1 f 194 (by omega) (by omega), fun k k1 k2 j => h.2.2.1 k (by omega) (by omega) j⟩
theorem zBase_sf {L : Nat} {xs : Nat → Int} {w v : zW} (hb : zBase L xs w) (h : zSF w v) (h0 : ∀ j, za v 0 j = za w 0 j) : zBase L xs v := by
  obtain ⟨⟨s1, s2, s3⟩, s4, s5⟩ := hb
  exact ⟨⟨by rw [h.k]; exact s1, by rw [h.l]; exact s2, fun j => by rw [h0]; exact s3 j⟩, by rw [h.n]; exact s4, fun e he => by rw [h.k, h.l]; exact s5 e he⟩
set_option maxHeartbeats 1000000 in
theorem P_go {L : Nat} {xs : Nat → Int} {B : Int} {e : Nat} {own : Nat → Nat} {s t : zSt} {w v : zW} (hb : zBase L xs w) (h : zJ0 B e own s w) {b n : Nat} (hb2 : b < 2) (hn : n ≤ 12) (hW : zWr b s t w v) (r57 : zf v 57 (73 + 7 * b) = ((n + 1 : Nat) : Int)) (rb : ∀ j : Nat, j < n + 1 → za v (74 + 7 * b) j = t 224 (j : Int)) (t104 : t 104 0 = ((n + 1 : Nat) : Int)) :
    ∃ (g : Int) (v2 : zW) (t2 : zSt), (g = 0 ∨ g = 1) ∧ (∀ Q, zR 77 0 [some (.inr (some (70 + 7 * b)))] [] v Q = Q (some (.inl g)) v2) ∧ (∀ c Q, zKR c → zR 51 0 [some (.inr (some 194)), some (.inl (b : Int)), none] [] (zmk c t) Q = Q (some (.inl g)) (zmk c t2)) ∧ zJ0 B e own t2 v2 ∧ zBase L xs v2 ∧ zWg b s t2 w v2 ∧ za v2 (74 + 7 * b) 0 = t2 224 0 := by
  obtain ⟨k5, f41⟩ := zBus_any hb h.1 hb2
  obtain ⟨b1, b2, b3, b4, b5, b6, b7, b8, b9, b10⟩ := zBus_all hb h.1 hb2
  obtain ⟨vS, vf, va, vt⟩ := hW
  have gB := h.2.2.2.2.2.2.2.2.1.1
  have iB := h.2.2.2.2.2.2.2.2.1.2
  obtain ⟨c222, c223, c227⟩ := iB (b : Int) (by omega) (by omega)
  have hrw : zRW v (73 + 7 * b) (n + 1) := ⟨by rw [vS.k]; exact b8.1, by rw [vS.p]; exact b8.2.1, by rw [vS.k]; exact b8.2.2.1, by rw [vS.l]; exact b8.2.2.2, r57⟩
  have t222 : t 222 (b : Int) = s 222 (b : Int) := vt 222 (by decide) _
  have t223 : t 223 (b : Int) = s 223 (b : Int) := vt 223 (by decide) _
  -- the noise
  obtain ⟨np, mk, V, T, hcl, hrf, hV, hT⟩ : ∃ (np mk : Int) (V : zW) (T : zSt), (zf v 45 (70 + 7 * b) = np ∧ zf v 46 (70 + 7 * b) = mk ∧ (-1 ≤ np ∧ np ≤ 12) ∧ ztx v (73 + 7 * b) n np mk = V) ∧ zgo1 t (b : Int) (s 223 (b : Int)) (s 222 (b : Int)) n = T ∧ ((∀ j : Nat, j < n + 1 → za V (74 + 7 * b) j = T 224 (j : Int)) ∧ V.1 = v.1 ∧ V.2.1 = v.2.1 ∧ V.2.2.1 = v.2.2.1 ∧ V.2.2.2.2 = v.2.2.2.2 ∧ ∀ k, k ≠ 74 + 7 * b → ∀ j, za V k j = za v k j) ∧ ∀ a, a ≠ 224 → ∀ x, T a x = t a x := by
    have v45 : zf v 45 (70 + 7 * b) = zf w 45 (70 + 7 * b) := vf _ _ (by omega)
    have v46 : zf v 46 (70 + 7 * b) = zf w 46 (70 + 7 * b) := vf _ _ (by omega)
    rcases (gB b hb2).1 with ⟨q1, q2⟩ | ⟨q1, q2, q3⟩
    · exact ⟨-1, zf w 46 (70 + 7 * b), v, t, ⟨v45.trans q1, v46, by omega, if_neg (by omega)⟩, if_neg (by omega), ⟨rb, rfl, rfl, rfl, rfl, fun _ _ _ => rfl⟩, fun _ _ _ => rfl⟩
    · by_cases c : s 222 (b : Int) < (n : Int) + 1
      · refine ⟨s 222 (b : Int), s 223 (b : Int), _, _, ⟨v45.trans q1, v46.trans q2, by omega, if_pos ⟨by omega, c⟩⟩, if_pos ⟨by omega, c⟩, ⟨fun j hj => ?_, rfl, rfl, rfl, rfl, fun k hk j => u_a_ne (by omega)⟩, fun a ha x => zv_ne ha⟩
        rw [show 73 + 7 * b + 1 = 74 + 7 * b by omega]
        by_cases ej : j = (s 222 (b : Int)).toNat
        · subst ej
          have e2 : (((s 222 (b : Int)).toNat : Nat) : Int) = s 222 (b : Int) := by omega
          rw [u_a_eq, rb _ (by omega), e2, zv_eq]
        · rw [u_a_nj ej, zv_nj (by omega)]
          exact rb j hj
      · exact ⟨s 222 (b : Int), s 223 (b : Int), v, t, ⟨v45.trans q1, v46.trans q2, by omega, if_neg (fun q => c q.2)⟩, if_neg (fun q => c q.2), ⟨rb, rfl, rfl, rfl, rfl, fun _ _ _ => rfl⟩, fun _ _ _ => rfl⟩
  obtain ⟨c1, c2, c3, c4⟩ := hcl
  obtain ⟨V1, V2, V3, V4, V5, V6⟩ := hV
  have h77 : ∀ Q, zR 77 0 [some (.inr (some (70 + 7 * b)))] [] v Q = Q (some (.inl (if zN (za V (73 + 7 * b + 1) n) = zN (zcrc (zrc V (73 + 7 * b)) n) then 1 else 0))) (zsf V 45 (70 + 7 * b) (-1)) := fun Q => by
    have := m_77 (Q := Q) (by rw [vS.k]; exact k5) (by rw [vS.p]; exact b6) hrw (by omega) c1 c2 c3
    rw [c4] at this
    exact this
  have h51 : ∀ c Q, zKR c → zR 51 0 [some (.inr (some 194)), some (.inl (b : Int)), none] [] (zmk c t) Q = Q (some (.inl (if zN (zcrc (T 224) n) = zN (T 224 (n : Int)) then 1 else 0))) (zmk c (zgo2 T (b : Int) n)) := fun c Q hc => by
    have := m_51 (s := t) (Q := Q) hc (b := (b : Int)) (mk := s 223 (b : Int)) (at7 := s 222 (b : Int)) (n := n) (by omega) t104 hn t223 c223 t222 c222
    rw [hrf] at this
    exact this
  have e1 : za V (73 + 7 * b + 1) n = T 224 (n : Int) := by
    rw [show 73 + 7 * b + 1 = 74 + 7 * b by omega]
    exact V1 n (by omega)
  have e2 : zcrc (zrc V (73 + 7 * b)) n = zcrc (T 224) n := zcrc_eq n (fun i i1 i2 => by
    obtain ⟨j, hj⟩ : ∃ j : Nat, i = (j : Int) := ⟨i.toNat, by omega⟩
    subst hj
    show za V (73 + 7 * b + 1) j = _
    rw [show 73 + 7 * b + 1 = 74 + 7 * b by omega]
    exact V1 j (by omega))
  have e3 : (if zN (za V (73 + 7 * b + 1) n) = zN (zcrc (zrc V (73 + 7 * b)) n) then (1 : Int) else 0) = if zN (zcrc (T 224) n) = zN (T 224 (n : Int)) then 1 else 0 := by
    rw [e1, e2]
    by_cases q : zN (zcrc (T 224) n) = zN (T 224 (n : Int))
    · rw [if_pos q, if_pos q.symm]
    · rw [if_neg q, if_neg (fun x => q x.symm)]
  rw [e3] at h77
  have hg01 : (if zN (zcrc (T 224) n) = zN (T 224 (n : Int)) then (1 : Int) else 0) = 0 ∨ (if zN (zcrc (T 224) n) = zN (T 224 (n : Int)) then (1 : Int) else 0) = 1 := by
    split
    · exact Or.inr rfl
    · exact Or.inl rfl
  have g2o : ∀ a, a ≠ 226 → a ≠ 227 → a ≠ 223 → ∀ x, zgo2 T (b : Int) n a x = T a x := fun a a1 a2 a3 x => by rw [zgo2, zpt_ne a1, zv_ne a2, zv_ne a3]
  have hWg : zWg b s (zgo2 T (b : Int) n) w (zsf V 45 (70 + 7 * b) (-1)) := by
    refine ⟨⟨V2.trans vS.1, V4.trans vS.2.1, V5.trans vS.2.2⟩, fun f k k1 k2 => ?_, fun k k1 k2 j => ?_, fun a a1 a2 x => ?_⟩
    · have : zf (zsf V 45 (70 + 7 * b) (-1)) f k = zf V f k := by
        by_cases e : f = 45
        · exact u_f_nh (fun q => k2 ⟨e, q⟩)
        · exact u_f_ne e
      rw [this]
      show V.2.1 f k = _
      rw [V3]
      exact vf f k k1
    · rw [u_a_sf, V6 k k1]
      exact va k k1 k2 j
    · rw [g2o a (fun q => a2 (by rw [q]; rfl)) (fun q => a2 (by rw [q]; rfl)) (fun q => a2 (by rw [q]; rfl)), hT a (fun q => a1 (by rw [q]; rfl))]
      exact vt a a1 x
  refine ⟨_, _, _, hg01, h77, h51, zJ_gen (hWg.dv hb2) h (by decide) (fun q => absurd q (by decide)) (fun q => absurd q (by decide)) (fun q => absurd q (by decide)) (fun q => absurd q (by decide)) (fun q => absurd q (by decide)) (fun q => absurd q (by decide)) (fun q => absurd q (by decide)) (fun _ => ⟨fun b' hb' => ?_, fun b' b1' b2' => ?_⟩) (fun q => absurd q (by decide)) (fun q => absurd q (by decide)), zBase_sf hb hWg.1 (fun j => hWg.2.2.1 0 (by omega) (by omega) j), hWg, ?_⟩
  · by_cases eb : b' = b
    · subst eb
      refine ⟨Or.inl ⟨u_f_eq, ?_⟩, ?_, fun j hj => ?_⟩
      · rw [zgo2, zpt_ne (by decide), zv_ne (by decide), zv_eq]
      · rw [u_f_ne (by decide), zgo2, zpt_ne (by decide), zv_eq]
        show V.2.1 57 _ = _
        rw [V3]
        exact r57
      · rw [zgo2, zpt_ne (by decide), zv_eq] at hj
        rw [u_a_sf, zgo2, zpt_i (by omega) (by omega), V1 j (by omega)]
        congr 1
        omega
    · obtain ⟨a1, a2, a3⟩ := gB b' hb'
      have x222 : zgo2 T (b : Int) n 222 (b' : Int) = s 222 (b' : Int) := (g2o 222 (by decide) (by decide) (by decide) _).trans ((hT 222 (by decide) _).trans (vt 222 (by decide) _))
      have x223 : zgo2 T (b : Int) n 223 (b' : Int) = s 223 (b' : Int) := by
        rw [zgo2, zpt_ne (by decide), zv_ne (by decide), zv_nj (by omega)]
        exact (hT 223 (by decide) _).trans (vt 223 (by decide) _)
      have x227 : zgo2 T (b : Int) n 227 (b' : Int) = s 227 (b' : Int) := by
        rw [zgo2, zpt_ne (by decide), zv_nj (by omega), zv_ne (by decide)]
        exact (hT 227 (by decide) _).trans (vt 227 (by decide) _)
      have c227' := (iB (b' : Int) (by omega) (by omega)).2.2
      refine ⟨?_, ?_, fun j hj => ?_⟩
      · rw [x222, x223, hWg.2.1 45 _ (by omega) (by omega), hWg.2.1 46 _ (by omega) (by omega)]
        exact a1
      · rw [x227, hWg.2.1 57 _ (by omega) (by omega)]
        exact a2
      · rw [x227] at hj
        rw [hWg.2.2.1 _ (by omega) (by omega), a3 j hj, zgo2, zpt_o (by omega), zv_ne (by decide), zv_ne (by decide)]
        exact ((hT 226 (by decide) _).trans (vt 226 (by decide) _)).symm
  · obtain ⟨a1, a2, a3⟩ := iB b' b1' b2'
    have x222 : zgo2 T (b : Int) n 222 b' = s 222 b' := (g2o 222 (by decide) (by decide) (by decide) _).trans ((hT 222 (by decide) _).trans (vt 222 (by decide) _))
    have x223 : zgo2 T (b : Int) n 223 b' = 0 ∨ zgo2 T (b : Int) n 223 b' = s 223 b' := by
      rw [zgo2, zpt_ne (by decide), zv_ne (by decide)]
      by_cases q : b' = (b : Int)
      · rw [q, zv_eq]
        exact Or.inl rfl
      · rw [zv_nj q]
        exact Or.inr ((hT 223 (by decide) _).trans (vt 223 (by decide) _))
    have x227 : zgo2 T (b : Int) n 227 b' = ((n + 1 : Nat) : Int) ∨ zgo2 T (b : Int) n 227 b' = s 227 b' := by
      rw [zgo2, zpt_ne (by decide)]
      by_cases q : b' = (b : Int)
      · rw [q, zv_eq]
        exact Or.inl rfl
      · rw [zv_nj q, zv_ne (by decide)]
        exact Or.inr ((hT 227 (by decide) _).trans (vt 227 (by decide) _))
    omega
  · rw [u_a_sf, g2o 224 (by decide) (by decide) (by decide)]
    exact V1 0 (by omega)
