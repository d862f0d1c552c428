-- who sends: the whole choosing
def zqd (d : Nat) : Int := if d ≤ 1 then (d : Int) else (d : Int) + 1
theorem S_one {L : Nat} {xs : Nat → Int} {B : Int} {own : Nat → Nat} {s t : zSt} {w v : zW} (hb : zBase L xs w) (h : zJ0 B 8 own s w) {b p d : Nat} {q : Int} {sn : Option Nat} {l3 l5 l6 : Option zV} (hb2 : b < 2) (hp : p < 8) (hd : d < 7) (hport : zb w (70 + 7 * b + 1) d = if s 195 (p : Int) = (b : Int) then some (zPt p) else none) (hI : zIv b s w v t sn) :
    ∃ v2 t2 sn2 m3 m5, (∀ Q, zR 78 4 [some (.inr (some (70 + 7 * b))), some (.inr (zsC sn)), some (.inl (d : Int)), l3] [] v Q = zR 78 4 [some (.inr (some (70 + 7 * b))), some (.inr (zsC sn2)), some (.inl ((d + 1 : Nat) : Int)), m3] [] v2 Q) ∧ (∀ c Q, zKR c → zR 54 34 [some (.inr (some 194)), some (.inl (b : Int)), some (.inl (zsN sn)), some (.inl q), some (.inl (p : Int)), l5, l6] [] (zmk c t) Q = zR 54 4 [some (.inr (some 194)), some (.inl (b : Int)), some (.inl (zsN sn2)), some (.inl (q + 1)), some (.inl (p : Int)), m5, l6] [] (zmk c t2) Q) ∧ zIv b s w v2 t2 sn2 := by
  by_cases e : s 195 (p : Int) = (b : Int)
  · rw [if_pos e] at hport
    exact S_port hb h hb2 hp hd e hport hI
  · rw [if_neg e] at hport
    obtain ⟨k5, f41⟩ := zBus_any hb h.1 hb2
    obtain ⟨b1, b2, b3, -⟩ := zBus_all hb h.1 hb2
    have vS := hI.1
    have t195 : t 195 (p : Int) = s 195 (p : Int) := hI.2.2.2.1 195 (by decide) (by decide) (by decide) (by decide) _
    have rbus := h.2.1.2.2.2.2 (p : Int) (by omega) (by omega)
    exact ⟨v, t, sn, some (.inr none), l5, fun Q => m_78_null (by rw [vS.k]; exact k5) (by rw [vS.p]; exact b1) (by rw [vS.k]; exact b2) (by rw [vS.l]; exact b3) hd (by rw [vS.b]; exact hport), fun c Q hc => m_54_s1 hc (by omega) (by omega) (by rw [t195]; exact rbus) (by rw [t195]; exact e), hI⟩
theorem S_skip {B : Int} {own : Nat → Nat} {s t : zSt} {w v : zW} (h : zJ0 B 8 own s w) {b p : Nat} {q : Int} {sn : Option Nat} {l5 l6 : Option zV} (hb2 : b < 2) (hp : p < 8) (e : s 195 (p : Int) ≠ (b : Int)) (hI : zIv b s w v t sn) {c : zW} {Q : Option zV → zW → Prop} (hc : zKR c) : zR 54 34 [some (.inr (some 194)), some (.inl (b : Int)), some (.inl (zsN sn)), some (.inl q), some (.inl (p : Int)), l5, l6] [] (zmk c t) Q = zR 54 4 [some (.inr (some 194)), some (.inl (b : Int)), some (.inl (zsN sn)), some (.inl (q + 1)), some (.inl (p : Int)), l5, l6] [] (zmk c t) Q := by
  have t195 : t 195 (p : Int) = s 195 (p : Int) := hI.2.2.2.1 195 (by decide) (by decide) (by decide) (by decide) _
  have rbus := h.2.1.2.2.2.2 (p : Int) (by omega) (by omega)
  exact m_54_s1 hc (by omega) (by omega) (by rw [t195]; exact rbus) (by rw [t195]; exact e)
theorem S_d {L : Nat} {xs : Nat → Int} {B : Int} {own : Nat → Nat} {s t : zSt} {w v : zW} (hb : zBase L xs w) (h : zJ0 B 8 own s w) {b d : Nat} {sn : Option Nat} {l3 l4 l5 l6 : Option zV} (hb2 : b < 2) (hd : d < 7) (hI : zIv b s w v t sn) :
    ∃ v2 t2 sn2 m3 m4 m5, (∀ Q, zR 78 4 [some (.inr (some (70 + 7 * b))), some (.inr (zsC sn)), some (.inl (d : Int)), l3] [] v Q = zR 78 4 [some (.inr (some (70 + 7 * b))), some (.inr (zsC sn2)), some (.inl ((d + 1 : Nat) : Int)), m3] [] v2 Q) ∧ (∀ c Q, zKR c → zR 54 4 [some (.inr (some 194)), some (.inl (b : Int)), some (.inl (zsN sn)), some (.inl (zqd d)), l4, l5, l6] [] (zmk c t) Q = zR 54 4 [some (.inr (some 194)), some (.inl (b : Int)), some (.inl (zsN sn2)), some (.inl (zqd (d + 1))), m4, m5, l6] [] (zmk c t2) Q) ∧ zIv b s w v2 t2 sn2 := by
  obtain ⟨i0, i1, i7, -⟩ := h.2.1.2
  have e0 : s 195 ((0 : Nat) : Int) = s 195 0 := rfl
  have e1 : s 195 ((1 : Nat) : Int) = s 195 1 := rfl
  have e7 : s 195 ((7 : Nat) : Int) = s 195 7 := rfl
  have gn := h.2.1.1
  have hb01 : b = 0 ∨ b = 1 := by omega
  have hq : ∀ d, d ≠ 1 → d < 7 → zb w (70 + 7 * b + 1) d = if s 195 (d : Int) = (b : Int) then some (zPt d) else none := by
    intro d hd1 hd7
    rcases hb01 with rfl | rfl
    · exact gn.2.1 d hd7
    · have := gn.2.2 d hd7
      rw [if_neg hd1] at this
      exact this
  by_cases d1 : d = 1
  · subst d1
    rcases hb01 with rfl | rfl
    · obtain ⟨v2, t2, sn2, m3, m5, a1, a2, a3⟩ := S_one (q := 1) (l3 := l3) (l5 := l5) (l6 := l6) hb h hb2 (show 1 < 8 by omega) hd (by exact gn.2.1 1 (by omega)) hI
      refine ⟨v2, t2, sn2, m3, some (.inl ((7 : Nat) : Int)), m5, a1, fun c Q hc => ?_, a3⟩
      exact ((m_54_qa (q := 1) (by omega)).trans (a2 c Q hc)).trans ((m_54_qb trivial).trans (S_skip h hb2 (show 7 < 8 by omega) (by rw [e7]; omega) a3 hc))
    · obtain ⟨v2, t2, sn2, m3, m5, a1, a2, a3⟩ := S_one (p := 7) (q := 2) (l3 := l3) (l5 := l5) (l6 := l6) hb h hb2 (show 7 < 8 by omega) hd (by rw [e7, if_pos (by omega)]; exact gn.2.2 1 (by omega)) hI
      refine ⟨v2, t2, sn2, m3, some (.inl ((7 : Nat) : Int)), m5, a1, fun c Q hc => ?_, a3⟩
      exact ((m_54_qa (q := 1) (by omega)).trans (S_skip (p := 1) h hb2 (by omega) (by rw [e1]; omega) hI hc)).trans ((m_54_qb trivial).trans (a2 c Q hc))
  · by_cases d0 : d = 0
    · subst d0
      obtain ⟨v2, t2, sn2, m3, m5, a1, a2, a3⟩ := S_one (q := 0) (l3 := l3) (l5 := l5) (l6 := l6) hb h hb2 (show 0 < 8 by omega) hd (hq 0 d1 hd) hI
      exact ⟨v2, t2, sn2, m3, _, m5, a1, fun c Q hc => (m_54_qa (q := 0) (by omega)).trans (a2 c Q hc), a3⟩
    · obtain ⟨v2, t2, sn2, m3, m5, a1, a2, a3⟩ := S_one (q := (d : Int) + 1) (l3 := l3) (l5 := l5) (l6 := l6) hb h hb2 (show d < 8 by omega) hd (hq d d1 hd) hI
      refine ⟨v2, t2, sn2, m3, some (.inl (d : Int)), m5, a1, fun c Q hc => ?_, a3⟩
      rw [show zqd d = (d : Int) + 1 by unfold zqd; rw [if_neg (by omega)], show zqd (d + 1) = (d : Int) + 1 + 1 by unfold zqd; rw [if_neg (by omega)]; omega]
      have hx := m_54_qc (c := c) (s := t) (Q := Q) (b := (b : Int)) (sn := zsN sn) (q := (d : Int) + 1) (l4 := l4) (l5 := l5) (l6 := l6) (by omega)
      rw [show (d : Int) + 1 - 1 = (d : Int) by omega] at hx
      exact hx.trans (a2 c Q hc)
theorem S_n {L : Nat} {xs : Nat → Int} {B : Int} {own : Nat → Nat} {s : zSt} {w : zW} (hb : zBase L xs w) (h : zJ0 B 8 own s w) {b : Nat} {l3 l4 l5 l6 : Option zV} (hb2 : b < 2) : ∀ n, n ≤ 7 → 
    ∃ v2 t2 sn2 m3 m4 m5, (∀ Q, zR 78 4 [some (.inr (some (70 + 7 * b))), some (.inr none), some (.inl ((0 : Nat) : Int)), l3] [] w Q = zR 78 4 [some (.inr (some (70 + 7 * b))), some (.inr (zsC sn2)), some (.inl ((n : Nat) : Int)), m3] [] v2 Q) ∧ (∀ c Q, zKR c → zR 54 4 [some (.inr (some 194)), some (.inl (b : Int)), some (.inl (-1)), some (.inl (zqd 0)), l4, l5, l6] [] (zmk c s) Q = zR 54 4 [some (.inr (some 194)), some (.inl (b : Int)), some (.inl (zsN sn2)), some (.inl (zqd n)), m4, m5, l6] [] (zmk c t2) Q) ∧ zIv b s w v2 t2 sn2 := by
  intro n
  induction n with
  | zero =>
    intro _
    have hB := (h.2.2.2.2.2.2.2.2.1.1 b hb2).2.1
    have iB := (h.2.2.2.2.2.2.2.2.1.2 (b : Int) (by omega) (by omega)).2.2
    refine ⟨w, s, none, l3, l4, l5, fun Q => rfl, fun c Q hc => rfl, ⟨rfl, rfl, rfl⟩, fun _ _ _ => rfl, fun _ _ _ _ => rfl, fun _ _ _ _ _ _ => rfl, ⟨(s 227 (b : Int)).toNat, by omega, by omega⟩, Or.inl ⟨rfl, rfl, fun _ => rfl⟩⟩
  | succ n ih =>
    intro hn
    obtain ⟨v, t, sn, m3, m4, m5, a1, a2, a3⟩ := ih (by omega)
    obtain ⟨v2, t2, sn2, k3, k4, k5, b1, b2, b3⟩ := S_d (l3 := m3) (l4 := m4) (l5 := m5) (l6 := l6) hb h hb2 (show n < 7 by omega) a3
    exact ⟨v2, t2, sn2, k3, k4, k5, fun Q => (a1 Q).trans (b1 Q), fun c Q hc => (a2 c Q hc).trans (b2 c Q hc), b3⟩
theorem P_find {L : Nat} {xs : Nat → Int} {B : Int} {own : Nat → Nat} {s : zSt} {w : zW} (hb : zBase L xs w) (h : zJ0 B 8 own s w) {b : Nat} (hb2 : b < 2) :
    ∃ v t sn m4 m5, (∀ Q, zR 78 0 [some (.inr (some (70 + 7 * b))), none, none, none] [] w Q = Q (some (.inr (zsC sn))) v) ∧ (∀ c Q, zKR c → zR 54 0 [some (.inr (some 194)), some (.inl (b : Int)), none, none, none, none, none] [] (zmk c s) Q = zR 54 140 [some (.inr (some 194)), some (.inl (b : Int)), some (.inl (zsN sn)), some (.inl 8), m4, m5, none] [] (zmk c t) Q) ∧ zIv b s w v t sn := by
  obtain ⟨v, t, sn, m3, m4, m5, a1, a2, a3⟩ := S_n (l3 := none) (l4 := none) (l5 := none) (l6 := none) hb h hb2 7 (by omega)
  refine ⟨v, t, sn, m4, m5, fun Q => ?_, fun c Q hc => ?_, a3⟩
  · rw [zr_78_0, zr_78_1, zr_78_2, zr_78_3]
    exact (a1 Q).trans m_78_end
  · rw [zr_54_0, zr_54_1, zr_54_2, zr_54_3]
    exact (a2 c Q hc).trans m_54_qe
