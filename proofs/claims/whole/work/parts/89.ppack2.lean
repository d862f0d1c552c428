-- a packet goes: both sides together
def zpd (b d : Nat) : Nat := if b = 1 ∧ d = 1 then 7 else d
theorem hport_of {B : Int} {e : Nat} {own : Nat → Nat} {t : zSt} {v : zW} (h : zJ0 B e own t v) {b d : Nat} (hb2 : b < 2) (hd : d < 7) : zb v (70 + 7 * b + 1) d = if t 195 ((zpd b d : Nat) : Int) = (b : Int) then some (zPt (zpd b d)) else none := by
  have gn := h.2.1.1
  have i7 := h.2.1.2.2.2.1
  have hb01 : b = 0 ∨ b = 1 := by omega
  rcases hb01 with rfl | rfl
  · rw [show zpd 0 d = d from if_neg (by omega)]
    exact gn.2.1 d hd
  · have := gn.2.2 d hd
    by_cases d1 : d = 1
    · subst d1
      rw [show zpd 1 1 = 7 from rfl, if_pos (show t 195 ((7 : Nat) : Int) = ((1 : Nat) : Int) from i7)]
      exact this
    · rw [if_neg d1] at this
      rw [show zpd 1 d = d from if_neg (by omega)]
      exact this
theorem C_skip {L : Nat} {xs : Nat → Int} {B : Int} {e e' : Nat} {own : Nat → Nat} {t : zSt} {v : zW} (hb : zBase L xs v) (h : zJ0 B e' own t v) {b d : Nat} (hb2 : b < 2) (hd : d < 7) (he : e < 8) {to : Int} (hn : ¬ zTk t (b : Int) (e : Int) to ((zpd b d : Nat) : Int)) {l3 l5 l7 l8 : Option zV} : ∃ m7, ∀ Q, zR 21 22 [some (.inr (some 1)), some (.inr (some (70 + 7 * b))), some (.inr (some (zPt e))), l3, some (.inl to), l5, some (.inl (d : Int)), l7, l8] [] v Q = zR 21 22 [some (.inr (some 1)), some (.inr (some (70 + 7 * b))), some (.inr (some (zPt e))), l3, some (.inl to), l5, some (.inl ((d + 1 : Nat) : Int)), m7, l8] [] v Q := by
  obtain ⟨k5, f41⟩ := zBus_any hb h.1 hb2
  obtain ⟨b1, b2, b3, -⟩ := zBus_all hb h.1 hb2
  have hp := hport_of h hb2 hd
  have hp8 : zpd b d < 8 := by unfold zpd; split <;> omega
  by_cases c1 : t 195 ((zpd b d : Nat) : Int) = (b : Int)
  · rw [if_pos c1] at hp
    by_cases c2 : zpd b d = e
    · rw [c2] at hp
      exact ⟨_, fun Q => m_21_self k5 b1 b2 b3 hd hp⟩
    · have hdis := zPt_dis hp8 he c2
      have f19 := (h.2.2.1.1 _ hp8).2.1
      exact ⟨_, fun Q => m_21_adr k5 b1 b2 b3 hd (zPO_at hb h.1 hp8).1 hp (by omega) (fun q => hn ⟨by omega, c1, by rw [← f19]; exact q⟩)⟩
  · rw [if_neg c1] at hp
    exact ⟨_, fun Q => m_21_null k5 b1 b2 b3 hd hp⟩
theorem C_skips {L : Nat} {xs : Nat → Int} {B : Int} {e e' : Nat} {own : Nat → Nat} {t : zSt} {v : zW} (hb : zBase L xs v) (h : zJ0 B e' own t v) {b : Nat} (hb2 : b < 2) (he : e < 8) {to x : Int} (hx : x = 0 ∨ x = 1) {l3 l8 : Option zV} : ∀ (j d : Nat), d + j = 7 → (∀ d2, d ≤ d2 → d2 < 7 → ¬ zTk t (b : Int) (e : Int) to ((zpd b d2 : Nat) : Int)) → ∀ l7 Q, zR 21 22 [some (.inr (some 1)), some (.inr (some (70 + 7 * b))), some (.inr (some (zPt e))), l3, some (.inl to), some (.inl x), some (.inl (d : Int)), l7, l8] [] v Q = Q (some (.inl x)) v := by
  intro j
  induction j with
  | zero =>
    intro d hd hn l7 Q
    have : d = 7 := by omega
    subst this
    exact m_21_end hx
  | succ j ih =>
    intro d hd hn l7 Q
    obtain ⟨m7, q⟩ := C_skip (l3 := l3) (l5 := some (.inl x)) (l7 := l7) (l8 := l8) hb h hb2 (show d < 7 by omega) he (hn d (by omega) (by omega))
    exact (q Q).trans (ih (d + 1) (by omega) (fun d2 a1 a2 => hn d2 (by omega) a2) m7 Q)
theorem C_take {L : Nat} {xs : Nat → Int} {B : Int} {e : Nat} {own : Nat → Nat} {t : zSt} {v : zW} (hb : zBase L xs v) (h : zJ0 B e own t v) {b d i : Nat} (hb2 : b < 2) (hd : d < 7) (he : e < 8) (hi : i < 8) (hpk : zPkt t v (zPt e + 2 + 2 * i)) (hI : zPkI t) (hse : t 195 (e : Int) = (b : Int)) (hB : B < 1999999999) {to : Int} (hy : zTk t (b : Int) (e : Int) to ((zpd b d : Nat) : Int)) {l5 l7 l8 : Option zV} : ∃ v2 t2 m7 m8, (∀ Q, zR 21 22 [some (.inr (some 1)), some (.inr (some (70 + 7 * b))), some (.inr (some (zPt e))), some (.inr (some (zPt e + 2 + 2 * i))), some (.inl to), l5, some (.inl (d : Int)), l7, l8] [] v Q = zR 21 22 [some (.inr (some 1)), some (.inr (some (70 + 7 * b))), some (.inr (some (zPt e))), some (.inr (some (zPt e + 2 + 2 * i))), some (.inl to), some (.inl 1), some (.inl ((d + 1 : Nat) : Int)), m7, m8] [] v2 Q) ∧ (∀ c Q, zKR c → zR 45 0 [some (.inr (some 194)), some (.inl ((zpd b d : Nat) : Int)), none, none, none, none] [] (zmk c t) Q = Q none (zmk c t2)) ∧ yOut L xs (B + 1) e i t t2 v v2 := by
  obtain ⟨k5, f41⟩ := zBus_any hb h.1 hb2
  obtain ⟨b1, b2, b3, -⟩ := zBus_all hb h.1 hb2
  have hp := hport_of h hb2 hd
  have hp8 : zpd b d < 8 := by unfold zpd; split <;> omega
  obtain ⟨y1, y2, y3⟩ := hy
  rw [if_pos y2] at hp
  have hne : zpd b d ≠ e := by omega
  have hdis := zPt_dis hp8 he hne
  have f19 := (h.2.2.1.1 _ hp8).2.1
  have hpd : (zpd b d = 7 ∧ d = 1) ∨ (zpd b d ≠ 7 ∧ d = zpd b d) := by unfold zpd; split <;> omega
  obtain ⟨v2, t2, m8, a1, a2, a3⟩ := P_node (l2 := some (.inr (some (zPt e)))) (l4 := some (.inl to)) (l5 := some (.inl 1)) (l7 := some (.inr (some (zPt (zpd b d))))) (l8 := l8) hb h he hi hpk hI hd hpd hb2 y2 hse hne hB
  exact ⟨v2, t2, _, m8, fun Q => ((m_21_go k5 b1 b2 b3 hd (zPO_at hb h.1 hp8).1 hp (by omega) (by rw [f19]; exact y3)).trans (a1 Q)).trans m_21_96, a2, a3⟩
theorem zTk_eq {s t : zSt} {b e to : Int} (h5 : ∀ x, t 195 x = s 195 x) (h7 : ∀ x, t 197 x = s 197 x) (p : Int) : zTk t b e to p ↔ zTk s b e to p := by
  unfold zTk
  rw [h5, h7]
theorem zPkI_eq {s t : zSt} (h : ∀ x, t 228 x = s 228 x) (hI : zPkI s) : zPkI t := by
  unfold zPkI at hI ⊢
  simp only [h]
  exact hI
theorem yOut.tr {L : Nat} {xs : Nat → Int} {B B2 : Int} {e i : Nat} {s t r : zSt} {w v u : zW} (h1 : yOut L xs B e i s t w v) (h2 : yOut L xs B2 e i t r v u) : yOut L xs B2 e i s r w u := by
  obtain ⟨o1, a1, a2, a3, a4, a5⟩ := h1
  obtain ⟨o2, c1, c2, c3, c4, c5⟩ := h2
  exact ⟨o2, c1, c2, c3, yRQ.tr a4 c4, fun a ha x => (c5 a ha x).trans (a5 a ha x)⟩
-- one step of both
theorem T_step {L : Nat} {xs : Nat → Int} {B : Int} {e : Nat} {own : Nat → Nat} {t : zSt} {v : zW} (hb : zBase L xs v) (h : zJ0 B e own t v) {b d i : Nat} (hb2 : b < 2) (hd : d < 7) (he : e < 8) (hi : i < 8) (hpk : zPkt t v (zPt e + 2 + 2 * i)) (hI : zPkI t) (hse : t 195 (e : Int) = (b : Int)) (hB : B < 1999999999) {to x : Int} (hA : b = 1 → ¬ zTk t 1 (e : Int) to 7) {l3 l5 l7 l8 : Option zV} : ∃ v2 t2 x2 m7 m8, (∀ Q, zR 21 22 [some (.inr (some 1)), some (.inr (some (70 + 7 * b))), some (.inr (some (zPt e))), some (.inr (some (zPt e + 2 + 2 * i))), some (.inl to), some (.inl x), some (.inl (d : Int)), l7, l8] [] v Q = zR 21 22 [some (.inr (some 1)), some (.inr (some (70 + 7 * b))), some (.inr (some (zPt e))), some (.inr (some (zPt e + 2 + 2 * i))), some (.inl to), some (.inl x2), some (.inl ((d + 1 : Nat) : Int)), m7, m8] [] v2 Q) ∧ (∀ c Q, zKR c → zR 54 331 [some (.inr (some 194)), some (.inl (b : Int)), some (.inl (e : Int)), l3, some (.inl to), l5, some (.inl (d : Int))] [] (zmk c t) Q = zR 54 331 [some (.inr (some 194)), some (.inl (b : Int)), some (.inl (e : Int)), l3, some (.inl to), l5, some (.inl ((d + 1 : Nat) : Int))] [] (zmk c t2) Q) ∧ yOut L xs (B + 1) e i t t2 v v2 ∧ ((zTk t (b : Int) (e : Int) to (d : Int) ∧ x2 = 1) ∨ (¬ zTk t (b : Int) (e : Int) to (d : Int) ∧ x2 = x)) := by
  have rbus := h.2.1.2.2.2.2 (d : Int) (by omega) (by omega)
  have same : yOut L xs (B + 1) e i t t v v := ⟨own, zJ_mono h (by omega), hb, hpk, yRQ.rf, fun _ _ _ => rfl⟩
  by_cases c : b = 1 ∧ d = 1
  · obtain ⟨c1, c2⟩ := c
    subst c1
    subst c2
    have hn : ¬ zTk t ((1 : Nat) : Int) (e : Int) to ((1 : Nat) : Int) := fun q => by
      have e1 := q.2.1
      have i1 := h.2.1.2.2.1
      have : t 195 ((1 : Nat) : Int) = t 195 1 := rfl
      omega
    obtain ⟨m7, q⟩ := C_skip (l3 := some (.inr (some (zPt e + 2 + 2 * i)))) (l5 := some (.inl x)) (l7 := l7) (l8 := l8) (to := to) hb h hb2 hd he (hA rfl)
    exact ⟨v, t, x, m7, l8, q, fun c Q hc => m_54_331_n hc (by omega) (by omega) (by omega) rbus hn, same, Or.inr ⟨hn, rfl⟩⟩
  · have hpd : zpd b d = d := if_neg c
    by_cases y : zTk t (b : Int) (e : Int) to (d : Int)
    · obtain ⟨v2, t2, m7, m8, a1, a2, a3⟩ := C_take (l5 := some (.inl x)) (l7 := l7) (l8 := l8) hb h hb2 hd he hi hpk hI hse hB (by rw [hpd]; exact y)
      rw [hpd] at a2
      exact ⟨v2, t2, 1, m7, m8, a1, fun c Q hc => m_54_331_y hc (by omega) (by omega) (by omega) rbus y (fun Q => a2 c Q hc), a3, Or.inl ⟨y, rfl⟩⟩
    · obtain ⟨m7, q⟩ := C_skip (l3 := some (.inr (some (zPt e + 2 + 2 * i)))) (l5 := some (.inl x)) (l7 := l7) (l8 := l8) (to := to) hb h hb2 hd he (by rw [hpd]; exact y)
      exact ⟨v, t, x, m7, l8, q, fun c Q hc => m_54_331_n hc (by omega) (by omega) (by omega) rbus y, same, Or.inr ⟨y, rfl⟩⟩
theorem T_n {L : Nat} {xs : Nat → Int} {B : Int} {e : Nat} {own : Nat → Nat} {t : zSt} {v : zW} (hb : zBase L xs v) (h : zJ0 B e own t v) {b i : Nat} (hb2 : b < 2) (he : e < 8) (hi : i < 8) (hpk : zPkt t v (zPt e + 2 + 2 * i)) (hI : zPkI t) (hse : t 195 (e : Int) = (b : Int)) (hB : B + 7 < 1999999999) {to : Int} (hA : b = 1 → ¬ zTk t 1 (e : Int) to 7) {l3 l5 l7 l8 : Option zV} : ∀ n : Nat, n ≤ 7 → ∃ v2 t2 x2 m7 m8, (∀ Q, zR 21 22 [some (.inr (some 1)), some (.inr (some (70 + 7 * b))), some (.inr (some (zPt e))), some (.inr (some (zPt e + 2 + 2 * i))), some (.inl to), some (.inl 0), some (.inl ((0 : Nat) : Int)), l7, l8] [] v Q = zR 21 22 [some (.inr (some 1)), some (.inr (some (70 + 7 * b))), some (.inr (some (zPt e))), some (.inr (some (zPt e + 2 + 2 * i))), some (.inl to), some (.inl x2), some (.inl (n : Int)), m7, m8] [] v2 Q) ∧ (∀ c Q, zKR c → zR 54 331 [some (.inr (some 194)), some (.inl (b : Int)), some (.inl (e : Int)), l3, some (.inl to), l5, some (.inl ((0 : Nat) : Int))] [] (zmk c t) Q = zR 54 331 [some (.inr (some 194)), some (.inl (b : Int)), some (.inl (e : Int)), l3, some (.inl to), l5, some (.inl (n : Int))] [] (zmk c t2) Q) ∧ yOut L xs (B + (n : Int)) e i t t2 v v2 ∧ (x2 = 1 ∨ (x2 = 0 ∧ ∀ q : Int, 0 ≤ q → q < (n : Int) → ¬ zTk t (b : Int) (e : Int) to q)) := by
  intro n
  induction n with
  | zero =>
    intro _
    exact ⟨v, t, 0, l7, l8, fun _ => rfl, fun _ _ _ => rfl, ⟨own, zJ_mono h (by omega), hb, hpk, yRQ.rf, fun _ _ _ => rfl⟩, Or.inr ⟨rfl, fun q q1 q2 => by omega⟩⟩
  | succ n ih =>
    intro hn
    obtain ⟨v1, t1, x1, k7, k8, a1, a2, a3, a4⟩ := ih (by omega)
    obtain ⟨own1, y1, y2, y3, y4, y5⟩ := id a3
    have t195 : ∀ x, t1 195 x = t 195 x := y5 195 (by omega)
    have t197 : ∀ x, t1 197 x = t 197 x := y5 197 (by omega)
    have t228 : ∀ x, t1 228 x = t 228 x := y5 228 (by omega)
    obtain ⟨v2, t2, x2, m7, m8, b1, b2, b3, b4⟩ := T_step (x := x1) (l3 := l3) (l5 := l5) (l7 := k7) (l8 := k8) y2 y1 hb2 (show n < 7 by omega) he hi y3 (zPkI_eq t228 hI) (by rw [t195]; exact hse) (by omega) (fun q => by rw [zTk_eq t195 t197]; exact hA q)
    have hy := a3.tr b3
    rw [show B + (n : Int) + 1 = B + ((n + 1 : Nat) : Int) by omega] at hy
    refine ⟨v2, t2, x2, m7, m8, fun Q => (a1 Q).trans (b1 Q), fun c Q hc => (a2 c Q hc).trans (b2 c Q hc), hy, ?_⟩
    rcases b4 with ⟨z1, z2⟩ | ⟨z1, z2⟩
    · exact Or.inl z2
    · rw [z2]
      rcases a4 with q | ⟨q1, q2⟩
      · exact Or.inl q
      · refine Or.inr ⟨q1, fun q r1 r2 => ?_⟩
        by_cases eq : q = (n : Int)
        · rw [eq, ← zTk_eq t195 t197]
          exact z1
        · exact q2 q r1 (by omega)
theorem R_skips {B : Int} {e : Nat} {own : Nat → Nat} {t : zSt} {v : zW} (h : zJ0 B e own t v) {b : Nat} (hb2 : b < 2) (he : e < 8) {to : Int} {l3 l5 : Option zV} : ∀ n : Nat, n ≤ 8 → (∀ q : Int, 0 ≤ q → q < (n : Int) → ¬ zTk t (b : Int) (e : Int) to q) → ∀ c Q, zKR c → zR 54 331 [some (.inr (some 194)), some (.inl (b : Int)), some (.inl (e : Int)), l3, some (.inl to), l5, some (.inl ((0 : Nat) : Int))] [] (zmk c t) Q = zR 54 331 [some (.inr (some 194)), some (.inl (b : Int)), some (.inl (e : Int)), l3, some (.inl to), l5, some (.inl (n : Int))] [] (zmk c t) Q := by
  intro n
  induction n with
  | zero =>
    intro _ _ _ _ _
    rfl
  | succ n ih =>
    intro hn hq c Q hc
    exact (ih (by omega) (fun q a1 a2 => hq q a1 (by omega)) c Q hc).trans (m_54_331_n hc (by omega) (by omega) (by omega) (h.2.1.2.2.2.2 (n : Int) (by omega) (by omega)) (hq (n : Int) (by omega) (by omega)))
-- somebody takes it
theorem T_some {L : Nat} {xs : Nat → Int} {B : Int} {e : Nat} {own : Nat → Nat} {t : zSt} {v : zW} (hb : zBase L xs v) (h : zJ0 B e own t v) {b i : Nat} (hb2 : b < 2) (he : e < 8) (hi : i < 8) (hpk : zPkt t v (zPt e + 2 + 2 * i)) (hI : zPkI t) (hse : t 195 (e : Int) = (b : Int)) (hB : B + 7 < 1999999999) {to : Int} (hy : ∃ q : Int, 0 ≤ q ∧ q < 8 ∧ zTk t (b : Int) (e : Int) to q) {l3 l5 l7 l8 : Option zV} : ∃ v2 t2, (∀ Q, zR 21 22 [some (.inr (some 1)), some (.inr (some (70 + 7 * b))), some (.inr (some (zPt e))), some (.inr (some (zPt e + 2 + 2 * i))), some (.inl to), some (.inl 0), some (.inl 0), l7, l8] [] v Q = Q (some (.inl 1)) v2) ∧ (∀ c Q, zKR c → zR 54 331 [some (.inr (some 194)), some (.inl (b : Int)), some (.inl (e : Int)), l3, some (.inl to), l5, some (.inl 0)] [] (zmk c t) Q = Q none (zmk c t2)) ∧ yOut L xs (B + 7) e i t t2 v v2 := by
  have i1 := h.2.1.2.2.1
  have i7 := h.2.1.2.2.2.1
  have i0 := h.2.1.2.1
  by_cases c : b = 1 ∧ zTk t 1 (e : Int) to 7
  · obtain ⟨c1, c2⟩ := c
    subst c1
    have n7 : t 197 7 = 8 := h.2.2.1.2.2.1.2.1
    have hto : zN to = 8 := by
      rw [← c2.2.2, n7]
      decide
    have hno : ∀ q : Int, 0 ≤ q → q < 7 → ¬ zTk t ((1 : Nat) : Int) (e : Int) to q := fun q q1 q2 z => by
      have z2 := z.2.1
      by_cases q0 : q = 0
      · rw [q0] at z2
        omega
      · have r := h.2.2.1.2.2.1.2.2 q (by omega) q2
        have z3 := z.2.2
        rw [hto, zN_of (by omega) (by omega)] at z3
        omega
    have c7 : zTk t ((1 : Nat) : Int) (e : Int) to ((zpd 1 1 : Nat) : Int) := c2
    obtain ⟨m7, q0⟩ := C_skip (d := 0) (l3 := some (.inr (some (zPt e + 2 + 2 * i)))) (l5 := some (.inl 0)) (l7 := l7) (l8 := l8) (to := to) hb h hb2 (by omega) he (hno 0 (by omega) (by omega))
    obtain ⟨v2, t2, k7, k8, a1, a2, a3⟩ := C_take (l5 := some (.inl 0)) (l7 := m7) (l8 := l8) hb h hb2 (show 1 < 7 by omega) he hi hpk hI hse (by omega) c7
    obtain ⟨own1, y1, y2, y3, y4, y5⟩ := id a3
    have t195 : ∀ x, t2 195 x = t 195 x := y5 195 (by omega)
    have t197 : ∀ x, t2 197 x = t 197 x := y5 197 (by omega)
    refine ⟨v2, t2, fun Q => ((q0 Q).trans (a1 Q)).trans (C_skips y2 y1 hb2 he (Or.inr rfl) 5 2 (by omega) (fun d2 d3 d4 => ?_) k7 Q), fun c Q hc => ?_, ⟨own1, zJ_mono y1 (by omega), y2, y3, y4, y5⟩⟩
    · rw [show zpd 1 d2 = d2 from if_neg (by omega), zTk_eq t195 t197]
      exact hno (d2 : Int) (by omega) (by omega)
    · exact (R_skips h hb2 he 7 (by omega) (fun q q1 q2 => hno q q1 (by omega)) c Q hc).trans ((m_54_331_y hc (by omega) (by omega) (by omega) (by have := h.2.1.2.2.2.2 7 (by omega) (by omega); exact this) c2 (fun Q => a2 c Q hc)).trans m_54_331_e)
  · have hA : b = 1 → ¬ zTk t 1 (e : Int) to 7 := fun q z => c ⟨q, z⟩
    obtain ⟨v2, t2, x2, m7, m8, a1, a2, a3, a4⟩ := T_n (l3 := l3) (l5 := l5) (l7 := l7) (l8 := l8) hb h hb2 he hi hpk hI hse hB hA 7 (by omega)
    obtain ⟨own1, y1, y2, y3, y4, y5⟩ := id a3
    have t195 : ∀ x, t2 195 x = t 195 x := y5 195 (by omega)
    have t197 : ∀ x, t2 197 x = t 197 x := y5 197 (by omega)
    have h7 : ¬ zTk t (b : Int) (e : Int) to 7 := fun z => by
      have hb01 : b = 0 ∨ b = 1 := by omega
      rcases hb01 with q | q
      · have := z.2.1
        omega
      · subst q
        exact hA rfl z
    have hx : x2 = 1 := by
      rcases a4 with q | ⟨q1, q2⟩
      · exact q
      · exfalso
        obtain ⟨z, z1, z2, z3⟩ := hy
        by_cases e7 : z = 7
        · rw [e7] at z3
          exact h7 z3
        · exact q2 z z1 (by omega) z3
    subst hx
    exact ⟨v2, t2, fun Q => (a1 Q).trans (m_21_end (Or.inr rfl)), fun c Q hc => (a2 c Q hc).trans ((m_54_331_n hc (by omega) (by omega) (by omega) (by have := y1.2.1.2.2.2.2 7 (by omega) (by omega); exact this) (by rw [zTk_eq t195 t197]; exact h7)).trans m_54_331_e), a3⟩
