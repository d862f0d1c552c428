-- a tick of a bus that is being enumerated: both sides
theorem zDv.end {L : Nat} {xs : Nat → Int} {l : List Nat} {own : Nat → Nat} {w v : zW} {s t : zSt} (d : zDv l own w v s t) (h0 : 0 ∉ l) (hb : zBase L xs w) : zBase L xs v ∧ yRQ w v := by
  have hS : zSF w v := ⟨d.1, d.2.2.1, d.2.2.2.2.1⟩
  exact ⟨zBase_sf hb hS (fun j => d.2.2.2.1 0 (fun q => h0 q) j), ⟨fun f f1 f2 => d.2.1 f (by rw [fg_hi f1]; exact h0) 194, fun k k1 k2 j => d.2.2.2.1 k (by rw [ag_hi k1 k2]; exact h0) j⟩⟩
theorem zgb_lt {s t : zSt} : ∀ n : Nat, (∀ x : Int, 0 ≤ x → x < (n : Int) → t 220 x = s 220 x) → zgb t n = zgb s n
  | 0, _ => rfl
  | n + 1, h => by
    rw [zgb, zgb, h (n : Int) (by omega) (by omega), zgb_lt n (fun x x1 x2 => h x x1 (by omega))]
theorem E_new {s t : zSt} {w v : zW} {b : Nat} (hb2 : b < 2) (hE : gE s w ∧ iE s) (vo : ∀ f k, k ≠ 72 + 7 * b → fg f = 7 → zf v f k = zf w f k) (to : ∀ a, sg a = 7 → a ≠ 220 → a ≠ 100 → ∀ x, x ≠ (b : Int) → t a x = s a x) (t2 : ∀ x : Int, x < 16 * (b : Int) ∨ 16 * (b : Int) + 16 ≤ x → t 220 x = s 220 x) (r220 : ∀ x : Int, 0 ≤ x → x < 16 → 0 ≤ t 220 (16 * (b : Int) + x) ∧ t 220 (16 * (b : Int) + x) ≤ 65535)
    {S G A F : Int} (t215 : t 215 (b : Int) = S) (t216 : t 216 (b : Int) = G) (t219 : t 219 (b : Int) = A) (t218 : t 218 (b : Int) = F) (n48 : zf v 48 (72 + 7 * b) = S) (n52 : zf v 52 (72 + 7 * b) = G) (n49 : zf v 49 (72 + 7 * b) = A) (n50 : zf v 50 (72 + 7 * b) = F) (rS : 0 ≤ S ∧ S ≤ 3) (rG : 0 ≤ G ∧ G ≤ 3) (rA : 0 ≤ A ∧ A ≤ 16) (rF : 0 ≤ F ∧ F ≤ 2) (n53 : S = 1 → G = 2 → zf v 53 (72 + 7 * b) = t 221 (b : Int) ∧ A ≤ 15 ∧ 0 ≤ t 221 (b : Int) ∧ t 221 (b : Int) ≤ 65535) (n54 : S = 1 → G = 3 → zf v 54 (72 + 7 * b) = t 217 (b : Int) ∧ 0 ≤ t 217 (b : Int) ∧ t 217 (b : Int) < A) (c100 : zf v 51 72 = t 100 0 ∧ 0 ≤ t 100 0 ∧ t 100 0 ≤ 31) (c55 : b = 0 → S = 1 → G ≠ 0 → zf v 55 72 = zgb t A.toNat) : gE t v ∧ iE t := by
  obtain ⟨⟨g1, g2, g3⟩, i1, i2⟩ := hE
  refine ⟨⟨fun b' hb' => ?_, c100.1, fun q1 q2 => ?_⟩, fun b' r1 r2 => ?_, c100.2⟩
  · by_cases e : b' = b
    · subst e
      rw [t215, t216, t219, t218]
      exact ⟨n48, n49, n50, n52, fun q1 q2 => (n53 q1 q2).1, fun q1 q2 => (n54 q1 q2).1⟩
    · rw [vo 48 _ (by omega) rfl, vo 49 _ (by omega) rfl, vo 50 _ (by omega) rfl, vo 52 _ (by omega) rfl, vo 53 _ (by omega) rfl, vo 54 _ (by omega) rfl, to 215 rfl (by decide) (by decide) _ (by omega), to 216 rfl (by decide) (by decide) _ (by omega), to 217 rfl (by decide) (by decide) _ (by omega), to 218 rfl (by decide) (by decide) _ (by omega), to 219 rfl (by decide) (by decide) _ (by omega), to 221 rfl (by decide) (by decide) _ (by omega)]
      exact g1 b' hb'
  · have hb01 : b = 0 ∨ b = 1 := by omega
    rcases hb01 with e | e
    · subst e
      have z1 : t 215 0 = S := t215
      have z2 : t 216 0 = G := t216
      have z3 : t 219 0 = A := t219
      rw [z3]
      exact c55 rfl (z1.symm.trans q1) (fun q => q2 (z2.trans q))
    · subst e
      have z1 : t 215 0 = s 215 0 := to 215 rfl (by decide) (by decide) 0 (by omega)
      have z2 : t 216 0 = s 216 0 := to 216 rfl (by decide) (by decide) 0 (by omega)
      have z3 : t 219 0 = s 219 0 := to 219 rfl (by decide) (by decide) 0 (by omega)
      have z4 := (i1 0 (by omega) (by omega)).2.2.2.2.1
      rw [vo 55 72 (by omega) rfl, z3, zgb_lt (s := s) (t := t) _ (fun x x1 x2 => t2 x (by omega))]
      exact g3 (z1.symm.trans q1) (fun q => q2 (z2.trans q))
  · by_cases e : b' = (b : Int)
    · subst e
      rw [t215, t216, t219, t218]
      exact ⟨rS, rG, fun q1 q2 => (n54 q1 q2).2, rF, rA, fun q1 q2 => (n53 q1 q2).2, r220⟩
    · rw [to 215 rfl (by decide) (by decide) _ e, to 216 rfl (by decide) (by decide) _ e, to 217 rfl (by decide) (by decide) _ e, to 218 rfl (by decide) (by decide) _ e, to 219 rfl (by decide) (by decide) _ e, to 221 rfl (by decide) (by decide) _ e]
      obtain ⟨a1, a2, a3, a4, a5, a6, a7⟩ := i1 b' r1 r2
      exact ⟨a1, a2, a3, a4, a5, a6, fun x x1 x2 => by rw [t2 _ (by omega)]; exact a7 x x1 x2⟩
theorem J_7 {B : Int} {own : Nat → Nat} {s t : zSt} {w v : zW} (h : zJ0 B 8 own s w) (d : zDv [7] own w v s t) (hE : gE t v ∧ iE t) : zJ0 B 8 own t v :=
  zJ_gen d h (by decide) (fun q => absurd q (by decide)) (fun q => absurd q (by decide)) (fun q => absurd q (by decide)) (fun q => absurd q (by decide)) (fun q => absurd q (by decide)) (fun q => absurd q (by decide)) (fun _ => hE) (fun q => absurd q (by decide)) (fun q => absurd q (by decide)) (fun q => absurd q (by decide))
theorem J_27 {B : Int} {own : Nat → Nat} {s t : zSt} {w v : zW} (h : zJ0 B 8 own s w) (d : zDv [2, 7] own w v s t) (hP : gP 8 t v ∧ iP t) (hE : gE t v ∧ iE t) : zJ0 B 8 own t v :=
  zJ_gen d h (by decide) (fun q => absurd q (by decide)) (fun _ => hP) (fun q => absurd q (by decide)) (fun q => absurd q (by decide)) (fun q => absurd q (by decide)) (fun q => absurd q (by decide)) (fun _ => hE) (fun q => absurd q (by decide)) (fun q => absurd q (by decide)) (fun q => absurd q (by decide))
set_option maxHeartbeats 1000000 in
theorem P_efail {L : Nat} {xs : Nat → Int} {B : Int} {own : Nat → Nat} {s : zSt} {w : zW} (hb : zBase L xs w) (h : zJ0 B 8 own s w) {b : Nat} (hb2 : b < 2) (hst : s 215 (b : Int) = 1) :
    ∃ v t, (∀ Q, zR 99 0 [some (.inr (some (72 + 7 * b)))] [] w Q = Q none v) ∧ (∀ c Q s0, zKR c → (∀ Q, zR 51 0 [some (.inr (some 194)), some (.inl (b : Int)), none] [] (zmk c s0) Q = Q (some (.inl 0)) (zmk c s)) → zR 59 0 [some (.inr (some 194)), some (.inl (b : Int))] [] (zmk c s0) Q = Q (some (.inl 0)) (zmk c t)) ∧ yEnd L xs B t w v := by
  obtain ⟨b1, b2, b3, b4, b5, -⟩ := zBus_all hb h.1 hb2
  have hE := h.2.2.2.2.2.2.2.1
  obtain ⟨e48, e49, e50, e52, e53, e54⟩ := hE.1.1 b hb2
  obtain ⟨r215, r216, r217, r218, r219, r221, r220⟩ := hE.2.1 (b : Int) (by omega) (by omega)
  by_cases c : s 218 (b : Int) = 2
  · refine ⟨_, _, fun Q => m_99_y b5 e50 c, fun c2 Q s0 hc hgo => m_59_f hc (by omega) hgo rfl c, ?_⟩
    have d : zDv [7] own w (zsf (zsf (zsf w 50 (72 + 7 * b) (s 218 (b : Int) + 1)) 48 (72 + 7 * b) 3) 50 (72 + 7 * b) 0) s (zv (zv (zv s 218 (b : Int) (s 218 (b : Int) + 1)) 215 (b : Int) 3) 218 (b : Int) 0) := ⟨rfl, fun f hf k => by rw [u_f_ne (fun q => hf (by rw [q]; decide)), u_f_ne (fun q => hf (by rw [q]; decide)), u_f_ne (fun q => hf (by rw [q]; decide))], rfl, fun _ _ _ => rfl, rfl, fun a ha x => by rw [zv_ne (fun q => ha (by rw [q]; decide)), zv_ne (fun q => ha (by rw [q]; decide)), zv_ne (fun q => ha (by rw [q]; decide))]⟩
    refine ⟨⟨own, J_7 h d (E_new (S := 3) (G := s 216 (b : Int)) (A := s 219 (b : Int)) (F := 0) hb2 hE (fun f k hk _ => by rw [u_f_nh hk, u_f_nh hk, u_f_nh hk]) (fun a a1 a2 a3 x hx => by rw [zv_nj hx, zv_nj hx, zv_nj hx]) (fun x _ => by rw [zv_ne (by decide), zv_ne (by decide), zv_ne (by decide)]) (fun x x1 x2 => by rw [zv_ne (by decide), zv_ne (by decide), zv_ne (by decide)]; exact r220 x x1 x2) (by rw [zv_ne (by decide), zv_eq]) (by rw [zv_ne (by decide), zv_ne (by decide), zv_ne (by decide)]) (by rw [zv_ne (by decide), zv_ne (by decide), zv_ne (by decide)]) zv_eq (by rw [u_f_ne (by decide), u_f_eq]) (by rw [u_f_ne (by decide), u_f_ne (by decide), u_f_ne (by decide)]; exact e52) (by rw [u_f_ne (by decide), u_f_ne (by decide), u_f_ne (by decide)]; exact e49) u_f_eq (by omega) r216 r219 (by omega) (fun q => absurd q (by decide)) (fun q => absurd q (by decide)) (by rw [u_f_ne (by decide), u_f_ne (by decide), u_f_ne (by decide), zv_ne (by decide), zv_ne (by decide), zv_ne (by decide)]; exact ⟨hE.1.2.1, hE.2.2⟩) (fun _ q => absurd q (by decide)))⟩, d.end (by decide) hb⟩
  · refine ⟨_, _, fun Q => m_99_n b5 e50 (by omega), fun c2 Q s0 hc hgo => m_59_n hc (by omega) hgo rfl (by omega), ?_⟩
    have d : zDv [7] own w (zsf w 50 (72 + 7 * b) (s 218 (b : Int) + 1)) s (zv s 218 (b : Int) (s 218 (b : Int) + 1)) := ⟨rfl, fun f hf k => by rw [u_f_ne (fun q => hf (by rw [q]; decide))], rfl, fun _ _ _ => rfl, rfl, fun a ha x => by rw [zv_ne (fun q => ha (by rw [q]; decide))]⟩
    refine ⟨⟨own, J_7 h d (E_new (S := 1) (G := s 216 (b : Int)) (A := s 219 (b : Int)) (F := s 218 (b : Int) + 1) hb2 hE (fun f k hk _ => by rw [u_f_nh hk]) (fun a a1 a2 a3 x hx => by rw [zv_nj hx]) (fun x _ => zv_ne (by decide)) (fun x x1 x2 => by rw [zv_ne (by decide)]; exact r220 x x1 x2) ((zv_ne (by decide)).trans hst) (zv_ne (by decide)) (zv_ne (by decide)) zv_eq ((u_f_ne (by decide)).trans (e48.trans hst)) ((u_f_ne (by decide)).trans e52) ((u_f_ne (by decide)).trans e49) u_f_eq (by omega) r216 r219 (by omega) (fun q1 q2 => by rw [u_f_ne (by decide), zv_ne (by decide)]; exact ⟨e53 hst q2, r221 hst q2⟩) (fun q1 q2 => by rw [u_f_ne (by decide), zv_ne (by decide)]; exact ⟨e54 hst q2, r217 hst q2⟩) (by rw [u_f_ne (by decide), zv_ne (by decide)]; exact ⟨hE.1.2.1, hE.2.2⟩) (fun q1 q2 q3 => ?_))⟩, d.end (by decide) hb⟩
    subst q1
    rw [u_f_ne (by decide), zgb_df (s := s) (fun x => zv_ne (by decide))]
    exact hE.1.2.2 hst q3
theorem over_2 {s : zSt} {b : Nat} (hb2 : b < 2) (hE : iE s) : ∃ t, (∀ c Q, zKR c → zR 57 0 [some (.inr (some 194)), some (.inl (b : Int)), some (.inl 2), none] [] (zmk c s) Q = Q none (zmk c t)) ∧ t 215 (b : Int) = 2 ∧ t 218 (b : Int) = 0 ∧ (∀ a, sg a ≠ 7 → ∀ x, t a x = s a x) ∧ (∀ a, a ≠ 215 → a ≠ 218 → a ≠ 100 → ∀ x, t a x = s a x) ∧ (∀ a, a ≠ 100 → ∀ x, x ≠ (b : Int) → t a x = s a x) ∧ t 100 0 = (if b = 0 then zgb s (s 219 0).toNat else s 100 0) := by
  have hb01 : b = 0 ∨ b = 1 := by omega
  rcases hb01 with e | e
  · subst e
    obtain ⟨r215, r216, r217, r218, r219, r221, r220⟩ := hE.1 0 (by omega) (by omega)
    refine ⟨zv (zv (zv s 215 0 2) 218 0 0) 100 0 (zgb s (s 219 0).toNat), fun c Q hc => m_57_2a hc (n := (s 219 0).toNat) (by omega) (by omega) (fun x x1 x2 => by have := r220 x x1 x2; rw [show 16 * (0 : Int) + x = x by omega] at this; exact this), ?_, ?_, fun a ha x => ?_, fun a a1 a2 a3 x => ?_, fun a a1 x hx => ?_, ?_⟩
    · show zv (zv (zv s 215 0 2) 218 0 0) 100 0 (zgb s (s 219 0).toNat) 215 0 = 2
      rw [zv_ne (by decide), zv_ne (by decide), zv_eq]
    · show zv (zv (zv s 215 0 2) 218 0 0) 100 0 (zgb s (s 219 0).toNat) 218 0 = 0
      rw [zv_ne (by decide), zv_eq]
    · rw [zv_ne (fun q => ha (by rw [q]; rfl)), zv_ne (fun q => ha (by rw [q]; rfl)), zv_ne (fun q => ha (by rw [q]; rfl))]
    · rw [zv_ne a3, zv_ne a2, zv_ne a1]
    · have hx : x ≠ 0 := hx
      rw [zv_ne a1, zv_nj hx, zv_nj hx]
    · rw [zv_eq, if_pos rfl]
  · subst e
    refine ⟨zv (zv s 215 ((1 : Nat) : Int) 2) 218 ((1 : Nat) : Int) 0, fun c Q hc => m_57_2b hc rfl, ?_, ?_, fun a ha x => ?_, fun a a1 a2 a3 x => ?_, fun a a1 x hx => ?_, ?_⟩
    · rw [zv_ne (by decide), zv_eq]
    · rw [zv_eq]
    · rw [zv_ne (fun q => ha (by rw [q]; rfl)), zv_ne (fun q => ha (by rw [q]; rfl))]
    · rw [zv_ne a2, zv_ne a1]
    · rw [zv_nj hx, zv_nj hx]
    · rw [zv_ne (by decide), zv_ne (by decide), if_neg (by decide)]
theorem zgb_r {s : zSt} : ∀ n : Nat, n ≤ 16 → 0 ≤ zgb s n ∧ zgb s n ≤ 31
  | 0, _ => by
    rw [zgb]
    omega
  | n + 1, h => by
    have := zgb_r (s := s) n (by omega)
    rw [zgb]
    split <;> omega
-- the class: it is over, done
theorem P_done {L : Nat} {xs : Nat → Int} {B : Int} {own : Nat → Nat} {s : zSt} {w : zW} (hb : zBase L xs w) (h : zJ0 B 8 own s w) {b : Nat} (hb2 : b < 2) (hst : s 215 (b : Int) = 1) (hg : s 216 (b : Int) ≠ 0) : ∃ t, (∀ c Q, zKR c → zR 57 0 [some (.inr (some 194)), some (.inl (b : Int)), some (.inl 2), none] [] (zmk c s) Q = Q none (zmk c t)) ∧ ∀ x y, yEnd L xs B t w (zsf (zsf (zsf (zsf w x (72 + 7 * b) y) 51 (72 + 7 * b) (zf w 55 (72 + 7 * b))) 48 (72 + 7 * b) 2) 50 (72 + 7 * b) 0) ∨ ¬ (x = 53 ∨ x = 54) := by
  have hE := h.2.2.2.2.2.2.2.1
  obtain ⟨t, a1, a2, a3, a4, a5, a6, a7⟩ := over_2 hb2 hE.2
  obtain ⟨e48, e49, e50, e52, e53, e54⟩ := hE.1.1 b hb2
  obtain ⟨r215, r216, r217, r218, r219, r221, r220⟩ := hE.2.1 (b : Int) (by omega) (by omega)
  refine ⟨t, a1, fun x y => ?_⟩
  by_cases hx : x = 53 ∨ x = 54
  · left
    have fx : fg x = 7 := by rcases hx with q | q <;> rw [q] <;> rfl
    have d : zDv [7] own w (zsf (zsf (zsf (zsf w x (72 + 7 * b) y) 51 (72 + 7 * b) (zf w 55 (72 + 7 * b))) 48 (72 + 7 * b) 2) 50 (72 + 7 * b) 0) s t := ⟨rfl, fun f hf k => by rw [u_f_ne (fun q => hf (by rw [q]; decide)), u_f_ne (fun q => hf (by rw [q]; decide)), u_f_ne (fun q => hf (by rw [q]; decide)), u_f_ne (fun q => hf (by rw [q, fx]; decide))], rfl, fun _ _ _ => rfl, rfl, fun a ha x => a4 a (fun q => ha (by rw [q]; decide)) x⟩
    have c100 : zf (zsf (zsf (zsf (zsf w x (72 + 7 * b) y) 51 (72 + 7 * b) (zf w 55 (72 + 7 * b))) 48 (72 + 7 * b) 2) 50 (72 + 7 * b) 0) 51 72 = t 100 0 ∧ 0 ≤ t 100 0 ∧ t 100 0 ≤ 31 := by
      rw [u_f_ne (by decide), u_f_ne (by decide), a7]
      have hb01 : b = 0 ∨ b = 1 := by omega
      rcases hb01 with e | e
      · subst e
        rw [u_f_eq, if_pos rfl]
        have q := hE.1.2.2 hst hg
        have r9 : 0 ≤ s 219 0 ∧ s 219 0 ≤ 16 := r219
        exact ⟨q, zgb_r _ (by omega)⟩
      · subst e
        rw [u_f_nh (by decide), u_f_nh (by decide), if_neg (by decide)]
        exact ⟨hE.1.2.1, hE.2.2⟩
    exact ⟨⟨own, J_7 h d (E_new (S := 2) (G := s 216 (b : Int)) (A := s 219 (b : Int)) (F := 0) hb2 hE (fun f k hk _ => by rw [u_f_nh hk, u_f_nh hk, u_f_nh hk, u_f_nh hk]) (fun a a1 a2 a3 x hx => a6 a a3 x hx) (fun x _ => a5 220 (by decide) (by decide) (by decide) x) (fun x x1 x2 => by rw [a5 220 (by decide) (by decide) (by decide)]; exact r220 x x1 x2) a2 (a5 216 (by decide) (by decide) (by decide) _) (a5 219 (by decide) (by decide) (by decide) _) a3 (by rw [u_f_ne (by decide), u_f_eq]) (by rw [u_f_ne (by decide), u_f_ne (by decide), u_f_ne (by decide), u_f_ne (by omega)]; exact e52) (by rw [u_f_ne (by decide), u_f_ne (by decide), u_f_ne (by decide), u_f_ne (by omega)]; exact e49) u_f_eq (by omega) r216 r219 (by omega) (fun q => absurd q (by decide)) (fun q => absurd q (by decide)) c100 (fun _ q => absurd q (by decide)))⟩, d.end (by decide) hb⟩
  · exact Or.inr hx
theorem P_erow {L : Nat} {xs : Nat → Int} {B : Int} {own : Nat → Nat} {s : zSt} {w : zW} (hb : zBase L xs w) (h : zJ0 B 8 own s w) {b : Nat} (hb2 : b < 2) {n : Nat} {g : Int → Int} (hn : n ≤ 12) {v : zW} (hB : zRB w v (73 + 7 * b) (n + 1) g) : ∃ (G : Int) (u : zW) (t2 : zSt), (G = 0 ∨ G = 1) ∧ (∀ Q, zR 77 0 [some (.inr (some (70 + 7 * b)))] [] v Q = Q (some (.inl G)) u) ∧ (∀ c Q, zKR c → zR 51 0 [some (.inr (some 194)), some (.inl (b : Int)), none] [] (zmk c (zrp s g ((n + 1 : Nat) : Int))) Q = Q (some (.inl G)) (zmk c t2)) ∧ zJ0 B 8 own t2 u ∧ zBase L xs u ∧ zWg b s t2 w u := by
  have hW : zWr b s (zrp s g ((n + 1 : Nat) : Int)) w v := ⟨hB.1, fun f k hk => hB.2.1 f k (fun q => hk ⟨q.1, Or.inl q.2⟩), fun k k1 k2 j => hB.2.2.1 k (by omega) j, fun a ha x => zrp_o (fun q => ha (by rw [q]; rfl)) (fun q => ha (by rw [q]; rfl))⟩
  obtain ⟨G, u, t2, a1, a2, a3, a4, a5, a6, -⟩ := P_go (n := n) hb h hb2 hn hW hB.2.2.2.1 (fun j hj => by rw [show 74 + 7 * b = 73 + 7 * b + 1 by omega, hB.2.2.2.2 j hj, zrp_g (by omega) (by omega)]) zrp_n
  exact ⟨G, u, t2, a1, a2, a3, a4, a5, a6⟩
theorem hfe_of {b : Nat} (hb2 : b < 2) : ((b : Int) = 0 ∧ (if b = 0 then (9 : Int) else 32) = 9) ∨ ((b : Int) = 1 ∧ (if b = 0 then (9 : Int) else 32) = 32) := by
  by_cases q : b = 0
  · rw [if_pos q]
    exact Or.inl ⟨by omega, rfl⟩
  · rw [if_neg q]
    exact Or.inr ⟨by omega, rfl⟩
theorem zUpd.c {b : Nat} {C : Nat → Prop} {S : Nat → Option Int} {w v : zW} (h : zUpd b C S w v 7) {s : zSt} (hi : iN s) (hb2 : b < 2) (hC : ∀ p : Nat, C p → zmi s (b : Int) (p : Int)) {p : Nat} (hp : p < 8) : (C p ∧ ∀ f x, S f = some x → zf v f (zPt p) = x) ∨ (¬ C p ∧ ∀ f, zf v f (zPt p) = zf w f (zPt p)) := by
  by_cases c : C p
  · obtain ⟨d, d1, d2⟩ := zpd_of hi hb2 (q := (p : Int)) (by omega) (by omega) (hC p c)
    have e : zpd b d = p := by omega
    rw [← e] at c ⊢
    exact Or.inl ⟨c, fun f x hs => h.2.2.2.2 d f x d1 c hs⟩
  · refine Or.inr ⟨c, fun f => h.2.2.2.1 f _ (fun d hd hc q => ?_)⟩
    have hd8 := zpd_8 (b := b) hd
    by_cases e : zpd b d = p
    · rw [e] at hc
      exact c hc
    · have := zPt_dis hp hd8 (fun q => e q.symm)
      omega
theorem zUpd.dv {own : Nat → Nat} {b : Nat} {C : Nat → Prop} {S : Nat → Option Int} {w v : zW} {s t : zSt} (h : zUpd b C S w v 7) (hS : ∀ f, fg f ≠ 2 → S f = none) (ht : ∀ a, sg a ≠ 2 → ∀ x, t a x = s a x) : zDv [2] own w v s t :=
  ⟨h.1.1, fun f hf k => h.2.2.1 f k (hS f (fun q => hf (by rw [q]; decide))), h.1.2.1, fun k _ j => h.2.1 k j, h.1.2.2, fun a ha x => ht a (fun q => ha (by rw [q]; decide)) x⟩
theorem J_2 {B : Int} {own : Nat → Nat} {s t : zSt} {w v : zW} (h : zJ0 B 8 own s w) (d : zDv [2] own w v s t) (hP : gP 8 t v ∧ iP t) : zJ0 B 8 own t v :=
  zJ_gen d h (by decide) (fun q => absurd q (by decide)) (fun _ => hP) (fun q => absurd q (by decide)) (fun q => absurd q (by decide)) (fun q => absurd q (by decide)) (fun q => absurd q (by decide)) (fun q => absurd q (by decide)) (fun q => absurd q (by decide)) (fun q => absurd q (by decide)) (fun q => absurd q (by decide))
theorem yEnd.tr {L : Nat} {xs : Nat → Int} {B : Int} {t : zSt} {w v u : zW} (h1 : yRQ w v) (h2 : yEnd L xs B t v u) : yEnd L xs B t w u := ⟨h2.1, h2.2.1, yRQ.tr h1 h2.2.2⟩
set_option maxHeartbeats 1000000 in
theorem P_set {L : Nat} {xs : Nat → Int} {B : Int} {own : Nat → Nat} {s : zSt} {w : zW} (hb : zBase L xs w) (h : zJ0 B 8 own s w) {b : Nat} (hb2 : b < 2) (hst : s 215 (b : Int) = 1) (hg : s 216 (b : Int) = 3) : ∃ v t, (∀ Q, zR 90 34 [some (.inr (some (72 + 7 * b))), some (.inr (some (70 + 7 * b)))] [] w Q = Q none v) ∧ (∀ c Q, zKR c → zR 63 0 [some (.inr (some 194)), some (.inl (b : Int)), none, none] [] (zmk c s) Q = Q none (zmk c t)) ∧ yEnd L xs B t w v := by
  obtain ⟨k5, f41⟩ := zBus_any hb h.1 hb2
  obtain ⟨b1, b2, b3, b4, b5, b6, b7, b8, b9, b10⟩ := zBus_all hb h.1 hb2
  have hE := h.2.2.2.2.2.2.2.1
  obtain ⟨e48, e49, e50, e52, e53, e54⟩ := hE.1.1 b hb2
  obtain ⟨r215, r216, r217, r218, r219, r221, r220⟩ := hE.2.1 (b : Int) (by omega) (by omega)
  have r7 := r217 hst hg
  have hfe := hfe_of hb2
  have rfe : (if b = 0 then (9 : Int) else 32) = 9 ∨ (if b = 0 then (9 : Int) else 32) = 32 := by omega
  obtain ⟨v, h94, hB⟩ := m_94_set b5 k5 b6 b8 (e52.trans hg) (e54 hst hg) f41 hfe
  obtain ⟨G, u, t2, g1, g2, g3, g4, g5, g6⟩ := P_erow (n := 2) hb h hb2 (by omega) hB
  have T : ∀ a, sg a ≠ 0 → sg a ≠ 8 → ∀ x, t2 a x = s a x := g6.2.2.2
  have u215 : t2 215 (b : Int) = 1 := (T 215 (by decide) (by decide) _).trans hst
  have u216 : t2 216 (b : Int) = 3 := (T 216 (by decide) (by decide) _).trans hg
  have u217 : t2 217 (b : Int) = s 217 (b : Int) := T 217 (by decide) (by decide) _
  have u219 : t2 219 (b : Int) = s 219 (b : Int) := T 219 (by decide) (by decide) _
  have kbv : zk v (70 + 7 * b) = 5 := by rw [hB.1.k]; exact k5
  obtain ⟨k5u, f41u⟩ := zBus_any g5 g4.1 hb2
  obtain ⟨-, -, -, -, b5u, -⟩ := zBus_all g5 g4.1 hb2
  rcases g1 with g0 | g0
  · subst g0
    obtain ⟨v3, t3, q1, q2, q3⟩ := P_efail g5 g4 hb2 u215
    exact ⟨v3, t3, fun Q => m_90_34n b5 h94 kbv g2 b5u q1, fun c Q hc => m_63_0n hc (by omega) rfl hfe (fun Q => q2 c Q _ hc (fun Q => g3 c Q hc)), q3.tr (zWg.rq hb2 g6)⟩
  · subst g0
    have hE2 := g4.2.2.2.2.2.2.2.1
    obtain ⟨x48, x49, x50, x52, x53, x54⟩ := hE2.1.1 b hb2
    have x54 := x54 u215 u216
    have hi2 := g4.2.1.2
    have iP2 := g4.2.2.1.2
    have ad8 : ∀ p : Int, 0 ≤ p → p < 8 → 0 ≤ t2 197 p ∧ t2 197 p ≤ 255 := fun p p0 p8 => by
      by_cases q0 : p = 0
      · rw [q0]
        have := iP2.2.1.1
        omega
      · by_cases q7 : p = 7
        · rw [q7]
          have := iP2.2.1.2.1
          omega
        · have := iP2.2.1.2.2 p (by omega) (by omega)
          omega
    obtain ⟨y1, z1, z2⟩ := C86 (x := 16 + s 217 (b : Int)) (y := (if b = 0 then (9 : Int) else 32) + s 217 (b : Int)) g5 g4 hb2 (by omega)
    have hl := fun c Q hc => m_63_57 (c := c) (Q := Q) (s := t2) hc (show 0 ≤ (b : Int) ∧ (b : Int) ≤ 1 by omega) (e := (if b = 0 then (9 : Int) else 32) + s 217 (b : Int)) u217 (by omega) hi2 ad8 8 0 (by omega) (by omega)
    have dz : zDv [2] own u y1 t2 (zpt t2 202 0 8 (zg63 t2 (b : Int) (s 217 (b : Int)) ((if b = 0 then (9 : Int) else 32) + s 217 (b : Int)))) := z1.dv (fun f hf => if_neg (fun q => hf (by rw [q]; rfl))) (fun a ha x => zpt_ne (fun q => ha (by rw [q]; rfl)))
    have J3 : zJ0 B 8 own (zpt t2 202 0 8 (zg63 t2 (b : Int) (s 217 (b : Int)) ((if b = 0 then (9 : Int) else 32) + s 217 (b : Int)))) y1 := by
      refine J_2 g4 dz ⟨fun p hp => ?_, ?_⟩
      · obtain ⟨a1, a2, a3, a4, a5⟩ := g4.2.2.1.1 p hp
        rw [z1.2.2.1 18 _ rfl, z1.2.2.1 19 _ rfl, z1.2.2.1 20 _ rfl, z1.2.2.1 22 _ rfl, zpt_ne (b := 196) (by decide), zpt_ne (b := 197) (by decide), zpt_ne (b := 198) (by decide), zpt_ne (b := 199) (by decide)]
        refine ⟨a1, a2, a3, fun q => ?_, a5⟩
        rw [zpt_i (by omega) (by omega)]
        rcases z1.c hi2 hb2 (fun p hc => hc.1) hp with ⟨c1, c2⟩ | ⟨c1, c2⟩
        · rw [c2 21 _ rfl]
          exact (if_pos ⟨c1.1.1, c1.1.2.1, c1.1.2.2, c1.2⟩).symm
        · rw [c2, a4 q]
          exact (if_neg (fun z => c1 ⟨⟨z.1, z.2.1, z.2.2.1⟩, z.2.2.2⟩)).symm
      · obtain ⟨a1, a2, a3, a4, a5⟩ := iP2
        unfold iP
        simp only [zpt_ne (show 196 ≠ 202 by decide), zpt_ne (show 197 ≠ 202 by decide), zpt_ne (show 198 ≠ 202 by decide), zpt_ne (show 199 ≠ 202 by decide)]
        refine ⟨a1, a2, a3, a4, ?_, fun d d1 d2 => ?_⟩
        · rw [zpt_i (by omega) (by omega)]
          exact (if_neg (fun z => z.2.1 rfl)).trans a5.1
        · rw [zpt_i (by omega) (by omega)]
          unfold zg63
          have := a5.2 d d1 d2
          split <;> omega
    have eb := dz.end (by decide) g5
    have rq1 := yRQ.tr (zWg.rq hb2 g6) eb.2
    obtain ⟨-, -, -, -, b5y, -⟩ := zBus_all eb.1 J3.1 hb2
    have y49 : zf y1 49 (72 + 7 * b) = s 219 (b : Int) := (z1.2.2.1 49 _ rfl).trans (x49.trans u219)
    have y54 : zf y1 54 (72 + 7 * b) = s 217 (b : Int) := (z1.2.2.1 54 _ rfl).trans (x54.trans u217)
    have hE3 := J3.2.2.2.2.2.2.2.1
    have w215 : zpt t2 202 0 8 (zg63 t2 (b : Int) (s 217 (b : Int)) ((if b = 0 then (9 : Int) else 32) + s 217 (b : Int))) 215 (b : Int) = 1 := (zpt_ne (by decide)).trans u215
    have w216 : zpt t2 202 0 8 (zg63 t2 (b : Int) (s 217 (b : Int)) ((if b = 0 then (9 : Int) else 32) + s 217 (b : Int))) 216 (b : Int) = 3 := (zpt_ne (by decide)).trans u216
    have w217 : zpt t2 202 0 8 (zg63 t2 (b : Int) (s 217 (b : Int)) ((if b = 0 then (9 : Int) else 32) + s 217 (b : Int))) 217 (b : Int) = s 217 (b : Int) := (zpt_ne (by decide)).trans u217
    have w219 : zpt t2 202 0 8 (zg63 t2 (b : Int) (s 217 (b : Int)) ((if b = 0 then (9 : Int) else 32) + s 217 (b : Int))) 219 (b : Int) = s 219 (b : Int) := (zpt_ne (by decide)).trans u219
    generalize hU : zpt t2 202 0 8 (zg63 t2 (b : Int) (s 217 (b : Int)) ((if b = 0 then (9 : Int) else 32) + s 217 (b : Int))) = U at *
    have hr : ∀ c Q, zKR c → zR 63 0 [some (.inr (some 194)), some (.inl (b : Int)), none, none] [] (zmk c s) Q = zR 63 106 [some (.inr (some 194)), some (.inl (b : Int)), some (.inl ((if b = 0 then (9 : Int) else 32) + s 217 (b : Int))), some (.inl 8)] [] (zmk c U) Q := fun c Q hc => by
      refine (m_63_0y hc (by omega) rfl hfe (fun Q => m_59_y hc (by omega) (fun Q => g3 c Q hc))).trans ?_
      have q := hl c Q hc
      rw [zpt_0] at q
      exact q
    by_cases hq : s 217 (b : Int) + 1 = s 219 (b : Int)
    · obtain ⟨t4, p1, p2⟩ := P_done eb.1 J3 hb2 w215 (by omega)
      have p3 := (p2 54 (s 217 (b : Int) + 1)).resolve_right (fun q => q (Or.inr rfl))
      exact ⟨_, t4, fun Q => m_90_34y b5 h94 kbv g2 b5u (fun Q => m_95_3y b5u k5u (x52.trans u216) (x54.trans u217) f41u hfe b5y y54 y49 z2 (by omega) r219 hq), fun c Q hc => (hr c Q hc).trans (m_63_done hc (by omega) w217 w219 (by omega) hq (fun Q => p1 c Q hc)), p3.tr rq1⟩
    · have d : zDv [7] own y1 (zsf (zsf (zsf y1 54 (72 + 7 * b) (s 217 (b : Int) + 1)) 52 (72 + 7 * b) 3) 50 (72 + 7 * b) 0) U (zv (zv (zv U 217 (b : Int) (s 217 (b : Int) + 1)) 216 (b : Int) 3) 218 (b : Int) 0) := ⟨rfl, fun f hf k => by rw [u_f_ne (fun q => hf (by rw [q]; decide)), u_f_ne (fun q => hf (by rw [q]; decide)), u_f_ne (fun q => hf (by rw [q]; decide))], rfl, fun _ _ _ => rfl, rfl, fun a ha x => by rw [zv_ne (fun q => ha (by rw [q]; decide)), zv_ne (fun q => ha (by rw [q]; decide)), zv_ne (fun q => ha (by rw [q]; decide))]⟩
      obtain ⟨v48, v49, v50, v52, v53, v54⟩ := hE3.1.1 b hb2
      have r220' := (hE3.2.1 (b : Int) (by omega) (by omega)).2.2.2.2.2.2
      refine ⟨_, _, fun Q => m_90_34y b5 h94 kbv g2 b5u (fun Q => m_95_3n b5u k5u (x52.trans u216) (x54.trans u217) f41u hfe b5y y54 y49 z2 (by omega) r219 hq), fun c Q hc => (hr c Q hc).trans (m_63_next hc (by omega) w217 w219 (by omega) r219 hq), yEnd.tr rq1 ⟨⟨own, J_7 J3 d (E_new (S := 1) (G := 3) (A := s 219 (b : Int)) (F := 0) hb2 hE3 (fun f k hk _ => by rw [u_f_nh hk, u_f_nh hk, u_f_nh hk]) (fun a a1 a2 a3 x hx => by rw [zv_nj hx, zv_nj hx, zv_nj hx]) (fun x _ => by rw [zv_ne (by decide), zv_ne (by decide), zv_ne (by decide)]) (fun x x1 x2 => by rw [zv_ne (by decide), zv_ne (by decide), zv_ne (by decide)]; exact r220' x x1 x2) (by rw [zv_ne (by decide), zv_ne (by decide), zv_ne (by decide)]; exact w215) (by rw [zv_ne (by decide), zv_eq]) (by rw [zv_ne (by decide), zv_ne (by decide), zv_ne (by decide)]; exact w219) zv_eq (by rw [u_f_ne (by decide), u_f_ne (by decide), u_f_ne (by decide)]; exact v48.trans w215) (by rw [u_f_ne (by decide), u_f_eq]) (by rw [u_f_ne (by decide), u_f_ne (by decide), u_f_ne (by decide)]; exact y49) u_f_eq (by omega) (by omega) r219 (by omega) (fun _ q => absurd q (by decide)) (fun _ _ => by rw [u_f_ne (by decide), u_f_ne (by decide), u_f_eq, zv_ne (by decide), zv_ne (by decide), zv_eq]; exact ⟨rfl, by omega, by omega⟩) (by rw [u_f_ne (by decide), u_f_ne (by decide), u_f_ne (by decide), zv_ne (by decide), zv_ne (by decide), zv_ne (by decide)]; exact ⟨hE3.1.2.1, hE3.2.2⟩) (fun q1 _ _ => ?_))⟩, d.end (by decide) eb.1⟩⟩
      subst q1
      have w5 : U 215 0 = 1 := w215
      have w6 : U 216 0 = 3 := w216
      have w9 : U 219 0 = s 219 ((0 : Nat) : Int) := w219
      rw [u_f_ne (by decide), u_f_ne (by decide), u_f_ne (by decide), zgb_df (s := U) (fun x => by rw [zv_ne (by decide), zv_ne (by decide), zv_ne (by decide)]), ← w9]
      exact hE3.1.2.2 w5 (by omega)
