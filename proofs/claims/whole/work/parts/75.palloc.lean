-- new cells: what stood before stands
def yAl (X : Nat → Nat → Prop) (own own1 : Nat → Nat) (w v : zW) : Prop := zn w ≤ zn v ∧ (∀ h, h ≤ zn w → zk v h = zk w h ∧ zl v h = zl w h ∧ (∀ f, zf v f h = zf w f h) ∧ (∀ f, zp v f h = zp w f h) ∧ (∀ j, za v h j = za w h j) ∧ (∀ j, ¬ X h j → zb v h j = zb w h j)) ∧ (∀ h, h ≤ zn w → own1 h = own h)
theorem yAl.k {X : Nat → Nat → Prop} {own own1 : Nat → Nat} {w v : zW} (a : yAl X own own1 w v) {h : Nat} (hh : h ≤ zn w) : zk v h = zk w h := (a.2.1 h hh).1
theorem yAl.l {X : Nat → Nat → Prop} {own own1 : Nat → Nat} {w v : zW} (a : yAl X own own1 w v) {h : Nat} (hh : h ≤ zn w) : zl v h = zl w h := (a.2.1 h hh).2.1
theorem yAl.f {X : Nat → Nat → Prop} {own own1 : Nat → Nat} {w v : zW} (a : yAl X own own1 w v) {f h : Nat} (hh : h ≤ zn w) : zf v f h = zf w f h := (a.2.1 h hh).2.2.1 f
theorem yAl.p {X : Nat → Nat → Prop} {own own1 : Nat → Nat} {w v : zW} (a : yAl X own own1 w v) {f h : Nat} (hh : h ≤ zn w) : zp v f h = zp w f h := (a.2.1 h hh).2.2.2.1 f
theorem yAl.a {X : Nat → Nat → Prop} {own own1 : Nat → Nat} {w v : zW} (a : yAl X own own1 w v) {h j : Nat} (hh : h ≤ zn w) : za v h j = za w h j := (a.2.1 h hh).2.2.2.2.1 j
theorem yAl.b {X : Nat → Nat → Prop} {own own1 : Nat → Nat} {w v : zW} (a : yAl X own own1 w v) {h j : Nat} (hh : h ≤ zn w) (hx : ¬ X h j) : zb v h j = zb w h j := (a.2.1 h hh).2.2.2.2.2 j hx
theorem zCon_al {X : Nat → Nat → Prop} {own own1 : Nat → Nat} {w v : zW} {s : zSt} (a : yAl X own own1 w v) (h239 : 239 ≤ zn w) (hX : ∀ h j, X h j → zk w h = 18 ∨ zk w h = 20) (h : zCon w) : zCon v := by
  obtain ⟨w0, h1, h2, h3, h4⟩ := h
  refine ⟨w0, h1, fun f g hg => by rw [a.p (by omega)]; exact h2 f g hg, fun g j hg k1 k2 k3 => ?_, fun g hg => ?_⟩
  · rw [a.k (by omega)] at k1 k2 k3
    rw [a.b (by omega) (fun q => by have := hX g j q; omega)]
    exact h3 g j hg k1 k2 k3
  · rw [a.f (by omega), a.f (by omega)]
    exact h4 g hg
theorem gN_al {X : Nat → Nat → Prop} {own own1 : Nat → Nat} {w v : zW} {s : zSt} (a : yAl X own own1 w v) (h239 : 239 ≤ zn w) (h71 : ∀ j, ¬ X 71 j) (h78 : ∀ j, ¬ X 78 j) (h : gN s w) : gN s v := by
  refine ⟨fun i hi => ?_, fun i hi => ?_, fun i hi => ?_⟩
  · have := zNd_c hi
    rw [a.f (by omega)]
    exact h.1 i hi
  · rw [a.b (by omega) (h71 i)]
    exact h.2.1 i hi
  · rw [a.b (by omega) (h78 i)]
    exact h.2.2 i hi
theorem gP_al {e : Nat} {X : Nat → Nat → Prop} {own own1 : Nat → Nat} {w v : zW} {s : zSt} (a : yAl X own own1 w v) (h239 : 239 ≤ zn w) (h : gP e s w) : gP e s v := by
  intro p hp
  have := zPt_c hp
  rw [a.f (by omega), a.f (by omega), a.f (by omega), a.f (by omega), a.f (by omega)]
  exact h p hp
theorem gQ_al {e : Nat} {X : Nat → Nat → Prop} {own own1 : Nat → Nat} {w v : zW} {s : zSt} (a : yAl X own own1 w v) (h239 : 239 ≤ zn w) (h : gQ e s w) : gQ e s v := by
  refine ⟨fun p hp hl => ?_, fun p hp => ?_⟩
  · have := zPt_c hp
    obtain ⟨hd, b, h1, h2, h3, h4, h5, h6⟩ := h.1 p hp hl
    refine ⟨hd, b, h1, h2, by rw [a.f (by omega)]; exact h3, by rw [a.f (by omega)]; exact h4, h5, fun k hk => ?_⟩
    have h7 := h6 k hk
    unfold zEnt at h7 ⊢
    rw [a.f (by omega), a.f (by omega), a.f (by omega), a.f (by omega)]
    refine ⟨h7.1, h7.2.1, h7.2.2.1, h7.2.2.2.1, fun j hj => ?_⟩
    rw [a.a (by omega)]
    exact h7.2.2.2.2 j hj
  · have := zPt_c hp
    rw [a.f (by omega), a.f (by omega)]
    exact h.2 p hp
theorem zPrt_al {X : Nat → Nat → Prop} {own own1 : Nat → Nat} {w v : zW} {s : zSt} (a : yAl X own own1 w v) (h239 : 239 ≤ zn w) {S f g : Nat} (h : zPrt own s w S f g) : zPrt own1 s v S f g := by
  obtain ⟨a1, a2, a3, a4, a5, a6, a7, a8, a9, a10, a11, a12, a13⟩ := h
  unfold zPrt
  rw [a.k (by omega), a.k (by omega), a.l (by omega), a.p (by omega), a.f (by omega), a.f (by omega), a.f (by omega), a.f (by omega), a.f (by omega), a.2.2 g (by omega), a.2.2 (g + 1) (by omega)]
  refine ⟨a1, a2, a3, a4, a5, a6, a7, a8, by have := a.1; omega, a10, a11, a12, ?_⟩
  rcases a13 with b | ⟨b1, n, b2, b3, b4, b5, b6, b7⟩
  · exact Or.inl b
  · refine Or.inr ⟨b1, n, b2, b3, b4, b5, b6, fun j hj => ?_⟩
    rw [a.a (by omega)]
    exact b7 j hj
theorem gT_al {X : Nat → Nat → Prop} {own own1 : Nat → Nat} {w v : zW} {s : zSt} (a : yAl X own own1 w v) (h239 : 239 ≤ zn w) {d f : Nat} (hd : d < 7) (hx : ¬ X (zNd d + 1) f) (h : (zb w (zNd d + 1) f = none ∧ s 203 ((64 * d + f : Nat) : Int) = 0) ∨ ∃ g, zb w (zNd d + 1) f = some g ∧ zPrt own s w (64 * d + f) f g) : (zb v (zNd d + 1) f = none ∧ s 203 ((64 * d + f : Nat) : Int) = 0) ∨ ∃ g, zb v (zNd d + 1) f = some g ∧ zPrt own1 s v (64 * d + f) f g := by
  have := zNd_c hd
  rw [a.b (by omega) hx]
  rcases h with h | ⟨g, h1, h2⟩
  · exact Or.inl h
  · exact Or.inr ⟨g, h1, zPrt_al a h239 h2⟩
theorem zReq_al {X : Nat → Nat → Prop} {own own1 : Nat → Nat} {w v : zW} {s : zSt} (a : yAl X own own1 w v) (h239 : 239 ≤ zn w) {r g : Nat} (h : zReq own s w r g) : zReq own1 s v r g := by
  obtain ⟨a1, a2, a3, a4, a5, a6, a7, a8, a9, a10, a11, a12, a13, a14, a15, a16, a17, a18, a19, a20⟩ := h
  unfold zReq
  rw [a.k (by omega), a.k (by omega), a.k (by omega), a.l (by omega), a.l (by omega), a.p (by omega), a.p (by omega), a.f (by omega), a.f (by omega), a.f (by omega), a.f (by omega), a.f (by omega), a.f (by omega), a.2.2 g (by omega), a.2.2 (g + 1) (by omega), a.2.2 (g + 2) (by omega)]
  refine ⟨a1, a2, a3, a4, a5, a6, a7, a8, a9, a10, by have := a.1; omega, a12, a13, a14, a15, a16, a17, a18, fun j hj => ?_, fun j hj => ?_⟩
  · rw [a.a (by omega)]
    exact a19 j hj
  · rw [a.a (by omega)]
    exact a20 j hj
theorem gR_al {X : Nat → Nat → Prop} {own own1 : Nat → Nat} {w v : zW} {s : zSt} (a : yAl X own own1 w v) (h239 : 239 ≤ zn w) (h29 : ∀ j, ¬ X 29 j) (h : gR own s w) : gR own1 s v := by
  refine ⟨by rw [a.f (by omega)]; exact h.1, fun r hr => ?_⟩
  obtain ⟨g, h1, h2⟩ := h.2 r hr
  exact ⟨g, by rw [a.b (by omega) (h29 r)]; exact h1, zReq_al a h239 h2⟩
theorem gS_al {X : Nat → Nat → Prop} {own own1 : Nat → Nat} {w v : zW} {s : zSt} (a : yAl X own own1 w v) (h239 : 239 ≤ zn w) (h : gS s w) : gS s v := by
  intro i h1 h2
  have := zNd_c h2
  obtain ⟨a1, a2, a3, a4, a5, a6, a7, a8⟩ := h i h1 h2
  rw [a.f (by omega), a.f (by omega), a.f (by omega), a.f (by omega), a.f (by omega), a.f (by omega), a.f (by omega)]
  exact ⟨a1, a2, a3, a4, a5, a6, a7, fun j hj => by rw [a.a (by omega)]; exact a8 j hj⟩
theorem gE_al {X : Nat → Nat → Prop} {own own1 : Nat → Nat} {w v : zW} {s : zSt} (a : yAl X own own1 w v) (h239 : 239 ≤ zn w) (h : gE s w) : gE s v := by
  refine ⟨fun b hb => ?_, ?_, ?_⟩
  · rw [a.f (by omega), a.f (by omega), a.f (by omega), a.f (by omega), a.f (by omega), a.f (by omega)]
    exact h.1 b hb
  · rw [a.f (by omega)]
    exact h.2.1
  · rw [a.f (by omega)]
    exact h.2.2
theorem gB_al {X : Nat → Nat → Prop} {own own1 : Nat → Nat} {w v : zW} {s : zSt} (a : yAl X own own1 w v) (h239 : 239 ≤ zn w) (h : gB s w) : gB s v := by
  intro b hb
  obtain ⟨a1, a2, a3⟩ := h b hb
  rw [a.f (by omega), a.f (by omega), a.f (by omega)]
  exact ⟨a1, a2, fun j hj => by rw [a.a (by omega)]; exact a3 j hj⟩
theorem gM_al {X : Nat → Nat → Prop} {own own1 : Nat → Nat} {w v : zW} {s : zSt} (a : yAl X own own1 w v) (h239 : 239 ≤ zn w) (h : gM s w) : gM s v := ⟨by rw [a.f (by omega)]; exact h.1, fun j hj => by rw [a.a (by omega)]; exact h.2 j hj⟩
theorem gL_al {X : Nat → Nat → Prop} {own own1 : Nat → Nat} {w v : zW} {s : zSt} (a : yAl X own own1 w v) (h239 : 239 ≤ zn w) (h : gL s w) : gL s v := by
  obtain ⟨n, x, a1, a2, a3, a4, a5, a6⟩ := h
  exact ⟨n, x, a1, a2, by rw [a.f (by omega)]; exact a3, by rw [a.f (by omega)]; exact a4, a5, fun k hk => by rw [a.a (by omega), a.a (by omega), a.a (by omega)]; exact a6 k hk⟩
theorem zcnt_put {w v : zW} {i : Nat} (h0 : zb w (zNd (i / 64) + 1) (i % 64) = none) (h1 : zb v (zNd (i / 64) + 1) (i % 64) ≠ none) (ho : ∀ m, m < 448 → m ≠ i → zb v (zNd (m / 64) + 1) (m % 64) = zb w (zNd (m / 64) + 1) (m % 64)) : ∀ n, n ≤ 448 → zcnt v n = zcnt w n + (if i < n then 1 else 0)
  | 0, _ => rfl
  | n + 1, hn => by
    rw [zcnt, zcnt, zcnt_put h0 h1 ho n (by omega)]
    by_cases e : n = i
    · subst e
      rw [h0, if_neg h1, if_pos rfl, if_neg (by omega), if_pos (by omega)]
    · rw [ho n (by omega) e]
      have hx : (if i < n + 1 then 1 else 0 : Nat) = (if i < n then 1 else 0 : Nat) := by
        by_cases e2 : i < n
        · rw [if_pos e2, if_pos (by omega)]
        · rw [if_neg e2, if_neg (by omega)]
      rw [hx, Nat.add_right_comm]
theorem zcnt_le {w : zW} : ∀ n, zcnt w n ≤ n
  | 0 => Nat.le_refl _
  | n + 1 => by
    have := zcnt_le (w := w) n
    rw [zcnt]
    split <;> omega
-- a new part
def zPN (w : zW) (f : Int) : zW := zsf (zsp (znew (znew w 9 6) zNC 32) 61 (zn w + 1) (some (zn w + 1 + 1))) 58 (zn w + 1) f
theorem m_123 {w : zW} {Q : Option zV → zW → Prop} {f : Int} : zR 123 0 [some (.inr (some (zn w + 1))), some (.inl f)] [] (znew w 9 6) Q = Q none (zPN w f) := by
  have hk2 : zk (znew (znew w 9 6) zNC 32) (zn w + 1) = 9 := by
    rw [u_k_nw (by show zn w + 1 ≠ zn w + 1 + 1; omega)]
    exact u_k_nwn
  rw [zr_123_0, zr_123_1 (by exact Nat.le_of_ble_eq_true rfl), zr_123_4, zr_123_5, zr_123_7 (by decide), show (zN 32).toNat = 32 by decide, zr_123_9 hk2, zr_123_12, zr_123_13, zr_123_14 (by exact hk2), zr_123_17]
  rfl
theorem zPN_old {w : zW} {f : Int} {h : Nat} (hh : h ≤ zn w) : zk (zPN w f) h = zk w h ∧ zl (zPN w f) h = zl w h ∧ (∀ g, zf (zPN w f) g h = zf w g h) ∧ (∀ g, zp (zPN w f) g h = zp w g h) ∧ (∀ j, za (zPN w f) h j = za w h j) ∧ (∀ j, zb (zPN w f) h j = zb w h j) := by
  refine ⟨?_, ?_, fun g => ?_, fun g => ?_, fun j => ?_, fun j => ?_⟩
  · show zk (znew (znew w 9 6) zNC 32) h = _
    rw [u_k_nw (by show h ≠ zn w + 1 + 1; omega), u_k_nw (by omega)]
  · show zl (znew (znew w 9 6) zNC 32) h = _
    rw [u_l_nw (by show h ≠ zn w + 1 + 1; omega), u_l_nw (by omega)]
  · show zf (zsf (znew (znew w 9 6) zNC 32) 58 (zn w + 1) f) g h = _
    rw [u_f_nh (by omega), u_f_nw (by show h ≠ zn w + 1 + 1; omega), u_f_nw (by omega)]
  · show zp (zsp (znew (znew w 9 6) zNC 32) 61 (zn w + 1) (some (zn w + 1 + 1))) g h = _
    rw [u_p_nh (by omega), u_p_nw (by show h ≠ zn w + 1 + 1; omega), u_p_nw (by omega)]
  · show za (znew (znew w 9 6) zNC 32) h j = _
    rw [u_a_nw (by show h ≠ zn w + 1 + 1; omega), u_a_nw (by omega)]
  · show zb (znew (znew w 9 6) zNC 32) h j = _
    rw [u_b_nw (by show h ≠ zn w + 1 + 1; omega), u_b_nw (by omega)]
theorem zPN_new {w : zW} {f : Int} : zk (zPN w f) (zn w + 1) = 9 ∧ zk (zPN w f) (zn w + 1 + 1) = 12 ∧ zl (zPN w f) (zn w + 1 + 1) = 32 ∧ zp (zPN w f) 61 (zn w + 1) = some (zn w + 1 + 1) ∧ zf (zPN w f) 58 (zn w + 1) = f ∧ (∀ g, g ≠ 58 → zf (zPN w f) g (zn w + 1) = 0) ∧ zn (zPN w f) = zn w + 2 ∧ zsl (zPN w f) = zsl w + 38 := by
  refine ⟨?_, ?_, ?_, ?_, ?_, fun g hg => ?_, rfl, ?_⟩
  · show zk (znew (znew w 9 6) zNC 32) (zn w + 1) = _
    rw [u_k_nw (by show zn w + 1 ≠ zn w + 1 + 1; omega)]
    exact u_k_nwn
  · show zk (znew (znew w 9 6) zNC 32) (zn (znew w 9 6) + 1) = _
    exact u_k_nwn
  · show zl (znew (znew w 9 6) zNC 32) (zn (znew w 9 6) + 1) = _
    exact u_l_nwn
  · show zp (zsp (znew (znew w 9 6) zNC 32) 61 (zn w + 1) (some (zn w + 1 + 1))) 61 (zn w + 1) = _
    rw [u_p_eq]
  · show zf (zsf (zsp (znew (znew w 9 6) zNC 32) 61 (zn w + 1) (some (zn w + 1 + 1))) 58 (zn w + 1) f) 58 (zn w + 1) = _
    rw [u_f_eq]
  · show zf (zsf (zsp (znew (znew w 9 6) zNC 32) 61 (zn w + 1) (some (zn w + 1 + 1))) 58 (zn w + 1) f) g (zn w + 1) = _
    rw [u_f_ne hg]
    show zf (znew (znew w 9 6) zNC 32) g (zn w + 1) = 0
    rw [u_f_nw (by show zn w + 1 ≠ zn w + 1 + 1; omega)]
    exact if_pos rfl
  · show zsl w + 6 + 32 = zsl w + 38
    omega
def zPW (w : zW) (d f : Nat) : zW := zsb (zPN w (f : Int)) (zNd d + 1) f (some (zn w + 1))
def zOW (own : Nat → Nat) (w : zW) (S : Nat) (h : Nat) : Nat := if h ≤ zn w then own h else S
theorem J_part {L : Nat} {xs : Nat → Int} {B : Int} {e : Nat} {own : Nat → Nat} {s : zSt} {w : zW} (hb : zBase L xs w) (h : zJ0 B e own s w) {d f : Nat} (hd : d < 7) (hf : f < 64) (h0 : zb w (zNd d + 1) f = none) : zJ0 B e (zOW own w (64 * d + f)) s (zPW w d f) ∧ zb (zPW w d f) (zNd d + 1) f = some (zn w + 1) ∧ zPrt (zOW own w (64 * d + f)) s (zPW w d f) (64 * d + f) f (zn w + 1) ∧ zf (zPW w d f) 62 (zn w + 1) = 0 := by
  have h239 := hb.2.1
  have hdc := zNd_c hd
  have hN := zPN_new (w := w) (f := (f : Int))
  have hs0 : s 203 ((64 * d + f : Nat) : Int) = 0 := by
    rcases h.2.2.2.2.1.1 d f hd hf with q | ⟨g, q, -⟩
    · exact q.2
    · rw [h0] at q
      cases q
  have kpart : ∀ d2, d2 < 7 → zk w (zNd d2 + 1) = 18 := by
    intro d2 hd2
    have hd7 : d2 = 0 ∨ d2 = 1 ∨ d2 = 2 ∨ d2 = 3 ∨ d2 = 4 ∨ d2 = 5 ∨ d2 = 6 := by omega
    rcases hd7 with rfl | rfl | rfl | rfl | rfl | rfl | rfl
    · exact zk_at_6 hb
    · exact zk_at_31 hb
    · exact zk_at_85 hb
    · exact zk_at_107 hb
    · exact zk_at_129 hb
    · exact zk_at_151 hb
    · exact zk_at_173 hb
  have a : yAl (fun g j => g = zNd d + 1 ∧ j = f) own (zOW own w (64 * d + f)) w (zPW w d f) := by
    refine ⟨by show zn w ≤ zn w + 2; omega, fun g hg => ?_, fun g hg => if_pos hg⟩
    obtain ⟨o1, o2, o3, o4, o5, o6⟩ := zPN_old (f := (f : Int)) hg
    refine ⟨o1, o2, o3, o4, o5, fun j hx => ?_⟩
    show zb (zsb (zPN w (f : Int)) (zNd d + 1) f (some (zn w + 1))) g j = _
    by_cases e1 : g = zNd d + 1
    · rw [u_b_nj (fun q => hx ⟨e1, q⟩)]
      exact o6 j
    · rw [u_b_ne e1]
      exact o6 j
  have hbn : zb (zPW w d f) (zNd d + 1) f = some (zn w + 1) := u_b_eq
  have hPr : zPrt (zOW own w (64 * d + f)) s (zPW w d f) (64 * d + f) f (zn w + 1) := by
    refine ⟨hN.1, hN.2.1, hN.2.2.1, hN.2.2.2.1, hN.2.2.2.2.1, if_neg (by omega), if_neg (by omega), by omega, by show zn w + 1 + 1 ≤ zn w + 2; omega, ?_, ?_, ?_, Or.inl ⟨hN.2.2.2.2.2.1 62 (by decide), hs0⟩⟩
    · have : zf (zPW w d f) 59 (zn w + 1) = 0 := hN.2.2.2.2.2.1 59 (by decide)
      omega
    · have : zf (zPW w d f) 60 (zn w + 1) = 0 := hN.2.2.2.2.2.1 60 (by decide)
      omega
    · have : zf (zPW w d f) 63 (zn w + 1) = 0 := hN.2.2.2.2.2.1 63 (by decide)
      omega
  refine ⟨⟨zCon_al (s := s) a h239 (fun g j q => Or.inl (by rw [q.1]; exact kpart d hd)) h.1, ⟨gN_al a h239 (fun j q => by omega) (fun j q => by omega) h.2.1.1, h.2.1.2⟩, ⟨gP_al a h239 h.2.2.1.1, h.2.2.1.2⟩, ⟨gQ_al a h239 h.2.2.2.1.1, h.2.2.2.1.2⟩, ⟨fun d2 f2 hd2 hf2 => ?_, h.2.2.2.2.1.2⟩, ⟨gR_al a h239 (fun j q => by omega) h.2.2.2.2.2.1.1, h.2.2.2.2.2.1.2⟩, ⟨gS_al a h239 h.2.2.2.2.2.2.1.1, h.2.2.2.2.2.2.1.2⟩, ⟨gE_al a h239 h.2.2.2.2.2.2.2.1.1, h.2.2.2.2.2.2.2.1.2⟩, ⟨gB_al a h239 h.2.2.2.2.2.2.2.2.1.1, h.2.2.2.2.2.2.2.2.1.2⟩, ⟨gM_al a h239 h.2.2.2.2.2.2.2.2.2.1.1, h.2.2.2.2.2.2.2.2.2.1.2⟩, gL_al a h239 h.2.2.2.2.2.2.2.2.2.2.1, ?_⟩, hbn, hPr, hN.2.2.2.2.2.1 62 (by decide)⟩
  · by_cases q : d2 = d ∧ f2 = f
    · obtain ⟨q1, q2⟩ := q
      subst q1
      subst q2
      exact Or.inr ⟨_, hbn, hPr⟩
    · refine gT_al a h239 hd2 (fun x => ?_) (h.2.2.2.2.1.1 d2 f2 hd2 hf2)
      have hdc2 := zNd_c hd2
      exact q ⟨by omega, x.2⟩
  · have hh := h.2.2.2.2.2.2.2.2.2.2.2
    have hc : zcnt (zPW w d f) 448 = zcnt w 448 + 1 := by
      have hz := zcnt_put (w := w) (v := zPW w d f) (i := 64 * d + f) (by rw [show (64 * d + f) / 64 = d by omega, show (64 * d + f) % 64 = f by omega]; exact h0) (by rw [show (64 * d + f) / 64 = d by omega, show (64 * d + f) % 64 = f by omega, hbn]; exact Option.some_ne_none _) (fun m hm7 hm => ?_) 448 (Nat.le_refl _)
      · rw [hz, if_pos (by omega)]
      · have := zNd_c (d := m / 64) (by omega)
        exact a.b (by omega) (fun q => by have := q.1; have := q.2; omega)
    unfold gH at hh ⊢
    rw [hc]
    have e1 : zn (zPW w d f) = zn w + 2 := rfl
    have e2 : zsl (zPW w d f) = zsl w + 38 := hN.2.2.2.2.2.2.2
    rw [e1, e2]
    omega
