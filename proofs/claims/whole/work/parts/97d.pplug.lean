-- plug: both sides
theorem C157 {w : zW} {h n : Nat} {x : Int} (hk : zk w h = 12) (hl : zl w h = n) (hn : n ≤ 1000) : ∃ v, (∀ Q, zR 157 0 [some (.inr (some h)), some (.inl x), none, none] [] w Q = Q none v) ∧ zSF w v ∧ (∀ f k, zf v f k = zf w f k) ∧ (∀ k, k ≠ h → ∀ j, za v k j = za w k j) ∧ ∀ j, j < n → za v h j = x := by
  have hNC : zNC = 12 := rfl
  have key : ∀ (m i : Nat) (u : zW), m + i = n → (zSF w u ∧ (∀ f k, zf u f k = zf w f k) ∧ (∀ k, k ≠ h → ∀ j, za u k j = za w k j) ∧ ∀ j, j < i → za u h j = x) → ∃ v, (∀ Q, zR 157 5 [some (.inr (some h)), some (.inl x), some (.inl (i : Int)), some (.inl (n : Int))] [] u Q = Q none v) ∧ zSF w v ∧ (∀ f k, zf v f k = zf w f k) ∧ (∀ k, k ≠ h → ∀ j, za v k j = za w k j) ∧ ∀ j, j < n → za v h j = x := by
    intro m
    induction m with
    | zero =>
      intro i u hi ho
      have : n = i := by omega
      subst this
      refine ⟨u, fun Q => ?_, ho⟩
      rw [zr_157_5, zr_157_6, zr_157_7, if_pos (Int.le_refl _), zr_157_20]
    | succ m ih =>
      intro i u hi ho
      have e1 : zN (i : Int) = i := zN_of (by omega) (by omega)
      obtain ⟨v, a1, a2⟩ := ih (i + 1) (zsa u h i x) (by omega) ⟨⟨ho.1.1, ho.1.2.1, ho.1.2.2⟩, ho.2.1, fun k k1 j => (u_a_ne k1).trans (ho.2.2.1 k k1 j), fun j hj => by
        by_cases e : j = i
        · rw [e, u_a_eq]
        · rw [u_a_nj e]
          exact ho.2.2.2 j (by omega)⟩
      refine ⟨v, fun Q => ?_, a2⟩
      rw [zr_157_5, zr_157_6, zr_157_7, zN_of (x := (n : Int)) (by omega) (by omega), e1, if_neg (by omega), zr_157_10, zr_157_11, zr_157_12, zr_157_13 ⟨by rw [ho.1.k, hk], by omega, by rw [ho.1.l, hl, e1]; omega⟩, e1, Int.toNat_natCast, zr_157_14, zr_157_17]
      exact a1 Q
  obtain ⟨v, a1, a2⟩ := key n 0 w (by omega) ⟨zSF.rf, fun _ _ => rfl, fun _ _ _ => rfl, fun j hj => by omega⟩
  refine ⟨v, fun Q => ?_, a2⟩
  rw [zr_157_0, zr_157_1, zr_157_2, zr_157_3 ⟨by rw [hk]; decide, by rw [hk]; decide⟩, hl, zr_157_4]
  exact a1 Q
-- parts are forgotten
def zFg (w v : zW) (p n : Nat) : Prop := zSF w v ∧ (∀ k j, za v k j = za w k j) ∧ (∀ f k, ¬ (f = 62 ∧ ∃ i, i < n ∧ zb w p i = some k) → zf v f k = zf w f k) ∧ ∀ i g, i < n → zb w p i = some g → zf v 62 g = 0
theorem C115 {w : zW} {h p : Nat} (hk : zk w h = 1 ∨ zk w h = 4 ∨ zk w h = 8) (hp : zp w 16 h = some p) (kp : zk w p = 18) (lp : zl w p = 64) (hg : ∀ i g, i < 64 → zb w p i = some g → zk w g = 9) : ∃ v, (∀ Q, zR 115 0 [some (.inr (some h)), none] [] w Q = Q none v) ∧ zFg w v p 64 := by
  have key : ∀ (m i : Nat) (u : zW), m + i = 64 → zFg w u p i → ∃ v, (∀ Q, zR 115 2 [some (.inr (some h)), some (.inl (i : Int))] [] u Q = Q none v) ∧ zFg w v p 64 := by
    intro m
    induction m with
    | zero =>
      intro i u hi ho
      have : i = 64 := by omega
      subst this
      refine ⟨u, fun Q => ?_, ho⟩
      rw [zr_115_2, zr_115_3, zr_115_5, if_pos (by decide), zr_115_33]
    | succ m ih =>
      intro i u hi ho
      have e1 : zN (i : Int) = i := zN_of (by omega) (by omega)
      have hku : zk u h = 1 ∨ zk u h = 4 ∨ zk u h = 8 := by rw [ho.1.k]; exact hk
      have hpu : zp u 16 h = some p := by rw [ho.1.p]; exact hp
      have hix : zNC + 2 < zk u p ∧ zk u p < 1000 ∧ 0 ≤ zN (i : Int) ∧ zN (i : Int) < zl u p := ⟨by rw [ho.1.k, kp]; decide, by rw [ho.1.k, kp]; decide, by omega, by rw [ho.1.l, lp, e1]; omega⟩
      cases hz : zb w p i with
      | none =>
        have hzu : zb u p i = none := by rw [ho.1.b]; exact hz
        obtain ⟨v, a1, a2⟩ := ih (i + 1) u (by omega) ⟨ho.1, ho.2.1, fun f k hk2 => ho.2.2.1 f k (fun q => hk2 ⟨q.1, by obtain ⟨j, j1, j2⟩ := q.2; exact ⟨j, by omega, j2⟩⟩), fun j g hj hjg => by
          by_cases e : j = i
          · rw [e, hz] at hjg
            cases hjg
          · exact ho.2.2.2 j g (by omega) hjg⟩
        refine ⟨v, fun Q => ?_, a2⟩
        rw [zr_115_2, zr_115_3, zr_115_5, zN_of (x := (64 : Int)) (by omega) (by omega), e1, if_neg (by omega), zr_115_8, zr_115_9m hku, hpu, zr_115_12, zr_115_13 hix, e1, Int.toNat_natCast, hzu, zr_115_14n, zr_115_27, zr_115_30]
        exact a1 Q
      | some g =>
        have hzu : zb u p i = some g := by rw [ho.1.b]; exact hz
        have hkg : zk u g = 9 := by rw [ho.1.k]; exact hg i g (by omega) hz
        obtain ⟨v, a1, a2⟩ := ih (i + 1) (zsf u 62 g 0) (by omega) ⟨⟨ho.1.1, ho.1.2.1, ho.1.2.2⟩, ho.2.1, fun f k hk2 => by
            have hk3 : ¬ (f = 62 ∧ k = g) := fun q => hk2 ⟨q.1, i, by omega, by rw [q.2]; exact hz⟩
            have e2 : zf (zsf u 62 g 0) f k = zf u f k := by
              by_cases e : f = 62
              · exact u_f_nh (fun q => hk3 ⟨e, q⟩)
              · exact u_f_ne e
            rw [e2]
            exact ho.2.2.1 f k (fun q => hk2 ⟨q.1, by obtain ⟨j, j1, j2⟩ := q.2; exact ⟨j, by omega, j2⟩⟩), fun j g2 hj hjg => by
            by_cases e : g2 = g
            · rw [e, u_f_eq]
            · rw [u_f_nh e]
              by_cases e3 : j = i
              · rw [e3, hz] at hjg
                cases hjg
                exact absurd rfl e
              · exact ho.2.2.2 j g2 (by omega) hjg⟩
        refine ⟨v, fun Q => ?_, a2⟩
        rw [zr_115_2, zr_115_3, zr_115_5, zN_of (x := (64 : Int)) (by omega) (by omega), e1, if_neg (by omega), zr_115_8, zr_115_9m hku, hpu, zr_115_12, zr_115_13 hix, e1, Int.toNat_natCast, hzu, zr_115_14s, zr_115_17, zr_115_18m hku, hpu, zr_115_21, zr_115_22 hix, e1, Int.toNat_natCast, hzu, zr_115_23, zr_115_24 hkg (Or.inl (by decide)), zr_115_27, zr_115_30]
        exact a1 Q
  obtain ⟨v, a1, a2⟩ := key 64 0 w (by omega) ⟨zSF.rf, fun _ _ => rfl, fun _ _ _ => rfl, fun i g hi => by omega⟩
  refine ⟨v, fun Q => ?_, a2⟩
  rw [zr_115_0, zr_115_1]
  exact a1 Q
theorem m_147_13 {v1 : zW} {Q : Option zV → zW → Prop} {h bl : Nat} {bu id7 : Int} (hk1 : zk v1 h = 4 ∨ zk v1 h = 8) {u : zW} (h115 : ∀ Q, zR 115 0 [some (.inr (some h)), none] [] v1 Q = Q none u) (hku : zk u h = 4 ∨ zk u h = 8) (c3u : zp u 37 h = some bl) {y : zW} (h157 : ∀ Q, zR 157 0 [some (.inr (some bl)), some (.inl 0), none, none] [] (zsf (zsf (zsf (zsf (zsf (zsf (zsf u 32 h 0) 33 h 0) 34 h (-1000)) 35 h 1000) 36 h 0) 38 h 0) 39 h 0) Q = Q none y) : zR 147 13 [some (.inr (some h)), some (.inl bu), some (.inl id7)] [] v1 Q = Q none y := by
  rw [zr_147_13, zr_147_14m (by exact Nat.le_of_ble_eq_true rfl) (by exact hk1), h115, Option.toList_none, List.nil_append, zr_147_17, zr_147_18, zr_147_19m (by exact hku), zr_147_22, zr_147_23, zr_147_24m (by exact hku), zr_147_27, zr_147_28, zr_147_31m (by exact hku), zr_147_34, zr_147_35, zr_147_38m (by exact hku), zr_147_41, zr_147_42, zr_147_43m (by exact hku), zr_147_46, zr_147_47, zr_147_48m (by exact hku), zr_147_51, zr_147_52, zr_147_53m (by exact hku), zr_147_56, zr_147_57m (by exact hku), u_p_sf, u_p_sf, u_p_sf, u_p_sf, u_p_sf, u_p_sf, u_p_sf, c3u, zr_147_60, zr_147_61 (by exact Nat.le_of_ble_eq_true rfl), h157, Option.toList_none, List.nil_append, zr_147_64]
theorem m_147_0 {w : zW} {Q : Option zV → zW → Prop} {h pt : Nat} {bu id7 : Int} (hk : zk w h = 4 ∨ zk w h = 8) (c1 : zp w 14 h = some pt) (kpt : zk w pt = 2) : zR 147 0 [some (.inr (some h)), some (.inl bu), some (.inl id7)] [] w Q = zR 147 13 [some (.inr (some h)), some (.inl bu), some (.inl id7)] [] (zsf (zsf (zsf (zsf (zsf (zsf (zsf w 15 h bu) 18 pt id7) 19 pt 0) 20 pt 0) 21 pt 0) 22 pt 0) 23 pt 0) Q := by
  rw [zr_147_0, zr_147_1, zr_147_2m (by exact hk), zr_147_5, zr_147_6m (by exact hk), u_p_sf, c1, zr_147_9, zr_147_10 (by exact Nat.le_of_ble_eq_true rfl) (by exact kpt), m_128 (by exact kpt), Option.toList_none, List.nil_append]
-- what startAfresh comes to
def zAf (w v : zW) (h pt p bl : Nat) (bu id7 : Int) : Prop := zSF w v ∧ (∀ k, k ≠ bl → ∀ j, za v k j = za w k j) ∧ (∀ j, j < 24 → za v bl j = 0) ∧ (zf v 15 h = bu ∧ zf v 32 h = 0 ∧ zf v 33 h = 0 ∧ zf v 34 h = -1000 ∧ zf v 35 h = 1000 ∧ zf v 36 h = 0 ∧ zf v 38 h = 0 ∧ zf v 39 h = 0) ∧ (zf v 18 pt = id7 ∧ zf v 19 pt = 0 ∧ zf v 20 pt = 0 ∧ zf v 21 pt = 0 ∧ zf v 22 pt = 0 ∧ zf v 23 pt = 0) ∧ (∀ i g, i < 64 → zb w p i = some g → zf v 62 g = 0) ∧ ∀ f k, ¬ (k = h ∧ (f = 15 ∨ f = 32 ∨ f = 33 ∨ f = 34 ∨ f = 35 ∨ f = 36 ∨ f = 38 ∨ f = 39)) → ¬ (k = pt ∧ (f = 18 ∨ f = 19 ∨ f = 20 ∨ f = 21 ∨ f = 22 ∨ f = 23)) → ¬ (f = 62 ∧ ∃ i, i < 64 ∧ zb w p i = some k) → zf v f k = zf w f k
set_option maxHeartbeats 1000000 in
theorem C147 {w : zW} {h pt p bl : Nat} {bu id7 : Int} (hk : zk w h = 4 ∨ zk w h = 8) (c1 : zp w 14 h = some pt) (kpt : zk w pt = 2) (hp : zp w 16 h = some p) (kp : zk w p = 18) (lp : zl w p = 64) (hg : ∀ i g, i < 64 → zb w p i = some g → zk w g = 9) (c3 : zp w 37 h = some bl) (kbl : zk w bl = 12) (lbl : zl w bl = 24) (hne : h ≠ pt) : ∃ v, (∀ Q, zR 147 0 [some (.inr (some h)), some (.inl bu), some (.inl id7)] [] w Q = Q none v) ∧ zAf w v h pt p bl bu id7 := by
  have hV1 : ∃ v1, v1 = (zsf (zsf (zsf (zsf (zsf (zsf (zsf w 15 h bu) 18 pt id7) 19 pt 0) 20 pt 0) 21 pt 0) 22 pt 0) 23 pt 0) := ⟨_, rfl⟩
  obtain ⟨v1, e1⟩ := hV1
  have S1 : zSF w v1 := by
    rw [e1]
    exact ⟨rfl, rfl, rfl⟩
  have A1 : ∀ k j, za v1 k j = za w k j := by
    rw [e1]
    exact fun _ _ => rfl
  obtain ⟨u, q1, q2, q3, q4, q5⟩ := C115 (w := v1) (h := h) (p := p) (by rw [S1.k]; exact Or.inr hk) (by rw [S1.p]; exact hp) (by rw [S1.k]; exact kp) (by rw [S1.l]; exact lp) (fun i g hi hz => by rw [S1.b] at hz; rw [S1.k]; exact hg i g hi hz)
  have S2 : zSF w u := zSF.tr S1 q2
  have hV2 : ∃ v2, v2 = (zsf (zsf (zsf (zsf (zsf (zsf (zsf u 32 h 0) 33 h 0) 34 h (-1000)) 35 h 1000) 36 h 0) 38 h 0) 39 h 0) := ⟨_, rfl⟩
  obtain ⟨v2, e2⟩ := hV2
  have S3 : zSF w v2 := by
    rw [e2]
    exact ⟨S2.1, S2.2.1, S2.2.2⟩
  obtain ⟨y, p1, p2, p3, p4, p5⟩ := C157 (w := v2) (h := bl) (n := 24) (x := 0) (by rw [S3.k]; exact kbl) (by rw [S3.l]; exact lbl) (by omega)
  have hfg : ∀ f k, f ≠ 62 → zf u f k = zf v1 f k := fun f k hf => q4 f k (fun q => hf q.1)
  refine ⟨y, fun Q => ?_, zSF.tr S3 p2, fun k hk2 j => ?_, p5, ?_, ?_, fun i g hi hz => ?_, fun f k n1 n2 n3 => ?_⟩
  · rw [m_147_0 hk c1 kpt, ← e1]
    exact m_147_13 (by rw [S1.k]; exact hk) q1 (by rw [S2.k]; exact hk) (by rw [S2.p]; exact c3) (by rw [← e2]; exact p1)
  · rw [p4 k hk2, e2]
    exact (q3 k j).trans (A1 k j)
  · rw [p3, p3, p3, p3, p3, p3, p3, p3, e2]
    refine ⟨?_, ?_, ?_, ?_, ?_, ?_, ?_, ?_⟩
    · rw [u_f_ne (by decide), u_f_ne (by decide), u_f_ne (by decide), u_f_ne (by decide), u_f_ne (by decide), u_f_ne (by decide), u_f_ne (by decide), hfg 15 h (by decide), e1, u_f_ne (by decide), u_f_ne (by decide), u_f_ne (by decide), u_f_ne (by decide), u_f_ne (by decide), u_f_ne (by decide), u_f_eq]
    · rw [u_f_ne (by decide), u_f_ne (by decide), u_f_ne (by decide), u_f_ne (by decide), u_f_ne (by decide), u_f_ne (by decide), u_f_eq]
    · rw [u_f_ne (by decide), u_f_ne (by decide), u_f_ne (by decide), u_f_ne (by decide), u_f_ne (by decide), u_f_eq]
    · rw [u_f_ne (by decide), u_f_ne (by decide), u_f_ne (by decide), u_f_ne (by decide), u_f_eq]
    · rw [u_f_ne (by decide), u_f_ne (by decide), u_f_ne (by decide), u_f_eq]
    · rw [u_f_ne (by decide), u_f_ne (by decide), u_f_eq]
    · rw [u_f_ne (by decide), u_f_eq]
    · rw [u_f_eq]
  · have hy : ∀ f, 18 ≤ f → f ≤ 23 → zf y f pt = zf v1 f pt := fun f f1 f2 => by
      rw [p3, e2, u_f_ne (by omega), u_f_ne (by omega), u_f_ne (by omega), u_f_ne (by omega), u_f_ne (by omega), u_f_ne (by omega), u_f_ne (by omega)]
      exact hfg f pt (by omega)
    rw [hy 18 (by omega) (by omega), hy 19 (by omega) (by omega), hy 20 (by omega) (by omega), hy 21 (by omega) (by omega), hy 22 (by omega) (by omega), hy 23 (by omega) (by omega), e1]
    refine ⟨?_, ?_, ?_, ?_, ?_, ?_⟩
    · rw [u_f_ne (by decide), u_f_ne (by decide), u_f_ne (by decide), u_f_ne (by decide), u_f_ne (by decide), u_f_eq]
    · rw [u_f_ne (by decide), u_f_ne (by decide), u_f_ne (by decide), u_f_ne (by decide), u_f_eq]
    · rw [u_f_ne (by decide), u_f_ne (by decide), u_f_ne (by decide), u_f_eq]
    · rw [u_f_ne (by decide), u_f_ne (by decide), u_f_eq]
    · rw [u_f_ne (by decide), u_f_eq]
    · rw [u_f_eq]
  · rw [p3, e2, u_f_ne (by decide), u_f_ne (by decide), u_f_ne (by decide), u_f_ne (by decide), u_f_ne (by decide), u_f_ne (by decide), u_f_ne (by decide)]
    exact q5 i g hi (by rw [S1.b]; exact hz)
  · have x1 : zf v2 f k = zf u f k := by
      rw [e2]
      by_cases e : k = h
      · rw [u_f_ne (fun q => n1 ⟨e, by omega⟩), u_f_ne (fun q => n1 ⟨e, by omega⟩), u_f_ne (fun q => n1 ⟨e, by omega⟩), u_f_ne (fun q => n1 ⟨e, by omega⟩), u_f_ne (fun q => n1 ⟨e, by omega⟩), u_f_ne (fun q => n1 ⟨e, by omega⟩), u_f_ne (fun q => n1 ⟨e, by omega⟩)]
      · rw [u_f_nh e, u_f_nh e, u_f_nh e, u_f_nh e, u_f_nh e, u_f_nh e, u_f_nh e]
    have x2 : zf u f k = zf v1 f k := q4 f k (fun q => n3 ⟨q.1, by obtain ⟨i, i1, i2⟩ := q.2; exact ⟨i, i1, by rw [← S1.b]; exact i2⟩⟩)
    have x3 : zf v1 f k = zf w f k := by
      rw [e1]
      have y1 : ∀ (v : zW), zf (zsf (zsf (zsf (zsf (zsf (zsf v 18 pt id7) 19 pt 0) 20 pt 0) 21 pt 0) 22 pt 0) 23 pt 0) f k = zf v f k := fun v => by
        by_cases e : k = pt
        · rw [u_f_ne (fun q => n2 ⟨e, by omega⟩), u_f_ne (fun q => n2 ⟨e, by omega⟩), u_f_ne (fun q => n2 ⟨e, by omega⟩), u_f_ne (fun q => n2 ⟨e, by omega⟩), u_f_ne (fun q => n2 ⟨e, by omega⟩), u_f_ne (fun q => n2 ⟨e, by omega⟩)]
        · rw [u_f_nh e, u_f_nh e, u_f_nh e, u_f_nh e, u_f_nh e, u_f_nh e]
      refine (y1 _).trans ?_
      by_cases e : k = h
      · exact u_f_ne (fun q => n1 ⟨e, by omega⟩)
      · exact u_f_nh e
    rw [p3, x1, x2, x3]
theorem m_29_92s_k {c : zW} {s : zSt} {Q : Option zV → zW → Prop} (hc : zKR c) {d : Int} {l2 l3 : Option zV} (hd : 0 ≤ d ∧ d ≤ 6) (h0 : 0 ≤ 64) : ∀ (jj : Nat) (k : Int), 0 ≤ k → k + (jj : Int) = 64 → zR 29 92 [some (.inr (some 194)), some (.inl d), l2, l3, some (.inl (64 * d + k))] [] (zmk c (zpt s 203 (64 * d) k (fun x => 0))) Q = zR 29 118 [some (.inr (some 194)), some (.inl d), l2, l3, some (.inl (64 * d + 64))] [] (zmk c (zpt s 203 (64 * d) 64 (fun x => 0))) Q := by
  intro jj
  induction jj with
  | zero =>
    intro k hk0 hj_
    rw [show k = 64 by omega]
    rw [zr_29_92, zr_29_94, zr_29_96, zr_29_97, zr_29_98, zr_29_100, zr_29_101, zN_of (x := (64 * d + 64)) (by omega) (by omega), if_pos (by omega)]
  | succ jj ih =>
    intro k hk0 hj_
    rw [zr_29_92, zr_29_94, zr_29_96, zr_29_97, zr_29_98, zr_29_100, zr_29_101, zN_of (x := (64 * d + k)) (by omega) (by omega), zN_of (x := ((64 * d) + 64)) (by omega) (by omega), if_neg (by omega), zr_29_104, zr_29_105 (rk_194 hc), rp_81 hc, zr_29_108, zr_29_110, zr_29_111 (rs_203 hc (by omega) (by omega)), rsa (h := 203) (j := (64 * d + k)) (by decide) (by decide) (by omega) (by omega), zr_29_112, zr_29_115]
    rw [zpt_s (g := fun x => 0) hk0, show (64 * d + k) + 1 = (64 * d + (k + 1)) by omega]
    exact ih (k + 1) (by omega) (by omega)
theorem m_29_92s {c : zW} {s : zSt} {Q : Option zV → zW → Prop} (hc : zKR c) {d : Int} {l2 l3 : Option zV} (hd : 0 ≤ d ∧ d ≤ 6) (h0 : 0 ≤ 64) : zR 29 92 [some (.inr (some 194)), some (.inl d), l2, l3, some (.inl (64 * d + 0))] [] (zmk c s) Q = zR 29 118 [some (.inr (some 194)), some (.inl d), l2, l3, some (.inl (64 * d + 64))] [] (zmk c (zpt s 203 (64 * d) 64 (fun x => 0))) Q := by
  have h := m_29_92s_k (s := s) (Q := Q) (d := d) (l2 := l2) (l3 := l3) hc hd h0 (Int.toNat (64)) 0 (by omega) (by omega)
  rw [zpt_0] at h
  exact h
theorem m_29_177s_k {c : zW} {s : zSt} {Q : Option zV → zW → Prop} (hc : zKR c) {d : Int} {l2 l3 : Option zV} (hd : 0 ≤ d ∧ d ≤ 6) (h0 : 0 ≤ 24) : ∀ (jj : Nat) (k : Int), 0 ≤ k → k + (jj : Int) = 24 → zR 29 177 [some (.inr (some 194)), some (.inl d), l2, l3, some (.inl (24 * d + k))] [] (zmk c (zpt s 214 (24 * d) k (fun x => 0))) Q = zR 29 203 [some (.inr (some 194)), some (.inl d), l2, l3, some (.inl (24 * d + 24))] [] (zmk c (zpt s 214 (24 * d) 24 (fun x => 0))) Q := by
  intro jj
  induction jj with
  | zero =>
    intro k hk0 hj_
    rw [show k = 24 by omega]
    rw [zr_29_177, zr_29_179, zr_29_181, zr_29_182, zr_29_183, zr_29_185, zr_29_186, zN_of (x := (24 * d + 24)) (by omega) (by omega), if_pos (by omega)]
  | succ jj ih =>
    intro k hk0 hj_
    rw [zr_29_177, zr_29_179, zr_29_181, zr_29_182, zr_29_183, zr_29_185, zr_29_186, zN_of (x := (24 * d + k)) (by omega) (by omega), zN_of (x := ((24 * d) + 24)) (by omega) (by omega), if_neg (by omega), zr_29_189, zr_29_190 (rk_194 hc), rp_92 hc, zr_29_193, zr_29_195, zr_29_196 (rs_214 hc (by omega) (by omega)), rsa (h := 214) (j := (24 * d + k)) (by decide) (by decide) (by omega) (by omega), zr_29_197, zr_29_200]
    rw [zpt_s (g := fun x => 0) hk0, show (24 * d + k) + 1 = (24 * d + (k + 1)) by omega]
    exact ih (k + 1) (by omega) (by omega)
theorem m_29_177s {c : zW} {s : zSt} {Q : Option zV → zW → Prop} (hc : zKR c) {d : Int} {l2 l3 : Option zV} (hd : 0 ≤ d ∧ d ≤ 6) (h0 : 0 ≤ 24) : zR 29 177 [some (.inr (some 194)), some (.inl d), l2, l3, some (.inl (24 * d + 0))] [] (zmk c s) Q = zR 29 203 [some (.inr (some 194)), some (.inl d), l2, l3, some (.inl (24 * d + 24))] [] (zmk c (zpt s 214 (24 * d) 24 (fun x => 0))) Q := by
  have h := m_29_177s_k (s := s) (Q := Q) (d := d) (l2 := l2) (l3 := l3) hc hd h0 (Int.toNat (24)) 0 (by omega) (by omega)
  rw [zpt_0] at h
  exact h
def zplg (s : zSt) (d bu id7 : Int) : zSt := (zpt (zv (zv (zv (zv (zv (zv (zv (zpt (zv (zv (zv (zv (zv (zv (zv s 195 d bu) 196 d id7) 197 d 0) 198 d 0) 199 d 0) 200 d 0) 202 d 0) 203 (64 * d) 64 (fun x => 0)) 207 d 0) 208 d (-1000)) 209 d 1000) 210 d 0) 211 d 0) 212 d 0) 213 d 0) 214 (24 * d) 24 (fun x => 0))
theorem m_29_go {c : zW} {s : zSt} {Q : Option zV → zW → Prop} (hc : zKR c) {d bu id7 : Int} (hd : 2 ≤ d ∧ d ≤ 6) (hbu : 0 ≤ bu ∧ bu ≤ 1) (hid : 0 ≤ id7 ∧ id7 ≤ 65535) (h5 : s 195 d = -1) : zR 29 0 [some (.inr (some 194)), some (.inl d), some (.inl bu), some (.inl id7), none] [] (zmk c s) Q = Q (some (.inl 1)) (zmk c (zplg s d bu id7)) := by
  rw [zr_29_0, zr_29_1 (by exact Nat.le_of_ble_eq_true rfl), m_device1 (by rw [zN_of (by omega) (by omega)]; omega), Option.toList_some, List.cons_append, List.nil_append, zr_29_4, show zN 1 = 1 by decide, if_neg (by omega), zr_29_7, zr_29_8 (rk_194 hc), rp_73 hc, zr_29_11, zr_29_12 (ri_195 hc (by omega) (by omega)), ra (h := 195) (j := d) (by decide) (by decide) (by omega) (by omega), zr_29_13, zN_of (x := s 195 d) (by omega) (by omega), if_neg (by omega), zr_29_16, zr_29_17, zr_29_18, zr_29_19 (by exact Nat.le_of_ble_eq_true rfl), m_within1 (by decide) (by decide) (by decide) (by decide) (by rw [zN_of (by omega) (by omega)]; omega), Option.toList_some, List.cons_append, List.nil_append, zr_29_22, show zN 1 = 1 by decide, if_neg (by omega), zr_29_25, zr_29_26, zr_29_27, zr_29_29 (by exact Nat.le_of_ble_eq_true rfl), m_within1 (by decide) (by decide) (by decide) (by decide) (by rw [zN_of (by omega) (by omega)]; omega), Option.toList_some, List.cons_append, List.nil_append, zr_29_32, show zN 1 = 1 by decide, if_pos (by omega), zr_29_37, zr_29_38 (rk_194 hc), rp_73 hc, zr_29_41, zr_29_42, zr_29_43 (rs_195 hc (by omega) (by omega)), rsa (h := 195) (j := d) (by decide) (by decide) (by omega) (by omega), zr_29_44, zr_29_45 (rk_194 hc), rp_74 hc, zr_29_48, zr_29_49, zr_29_50 (rs_196 hc (by omega) (by omega)), rsa (h := 196) (j := d) (by decide) (by decide) (by omega) (by omega), zr_29_51, zr_29_52 (rk_194 hc), rp_75 hc, zr_29_55, zr_29_56, zr_29_57 (rs_197 hc (by omega) (by omega)), rsa (h := 197) (j := d) (by decide) (by decide) (by omega) (by omega), zr_29_58, zr_29_59 (rk_194 hc), rp_76 hc, zr_29_62, zr_29_63, zr_29_64 (rs_198 hc (by omega) (by omega) (Or.inl (by decide))), rsa (h := 198) (j := d) (by decide) (by decide) (by omega) (by omega), zr_29_65, zr_29_66 (rk_194 hc), rp_77 hc, zr_29_69, zr_29_70, zr_29_71 (rs_199 hc (by omega) (by omega)), rsa (h := 199) (j := d) (by decide) (by decide) (by omega) (by omega), zr_29_72, zr_29_73 (rk_194 hc), rp_78 hc, zr_29_76, zr_29_77, zr_29_78 (rs_200 hc (by omega) (by omega)), rsa (h := 200) (j := d) (by decide) (by decide) (by omega) (by omega), zr_29_79, zr_29_80 (rk_194 hc), rp_80 hc, zr_29_83, zr_29_84, zr_29_85 (rs_202 hc (by omega) (by omega)), rsa (h := 202) (j := d) (by decide) (by decide) (by omega) (by omega), zr_29_86, zr_29_88, zr_29_89, zr_29_90]
  have h1 := m_29_92s (s := (zv (zv (zv (zv (zv (zv (zv s 195 d bu) 196 d id7) 197 d 0) 198 d 0) 199 d 0) 200 d 0) 202 d 0)) (Q := Q) (d := d) (l2 := some (.inl bu)) (l3 := some (.inl id7)) hc (by omega) (by decide)
  rw [Int.add_zero] at h1
  rw [h1]
  rw [zr_29_118, zr_29_119 (rk_194 hc), rp_85 hc, zr_29_122, zr_29_123, zr_29_124 (rs_207 hc (by omega) (by omega)), rsa (h := 207) (j := d) (by decide) (by decide) (by omega) (by omega), zr_29_125, zr_29_126 (rk_194 hc), rp_86 hc, zr_29_129, zr_29_130, zr_29_133 (rs_208 hc (by omega) (by omega)), rsa (h := 208) (j := d) (by decide) (by decide) (by omega) (by omega), zr_29_134, zr_29_135 (rk_194 hc), rp_87 hc, zr_29_138, zr_29_139, zr_29_142 (rs_209 hc (by omega) (by omega)), rsa (h := 209) (j := d) (by decide) (by decide) (by omega) (by omega), zr_29_143, zr_29_144 (rk_194 hc), rp_88 hc, zr_29_147, zr_29_148, zr_29_149 (rs_210 hc (by omega) (by omega)), rsa (h := 210) (j := d) (by decide) (by decide) (by omega) (by omega), zr_29_150, zr_29_151 (rk_194 hc), rp_89 hc, zr_29_154, zr_29_155, zr_29_156 (rs_211 hc (by omega) (by omega)), rsa (h := 211) (j := d) (by decide) (by decide) (by omega) (by omega), zr_29_157, zr_29_158 (rk_194 hc), rp_90 hc, zr_29_161, zr_29_162, zr_29_163 (rs_212 hc (by omega) (by omega)), rsa (h := 212) (j := d) (by decide) (by decide) (by omega) (by omega), zr_29_164, zr_29_165 (rk_194 hc), rp_91 hc, zr_29_168, zr_29_169, zr_29_170 (rs_213 hc (by omega) (by omega)), rsa (h := 213) (j := d) (by decide) (by decide) (by omega) (by omega), zr_29_171, zr_29_173, zr_29_174, zr_29_175]
  have h2 := m_29_177s (s := (zv (zv (zv (zv (zv (zv (zv (zpt (zv (zv (zv (zv (zv (zv (zv s 195 d bu) 196 d id7) 197 d 0) 198 d 0) 199 d 0) 200 d 0) 202 d 0) 203 (64 * d) 64 (fun x => 0)) 207 d 0) 208 d (-1000)) 209 d 1000) 210 d 0) 211 d 0) 212 d 0) 213 d 0)) (Q := Q) (d := d) (l2 := some (.inl bu)) (l3 := some (.inl id7)) hc (by omega) (by decide)
  rw [Int.add_zero] at h2
  rw [h2]
  rw [zr_29_203, zr_29_204 (Or.inr (by decide))]
  rfl
theorem m_29_n1 {c : zW} {s : zSt} {Q : Option zV → zW → Prop} (hc : zKR c) {d bu id7 : Int} (rg1 : -2147483648 ≤ d ∧ d < 2147483648) (rg2 : -2147483648 ≤ bu ∧ bu < 2147483648) (rg3 : -2147483648 ≤ id7 ∧ id7 < 2147483648) (h1 : ¬ (2 ≤ d ∧ d ≤ 6)) : zR 29 0 [some (.inr (some 194)), some (.inl d), some (.inl bu), some (.inl id7), none] [] (zmk c s) Q = Q (some (.inl 0)) (zmk c s) := by
  rw [zr_29_0, zr_29_1 (by exact Nat.le_of_ble_eq_true rfl), m_device0 (by rw [zN_of (by omega) (by omega)]; omega), Option.toList_some, List.cons_append, List.nil_append, zr_29_4, show zN 0 = 0 by decide, if_pos (by omega), zr_29_35, zr_29_36 (Or.inl (by decide))]
theorem m_29_n2 {c : zW} {s : zSt} {Q : Option zV → zW → Prop} (hc : zKR c) {d bu id7 : Int} (rg1 : -2147483648 ≤ d ∧ d < 2147483648) (rg2 : -2147483648 ≤ bu ∧ bu < 2147483648) (rg3 : -2147483648 ≤ id7 ∧ id7 < 2147483648) (hd : 2 ≤ d ∧ d ≤ 6) (h1 : 0 ≤ s 195 d ∧ s 195 d ≤ 1) : zR 29 0 [some (.inr (some 194)), some (.inl d), some (.inl bu), some (.inl id7), none] [] (zmk c s) Q = Q (some (.inl 0)) (zmk c s) := by
  rw [zr_29_0, zr_29_1 (by exact Nat.le_of_ble_eq_true rfl), m_device1 (by rw [zN_of (by omega) (by omega)]; omega), Option.toList_some, List.cons_append, List.nil_append, zr_29_4, show zN 1 = 1 by decide, if_neg (by omega), zr_29_7, zr_29_8 (rk_194 hc), rp_73 hc, zr_29_11, zr_29_12 (ri_195 hc (by omega) (by omega)), ra (h := 195) (j := d) (by decide) (by decide) (by omega) (by omega), zr_29_13, zN_of (x := s 195 d) (by omega) (by omega), if_pos (by omega), zr_29_35, zr_29_36 (Or.inl (by decide))]
theorem m_29_n3 {c : zW} {s : zSt} {Q : Option zV → zW → Prop} (hc : zKR c) {d bu id7 : Int} (rg1 : -2147483648 ≤ d ∧ d < 2147483648) (rg2 : -2147483648 ≤ bu ∧ bu < 2147483648) (rg3 : -2147483648 ≤ id7 ∧ id7 < 2147483648) (hd : 2 ≤ d ∧ d ≤ 6) (h5 : s 195 d = -1) (h1 : ¬ (0 ≤ bu ∧ bu ≤ 1)) : zR 29 0 [some (.inr (some 194)), some (.inl d), some (.inl bu), some (.inl id7), none] [] (zmk c s) Q = Q (some (.inl 0)) (zmk c s) := by
  rw [zr_29_0, zr_29_1 (by exact Nat.le_of_ble_eq_true rfl), m_device1 (by rw [zN_of (by omega) (by omega)]; omega), Option.toList_some, List.cons_append, List.nil_append, zr_29_4, show zN 1 = 1 by decide, if_neg (by omega), zr_29_7, zr_29_8 (rk_194 hc), rp_73 hc, zr_29_11, zr_29_12 (ri_195 hc (by omega) (by omega)), ra (h := 195) (j := d) (by decide) (by decide) (by omega) (by omega), zr_29_13, zN_of (x := s 195 d) (by omega) (by omega), if_neg (by omega), zr_29_16, zr_29_17, zr_29_18, zr_29_19 (by exact Nat.le_of_ble_eq_true rfl), m_within0 (by decide) (by decide) (by decide) (by decide) (by rw [zN_of (by omega) (by omega)]; omega), Option.toList_some, List.cons_append, List.nil_append, zr_29_22, show zN 0 = 0 by decide, if_pos (by omega), zr_29_35, zr_29_36 (Or.inl (by decide))]
theorem m_29_n4 {c : zW} {s : zSt} {Q : Option zV → zW → Prop} (hc : zKR c) {d bu id7 : Int} (rg1 : -2147483648 ≤ d ∧ d < 2147483648) (rg2 : -2147483648 ≤ bu ∧ bu < 2147483648) (rg3 : -2147483648 ≤ id7 ∧ id7 < 2147483648) (hd : 2 ≤ d ∧ d ≤ 6) (h5 : s 195 d = -1) (hbu : 0 ≤ bu ∧ bu ≤ 1) (h1 : ¬ (0 ≤ id7 ∧ id7 ≤ 65535)) : zR 29 0 [some (.inr (some 194)), some (.inl d), some (.inl bu), some (.inl id7), none] [] (zmk c s) Q = Q (some (.inl 0)) (zmk c s) := by
  rw [zr_29_0, zr_29_1 (by exact Nat.le_of_ble_eq_true rfl), m_device1 (by rw [zN_of (by omega) (by omega)]; omega), Option.toList_some, List.cons_append, List.nil_append, zr_29_4, show zN 1 = 1 by decide, if_neg (by omega), zr_29_7, zr_29_8 (rk_194 hc), rp_73 hc, zr_29_11, zr_29_12 (ri_195 hc (by omega) (by omega)), ra (h := 195) (j := d) (by decide) (by decide) (by omega) (by omega), zr_29_13, zN_of (x := s 195 d) (by omega) (by omega), if_neg (by omega), zr_29_16, zr_29_17, zr_29_18, zr_29_19 (by exact Nat.le_of_ble_eq_true rfl), m_within1 (by decide) (by decide) (by decide) (by decide) (by rw [zN_of (by omega) (by omega)]; omega), Option.toList_some, List.cons_append, List.nil_append, zr_29_22, show zN 1 = 1 by decide, if_neg (by omega), zr_29_25, zr_29_26, zr_29_27, zr_29_29 (by exact Nat.le_of_ble_eq_true rfl), m_within0 (by decide) (by decide) (by decide) (by decide) (by rw [zN_of (by omega) (by omega)]; omega), Option.toList_some, List.cons_append, List.nil_append, zr_29_32, show zN 0 = 0 by decide, if_neg (by omega), zr_29_35, zr_29_36 (Or.inl (by decide))]
