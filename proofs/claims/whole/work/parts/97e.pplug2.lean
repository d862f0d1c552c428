-- plug: both sides together
theorem zplg_o {s : zSt} {d bu id7 : Int} {a : Nat} {x : Int} (h : a ∉ [195, 196, 197, 198, 199, 200, 202, 203, 207, 208, 209, 210, 211, 212, 213, 214]) : zplg s d bu id7 a x = s a x := by
  unfold zplg
  rw [zpt_ne (fun q => h (by rw [q]; decide)), zv_ne (fun q => h (by rw [q]; decide)), zv_ne (fun q => h (by rw [q]; decide)), zv_ne (fun q => h (by rw [q]; decide)), zv_ne (fun q => h (by rw [q]; decide)), zv_ne (fun q => h (by rw [q]; decide)), zv_ne (fun q => h (by rw [q]; decide)), zv_ne (fun q => h (by rw [q]; decide)), zpt_ne (fun q => h (by rw [q]; decide)), zv_ne (fun q => h (by rw [q]; decide)), zv_ne (fun q => h (by rw [q]; decide)), zv_ne (fun q => h (by rw [q]; decide)), zv_ne (fun q => h (by rw [q]; decide)), zv_ne (fun q => h (by rw [q]; decide)), zv_ne (fun q => h (by rw [q]; decide)), zv_ne (fun q => h (by rw [q]; decide))]
theorem zplg_n {s : zSt} {d bu id7 : Int} {a : Nat} {x : Int} (h : x ≠ d) (h3 : a ≠ 203) (h4 : a ≠ 214) : zplg s d bu id7 a x = s a x := by
  unfold zplg
  rw [zpt_ne h4, zv_nj h, zv_nj h, zv_nj h, zv_nj h, zv_nj h, zv_nj h, zv_nj h, zpt_ne h3, zv_nj h, zv_nj h, zv_nj h, zv_nj h, zv_nj h, zv_nj h, zv_nj h]
theorem zplg_195 {s : zSt} {d bu id7 : Int} : zplg s d bu id7 195 d = bu := by
  unfold zplg
  rw [zpt_ne (by decide), zv_ne (by decide), zv_ne (by decide), zv_ne (by decide), zv_ne (by decide), zv_ne (by decide), zv_ne (by decide), zv_ne (by decide), zpt_ne (by decide), zv_ne (by decide), zv_ne (by decide), zv_ne (by decide), zv_ne (by decide), zv_ne (by decide), zv_ne (by decide), zv_eq]
theorem zplg_196 {s : zSt} {d bu id7 : Int} : zplg s d bu id7 196 d = id7 := by
  unfold zplg
  rw [zpt_ne (by decide), zv_ne (by decide), zv_ne (by decide), zv_ne (by decide), zv_ne (by decide), zv_ne (by decide), zv_ne (by decide), zv_ne (by decide), zpt_ne (by decide), zv_ne (by decide), zv_ne (by decide), zv_ne (by decide), zv_ne (by decide), zv_ne (by decide), zv_eq]
theorem zplg_197 {s : zSt} {d bu id7 : Int} : zplg s d bu id7 197 d = 0 := by
  unfold zplg
  rw [zpt_ne (by decide), zv_ne (by decide), zv_ne (by decide), zv_ne (by decide), zv_ne (by decide), zv_ne (by decide), zv_ne (by decide), zv_ne (by decide), zpt_ne (by decide), zv_ne (by decide), zv_ne (by decide), zv_ne (by decide), zv_ne (by decide), zv_eq]
theorem zplg_198 {s : zSt} {d bu id7 : Int} : zplg s d bu id7 198 d = 0 := by
  unfold zplg
  rw [zpt_ne (by decide), zv_ne (by decide), zv_ne (by decide), zv_ne (by decide), zv_ne (by decide), zv_ne (by decide), zv_ne (by decide), zv_ne (by decide), zpt_ne (by decide), zv_ne (by decide), zv_ne (by decide), zv_ne (by decide), zv_eq]
theorem zplg_199 {s : zSt} {d bu id7 : Int} : zplg s d bu id7 199 d = 0 := by
  unfold zplg
  rw [zpt_ne (by decide), zv_ne (by decide), zv_ne (by decide), zv_ne (by decide), zv_ne (by decide), zv_ne (by decide), zv_ne (by decide), zv_ne (by decide), zpt_ne (by decide), zv_ne (by decide), zv_ne (by decide), zv_eq]
theorem zplg_200 {s : zSt} {d bu id7 : Int} : zplg s d bu id7 200 d = 0 := by
  unfold zplg
  rw [zpt_ne (by decide), zv_ne (by decide), zv_ne (by decide), zv_ne (by decide), zv_ne (by decide), zv_ne (by decide), zv_ne (by decide), zv_ne (by decide), zpt_ne (by decide), zv_ne (by decide), zv_eq]
theorem zplg_202 {s : zSt} {d bu id7 : Int} : zplg s d bu id7 202 d = 0 := by
  unfold zplg
  rw [zpt_ne (by decide), zv_ne (by decide), zv_ne (by decide), zv_ne (by decide), zv_ne (by decide), zv_ne (by decide), zv_ne (by decide), zv_ne (by decide), zpt_ne (by decide), zv_eq]
theorem zplg_207 {s : zSt} {d bu id7 : Int} : zplg s d bu id7 207 d = 0 := by
  unfold zplg
  rw [zpt_ne (by decide), zv_ne (by decide), zv_ne (by decide), zv_ne (by decide), zv_ne (by decide), zv_ne (by decide), zv_ne (by decide), zv_eq]
theorem zplg_208 {s : zSt} {d bu id7 : Int} : zplg s d bu id7 208 d = (-1000) := by
  unfold zplg
  rw [zpt_ne (by decide), zv_ne (by decide), zv_ne (by decide), zv_ne (by decide), zv_ne (by decide), zv_ne (by decide), zv_eq]
theorem zplg_209 {s : zSt} {d bu id7 : Int} : zplg s d bu id7 209 d = 1000 := by
  unfold zplg
  rw [zpt_ne (by decide), zv_ne (by decide), zv_ne (by decide), zv_ne (by decide), zv_ne (by decide), zv_eq]
theorem zplg_210 {s : zSt} {d bu id7 : Int} : zplg s d bu id7 210 d = 0 := by
  unfold zplg
  rw [zpt_ne (by decide), zv_ne (by decide), zv_ne (by decide), zv_ne (by decide), zv_eq]
theorem zplg_211 {s : zSt} {d bu id7 : Int} : zplg s d bu id7 211 d = 0 := by
  unfold zplg
  rw [zpt_ne (by decide), zv_ne (by decide), zv_ne (by decide), zv_eq]
theorem zplg_212 {s : zSt} {d bu id7 : Int} : zplg s d bu id7 212 d = 0 := by
  unfold zplg
  rw [zpt_ne (by decide), zv_ne (by decide), zv_eq]
theorem zplg_213 {s : zSt} {d bu id7 : Int} : zplg s d bu id7 213 d = 0 := by
  unfold zplg
  rw [zpt_ne (by decide), zv_eq]
theorem zplg_203i {s : zSt} {d bu id7 : Int} {x : Int} (h1 : 64 * d ≤ x) (h2 : x < 64 * d + 64) : zplg s d bu id7 203 x = 0 := by
  unfold zplg
  rw [zpt_ne (by decide), zv_ne (by decide), zv_ne (by decide), zv_ne (by decide), zv_ne (by decide), zv_ne (by decide), zv_ne (by decide), zv_ne (by decide), zpt_i h1 h2]
theorem zplg_203o {s : zSt} {d bu id7 : Int} {x : Int} (h : x < 64 * d ∨ 64 * d + 64 ≤ x) : zplg s d bu id7 203 x = s 203 x := by
  unfold zplg
  rw [zpt_ne (by decide), zv_ne (by decide), zv_ne (by decide), zv_ne (by decide), zv_ne (by decide), zv_ne (by decide), zv_ne (by decide), zv_ne (by decide), zpt_o h, zv_ne (by decide), zv_ne (by decide), zv_ne (by decide), zv_ne (by decide), zv_ne (by decide), zv_ne (by decide), zv_ne (by decide)]
theorem zplg_214i {s : zSt} {d bu id7 : Int} {x : Int} (h1 : 24 * d ≤ x) (h2 : x < 24 * d + 24) : zplg s d bu id7 214 x = 0 := by
  unfold zplg
  rw [zpt_i h1 h2]
theorem zplg_214o {s : zSt} {d bu id7 : Int} {x : Int} (h : x < 24 * d ∨ 24 * d + 24 ≤ x) : zplg s d bu id7 214 x = s 214 x := by
  unfold zplg
  rw [zpt_o h, zv_ne (by decide), zv_ne (by decide), zv_ne (by decide), zv_ne (by decide), zv_ne (by decide), zv_ne (by decide), zv_ne (by decide), zpt_ne (by decide), zv_ne (by decide), zv_ne (by decide), zv_ne (by decide), zv_ne (by decide), zv_ne (by decide), zv_ne (by decide), zv_ne (by decide)]
theorem J_plug {L : Nat} {xs : Nat → Int} {B : Int} {own : Nat → Nat} {s : zSt} {w y : zW} {d b : Nat} {id7 : Int} (hb : zBase L xs w) (h : zJ0 B 8 own s w) (hd : 2 ≤ d ∧ d ≤ 6) (hb2 : b < 2) (hid : 0 ≤ id7 ∧ id7 ≤ 65535) (c5 : s 195 (d : Int) = -1) (ha : zAf w y (zNd d) (zPt d) (zNd d + 1) (zNd d + 20) (b : Int) id7) : zJ0 B 8 own (zplg s (d : Int) (b : Int) id7) (zsb y (70 + 7 * b + 1) d (some (zPt d))) := by
  obtain ⟨S, a1, a2, ⟨f15, f32, f33, f34, f35, f36, f38, f39⟩, ⟨f18, f19, f20, f21, f22, f23⟩, p62, fo⟩ := ha
  have hnd := zNd_c (show d < 7 by omega)
  have hpt := zPt_c (show d < 8 by omega)
  have hpn := zPt_Nd (show d < 7 by omega)
  have hbc : 70 + 7 * b + 1 = 71 ∨ 70 + 7 * b + 1 = 78 := by omega
  have dz : zDv [1, 2, 3, 4, 6] own (zWb w (zsb y (70 + 7 * b + 1) d (some (zPt d)))) (zsb y (70 + 7 * b + 1) d (some (zPt d))) s (zplg s (d : Int) (b : Int) id7) := by
    refine ⟨S.1, fun f hf k => ?_, S.2.1, fun k hk j => ?_, rfl, fun a ha x => ?_⟩
    · exact fo f k (fun q => hf (by rcases q.2 with e | e | e | e | e | e | e | e <;> rw [e] <;> decide)) (fun q => hf (by rcases q.2 with e | e | e | e | e | e <;> rw [e] <;> decide)) (fun q => hf (by rw [q.1]; decide))
    · exact a1 k (fun q => hk (by rw [q, ag_bl d (by omega) (by omega)]; decide)) j
    · refine zplg_o (fun q => ha ?_)
      simp only [List.mem_cons, List.not_mem_nil, or_false] at q
      rcases q with e | e | e | e | e | e | e | e | e | e | e | e | e | e | e | e <;> rw [e] <;> decide
  have ff : ∀ f k, zf (zsb y (70 + 7 * b + 1) d (some (zPt d))) f k = zf y f k := fun _ _ => rfl
  have fa : ∀ k j, za (zsb y (70 + 7 * b + 1) d (some (zPt d))) k j = za y k j := fun _ _ => rfl
  have fk : ∀ k, zk (zsb y (70 + 7 * b + 1) d (some (zPt d))) k = zk w k := fun k => S.k k
  have fl : ∀ k, zl (zsb y (70 + 7 * b + 1) d (some (zPt d))) k = zl w k := fun k => S.l k
  have fn : zn (zsb y (70 + 7 * b + 1) d (some (zPt d))) = zn w := S.n
  have fp : ∀ f k, zp (zsb y (70 + 7 * b + 1) d (some (zPt d))) f k = zp w f k := fun f k => S.p f k
  have vb : ∀ k j, k ≠ 71 → k ≠ 78 → zb (zsb y (70 + 7 * b + 1) d (some (zPt d))) k j = zb w k j := fun k j k1 k2 => by
    rw [u_b_ne (by omega)]
    exact S.b k j
  have yb : ∀ k j, zb y k j = zb w k j := fun k j => S.b k j
  have t195 : ∀ x, x ≠ (d : Int) → zplg s (d : Int) (b : Int) id7 195 x = s 195 x := fun x hx => zplg_n hx (by decide) (by decide)
  have t201 : ∀ x, zplg s (d : Int) (b : Int) id7 201 x = s 201 x := fun x => zplg_o (by decide)
  generalize hv : zsb y (70 + 7 * b + 1) d (some (zPt d)) = v at dz ff fa fk fl fn fp vb ⊢
  refine zJ_port hb h dz vb (by decide) (by decide) ⟨⟨fun i hi => ?_, fun i hi => ?_, fun i hi => ?_⟩, ?_⟩ (fun _ => ⟨fun p hp => ?_, ?_⟩) ⟨⟨fun p hp hl => ?_, fun p hp => ?_⟩, fun p k p1 p2 p3 k1 k2 => ?_⟩ (fun _ => ⟨fun i f hi hf => ?_, fun T T1 T2 => ?_⟩) (fun _ => ⟨fun i i1 i2 => ?_, fun i i1 i2 => ?_⟩) (by decide) (by decide) (by decide) (by decide)
  · rw [ff]
    by_cases e : i = d
    · subst e
      rw [f15, zplg_195]
    · have := zNd_c hi
      rw [fo 15 (zNd i) (by omega) (by omega) (fun q => absurd q.1 (by decide)), t195 _ (by omega)]
      exact h.2.1.1.1 i hi
  · rw [← hv]
    by_cases e : i = d
    · subst e
      rw [zplg_195]
      by_cases eb : b = 0
      · rw [show 70 + 7 * b + 1 = 71 by omega, u_b_eq, if_pos (by omega)]
      · rw [u_b_ne (by omega), yb, h.2.1.1.2.1 i hi, if_neg (by omega), if_neg (by omega)]
    · rw [t195 _ (by omega), u_b_nj e, yb]
      exact h.2.1.1.2.1 i hi
  · rw [← hv]
    by_cases e : i = d
    · subst e
      rw [zplg_195, if_neg (by omega)]
      by_cases eb : b = 1
      · rw [show 70 + 7 * b + 1 = 78 by omega, u_b_eq, if_pos (by omega)]
      · rw [u_b_ne (by omega), yb, h.2.1.1.2.2 i hi, if_neg (by omega), if_neg (by omega), if_neg (by omega)]
    · rw [t195 _ (by omega), u_b_nj e, yb]
      exact h.2.1.1.2.2 i hi
  · obtain ⟨i0, i1, i7, ia⟩ := h.2.1.2
    refine ⟨by rw [t195 _ (by omega)]; exact i0, by rw [t195 _ (by omega)]; exact i1, by rw [t195 _ (by omega)]; exact i7, fun p p1 p2 => ?_⟩
    by_cases e : p = (d : Int)
    · rw [e, zplg_195]
      omega
    · rw [t195 _ e]
      exact ia p p1 p2
  · rw [ff, ff, ff, ff, ff]
    by_cases e : p = d
    · subst e
      rw [f18, f19, f20, f21, f22, zplg_196, zplg_197, zplg_198, zplg_199, zplg_202, if_neg (by omega)]
      exact ⟨rfl, rfl, rfl, fun _ => rfl, fun _ => rfl⟩
    · have := zPt_dis hp (show d < 8 by omega) e
      have g : ∀ f, 18 ≤ f → f ≤ 22 → zf y f (zPt p) = zf w f (zPt p) := fun f q1 q2 => fo f (zPt p) (by omega) (by omega) (by omega)
      rw [g 18 (by omega) (by omega), g 19 (by omega) (by omega), g 20 (by omega) (by omega), g 21 (by omega) (by omega), g 22 (by omega) (by omega), zplg_n (by omega) (by decide) (by decide), zplg_n (by omega) (by decide) (by decide), zplg_n (by omega) (by decide) (by decide), zplg_n (by omega) (by decide) (by decide), zplg_n (by omega) (by decide) (by decide)]
      exact h.2.2.1.1 p hp
  · obtain ⟨i1, ⟨i2, i3, i4⟩, i5, i6, i7, i8⟩ := h.2.2.1.2
    have g : ∀ (a : Nat) (x : Int), a ≠ 203 → a ≠ 214 → x ≠ (d : Int) → zplg s (d : Int) (b : Int) id7 a x = s a x := fun a x q1 q2 q3 => zplg_n q3 q1 q2
    refine ⟨fun p p1 p2 => ?_, ⟨by rw [g _ _ (by decide) (by decide) (by omega)]; exact i2, by rw [g _ _ (by decide) (by decide) (by omega)]; exact i3, fun p p1 p2 => ?_⟩, fun p p1 p2 => ?_, fun p p1 p2 => ?_, by rw [g _ _ (by decide) (by decide) (by omega)]; exact i7, fun p p1 p2 => ?_⟩
    all_goals by_cases e : p = (d : Int)
    · rw [e, zplg_196]
      exact hid
    · rw [g _ _ (by decide) (by decide) e]
      exact i1 p p1 p2
    · rw [e, zplg_197]
      exact Or.inl rfl
    · rw [g _ _ (by decide) (by decide) e]
      exact i4 p p1 p2
    · rw [e, zplg_198]
      exact Or.inl rfl
    · rw [g _ _ (by decide) (by decide) e]
      exact i5 p p1 p2
    · rw [e, zplg_199]
      omega
    · rw [g _ _ (by decide) (by decide) e]
      exact i6 p p1 p2
    · rw [e, zplg_202]
      omega
    · rw [g _ _ (by decide) (by decide) e]
      exact i8 p p1 p2
  · by_cases e : p = d
    · subst e
      obtain ⟨hd2, nb, q1, q2, q3, q4⟩ := h.2.2.2.1.1.2 p hp
      refine ⟨hd2, 0, q1, by rw [if_neg (by omega)]; omega, ?_, ?_, ?_, fun k hk => absurd hk (Nat.not_lt_zero _)⟩
      · rw [ff, fo 25 (zPt p) (by omega) (by omega) (by omega)]
        exact q3
      · rw [if_neg (show ¬ p = 8 by omega), ff]
        exact f23
      · exact zplg_200
    · have hdis := zPt_dis hp (show d < 8 by omega) e
      rw [t195 _ (by omega)] at hl
      obtain ⟨hd2, nb, q1, q2, q3, q4, q5, q6⟩ := h.2.2.2.1.1.1 p hp hl
      refine ⟨hd2, nb, q1, q2, by rw [ff, fo 25 (zPt p) (by omega) (by omega) (by omega)]; exact q3, by rw [ff, fo 23 (zPt p) (by omega) (by omega) (by omega)]; exact q4, by rw [zplg_n (by omega) (by decide) (by decide)]; exact q5, fun k hk => ?_⟩
      have q := q6 k hk
      generalize hg : zPt p + 2 + 2 * ((hd2 + (if p = 8 then 1 else 0) + k) % 8) = g at q ⊢
      have hg2 : g + 1 ≠ zNd d + 20 := by omega
      unfold zEnt at q ⊢
      rw [t201, t201, t201, t201, ff, ff, ff, ff, fo 26 g (by omega) (by omega) (by omega), fo 27 g (by omega) (by omega) (by omega), fo 28 g (by omega) (by omega) (by omega), fo 29 g (by omega) (by omega) (by omega)]
      exact ⟨q.1, q.2.1, q.2.2.1, q.2.2.2.1, fun j hj => by rw [t201, fa, a1 _ hg2]; exact q.2.2.2.2 j hj⟩
  · obtain ⟨hd2, nb, q1, q2, q3, q4⟩ := h.2.2.2.1.1.2 p hp
    by_cases e : p = d
    · subst e
      exact ⟨hd2, 0, q1, by omega, by rw [ff, fo 25 (zPt p) (by omega) (by omega) (by omega)]; exact q3, by rw [ff]; exact f23⟩
    · have hdis := zPt_dis hp (show d < 8 by omega) e
      exact ⟨hd2, nb, q1, q2, by rw [ff, fo 25 (zPt p) (by omega) (by omega) (by omega)]; exact q3, by rw [ff, fo 23 (zPt p) (by omega) (by omega) (by omega)]; exact q4⟩
  · by_cases e : p = (d : Int)
    · rw [e, zplg_200] at k2
      omega
    · rw [t195 _ e] at p3
      rw [zplg_n e (by decide) (by decide)] at k2
      obtain ⟨o1, o2⟩ := h.2.2.2.1.2 p k p1 p2 p3 k1 k2
      exact ⟨zOK_eq t201 o1, fun q => by rw [t201]; exact o2 q⟩
  · have hnc := zNd_c hi
    have hz : zb v (zNd i + 1) f = zb w (zNd i + 1) f := vb _ _ (by omega) (by omega)
    rw [hz]
    have t204 : ∀ x, zplg s (d : Int) (b : Int) id7 204 x = s 204 x := fun x => zplg_o (by decide)
    have t205 : ∀ x, zplg s (d : Int) (b : Int) id7 205 x = s 205 x := fun x => zplg_o (by decide)
    have t206 : ∀ x, zplg s (d : Int) (b : Int) id7 206 x = s 206 x := fun x => zplg_o (by decide)
    by_cases e : i = d
    · subst e
      have t0 : zplg s (i : Int) (b : Int) id7 203 ((64 * i + f : Nat) : Int) = 0 := zplg_203i (by omega) (by omega)
      rcases h.2.2.2.2.1.1 i f hi hf with q | ⟨g, q1, q2⟩
      · exact Or.inl ⟨q.1, t0⟩
      · obtain ⟨c1, c2, c3, c4, c5, c6, c7, c8, c9, c10, c11, c12, c13⟩ := q2
        have u : ∀ x, 58 ≤ x → x ≤ 63 → x ≠ 62 → zf y x g = zf w x g := fun x x1 x2 x3 => fo x g (by omega) (by omega) (by omega)
        refine Or.inr ⟨g, q1, by rw [fk]; exact c1, by rw [fk]; exact c2, by rw [fl]; exact c3, by rw [fp]; exact c4, by rw [ff, u 58 (by omega) (by omega) (by omega)]; exact c5, c6, c7, c8, by rw [fn]; exact c9, by rw [ff, u 59 (by omega) (by omega) (by omega)]; exact c10, by rw [ff, u 60 (by omega) (by omega) (by omega)]; exact c11, by rw [ff, u 63 (by omega) (by omega) (by omega)]; exact c12, Or.inl ⟨by rw [ff]; exact p62 f g hf q1, t0⟩⟩
    · have t0 : zplg s (d : Int) (b : Int) id7 203 ((64 * i + f : Nat) : Int) = s 203 ((64 * i + f : Nat) : Int) := zplg_203o (by omega)
      rcases h.2.2.2.2.1.1 i f hi hf with q | ⟨g, q1, q2⟩
      · exact Or.inl ⟨q.1, t0.trans q.2⟩
      · refine Or.inr ⟨g, q1, ?_⟩
        have hg : ¬ ∃ j, j < 64 ∧ zb w (zNd d + 1) j = some g := fun q => by
          obtain ⟨j, j1, j2⟩ := q
          rcases h.2.2.2.2.1.1 d j (by omega) j1 with q3 | ⟨g2, q3, q4⟩
          · rw [q3.1] at j2
            cases j2
          · rw [q3] at j2
            cases j2
            have o1 := q2.2.2.2.2.2.1
            have o2 := q4.2.2.2.2.2.1
            omega
        have u : ∀ x, 58 ≤ x → x ≤ 63 → zf y x g = zf w x g := fun x x1 x2 => fo x g (by omega) (by omega) (fun q => hg q.2)
        have g239 : 239 < g := q2.2.2.2.2.2.2.2.1
        unfold zPrt at q2 ⊢
        rw [fk, fk, fl, fp, fn, ff, ff, ff, ff, ff, u 58 (by omega) (by omega), u 59 (by omega) (by omega), u 60 (by omega) (by omega), u 62 (by omega) (by omega), u 63 (by omega) (by omega), t0, t204, t205]
        obtain ⟨c1, c2, c3, c4, c5, c6, c7, c8, c9, c10, c11, c12, c13⟩ := q2
        refine ⟨c1, c2, c3, c4, c5, c6, c7, c8, c9, c10, c11, c12, ?_⟩
        rcases c13 with q | ⟨q, n, n1, n2, n3, n4, n5, n6⟩
        · exact Or.inl q
        · exact Or.inr ⟨q, n, n1, n2, n3, n4, n5, fun j hj => by rw [fa, a1 _ (by omega), t206]; exact n6 j hj⟩
  · obtain ⟨i1, i2, i3, i4⟩ := h.2.2.2.2.1.2 T T1 T2
    refine ⟨?_, by rw [zplg_o (by decide)]; exact i2, by rw [zplg_o (by decide)]; exact i3, fun j j1 j2 => ?_⟩
    · by_cases e : 64 * (d : Int) ≤ T ∧ T < 64 * (d : Int) + 64
      · rw [zplg_203i e.1 e.2]
        omega
      · rw [zplg_203o (by omega)]
        exact i1
    · by_cases e : 64 * (d : Int) ≤ T ∧ T < 64 * (d : Int) + 64
      · rw [zplg_203i e.1 e.2] at j2
        omega
      · rw [zplg_203o (by omega)] at j2
        rw [zplg_o (by decide)]
        exact i4 j j1 j2
  · rw [ff, ff, ff, ff, ff, ff, ff]
    by_cases e : i = d
    · subst e
      rw [f32, f33, f34, f35, f36, f38, f39, zplg_207, zplg_208, zplg_209, zplg_210, zplg_211, zplg_212, zplg_213]
      exact ⟨rfl, rfl, rfl, rfl, rfl, rfl, rfl, fun j hj => by rw [fa, a2 j hj, zplg_214i (by omega) (by omega)]⟩
    · have := zNd_c i2
      have u : ∀ x, 32 ≤ x → x ≤ 39 → zf y x (zNd i) = zf w x (zNd i) := fun x x1 x2 => fo x (zNd i) (by omega) (by omega) (by omega)
      rw [u 32 (by omega) (by omega), u 33 (by omega) (by omega), u 34 (by omega) (by omega), u 35 (by omega) (by omega), u 36 (by omega) (by omega), u 38 (by omega) (by omega), u 39 (by omega) (by omega)]
      have g : ∀ (a : Nat), a ≠ 203 → a ≠ 214 → zplg s (d : Int) (b : Int) id7 a (i : Int) = s a (i : Int) := fun a q1 q2 => zplg_n (by omega) q1 q2
      rw [g 207 (by decide) (by decide), g 208 (by decide) (by decide), g 209 (by decide) (by decide), g 210 (by decide) (by decide), g 211 (by decide) (by decide), g 212 (by decide) (by decide), g 213 (by decide) (by decide)]
      obtain ⟨g1, g2, g3, g4, g5, g6, g7, g8⟩ := h.2.2.2.2.2.2.1.1 i i1 i2
      exact ⟨g1, g2, g3, g4, g5, g6, g7, fun j hj => by rw [fa, a1 _ (by omega), zplg_214o (by omega)]; exact g8 j hj⟩
  · obtain ⟨r1, r2, r3, r4, r5, r6, r7, r8⟩ := h.2.2.2.2.2.2.1.2 i i1 i2
    by_cases e : i = (d : Int)
    · rw [e] at r7 ⊢
      rw [zplg_207, zplg_208, zplg_209, zplg_210, zplg_211, zplg_212, zplg_213]
      exact ⟨by omega, by omega, by omega, by omega, by omega, by omega, by omega, fun j j1 j2 => by rw [zplg_214i (by omega) (by omega)]; omega⟩
    · have g : ∀ (a : Nat), a ≠ 203 → a ≠ 214 → zplg s (d : Int) (b : Int) id7 a i = s a i := fun a q1 q2 => zplg_n e q1 q2
      rw [g 207 (by decide) (by decide), g 208 (by decide) (by decide), g 209 (by decide) (by decide), g 210 (by decide) (by decide), g 211 (by decide) (by decide), g 212 (by decide) (by decide), g 213 (by decide) (by decide)]
      exact ⟨r1, r2, r3, r4, r5, r6, r7, fun j j1 j2 => by rw [zplg_214o (by omega)]; exact r8 j j1 j2⟩
set_option maxHeartbeats 1000000 in
theorem o_op_0 {L : Nat} {xs : Nat → Int} {B : Int} {w : zW} (hb : zBase L xs w) (hP : zPJ B w) (hB : B < 1000000000) (a : Int) (rga : -2147483648 ≤ a ∧ a < 2147483648) (bu : Int) (rgbu : -2147483648 ≤ bu ∧ bu < 2147483648) (x : Int) (rgx : -2147483648 ≤ x ∧ x < 2147483648) : zR 1 0 [some (.inr (some 1)), some (.inl a), some (.inl bu), some (.inl x), none] [] w (fun r w1 => ∃ v, r = some (.inl v) ∧ (zBase L xs w1 → zR 29 0 [some (.inr (some 194)), some (.inl a), some (.inl bu), some (.inl x), none] [] w1 (fun r2 w2 => ∃ v2, r2 = some (.inl v2) ∧ zN v = zN v2 ∧ (zBase L xs w2 → zPJ (B + 1400) w2)))) := by
  obtain ⟨own, s, h, hS⟩ := hP
  by_cases c : 2 ≤ a ∧ a ≤ 6
  · obtain ⟨d, hd0⟩ : ∃ d : Nat, a = (d : Int) := ⟨a.toNat, by omega⟩
    subst hd0
    have hd : d < 7 := by omega
    obtain ⟨n1, n2, n3, n4, n5, n6, n7, n8, n9, n10⟩ := zNd_any hb h.1 hd
    have td : (zN (d : Int)).toNat = d := by rw [zN_of (by omega) (by omega), Int.toNat_natCast]
    have f15 := h.2.1.1.1 d hd
    have r195 := h.2.1.2.2.2.2 (d : Int) (by omega) (by omega)
    by_cases c5 : s 195 (d : Int) = -1
    · by_cases c6 : 0 ≤ bu ∧ bu ≤ 1
      · by_cases c7 : 0 ≤ x ∧ x ≤ 65535
        · obtain ⟨b, hb0⟩ : ∃ b : Nat, bu = (b : Int) := ⟨bu.toNat, by omega⟩
          subst hb0
          have hb2 : b < 2 := by omega
          have tb : (zN (b : Int)).toNat = b := by rw [zN_of (by omega) (by omega), Int.toNat_natCast]
          obtain ⟨m1, m2, m3, m4, m5, m6, m7, m8⟩ := zNd_all hb h.1 (show 1 ≤ d by omega) hd
          have m9 := zb4_at hb h.1 (show 1 ≤ d by omega) hd
          have hpn := zPt_Nd hd
          obtain ⟨y, q1, q2⟩ := C147 (w := w) (h := zNd d) (pt := zPt d) (p := zNd d + 1) (bl := zNd d + 20) (bu := (b : Int)) (id7 := x) m1 m5 n10 n6 n7 n8 (fun i g hi hz => by
            rcases h.2.2.2.2.1.1 d i hd hi with q | ⟨g2, q3, q4⟩
            · rw [q.1] at hz
              cases hz
            · rw [q3] at hz
              cases hz
              exact q4.1) m6 m7 m8 (by omega)
          have S := q2.1
          have hnd := zNd_c hd
          have hby : zBase L xs y := zBase_sf hb S (fun j => q2.2.1 0 (by omega) j)
          have fo := q2.2.2.2.2.2.2
          have hcy : zCon y := zCon_g (l := [1, 2, 3, 4, 6]) (own := own) (s := s) (t := s) ⟨S.1, fun f hf k => fo f k (fun q => hf (by rcases q.2 with e | e | e | e | e | e | e | e <;> rw [e] <;> decide)) (fun q => hf (by rcases q.2 with e | e | e | e | e | e <;> rw [e] <;> decide)) (fun q => hf (by rw [q.1]; decide)), S.2.1, fun k hk j => q2.2.1 k (fun q => hk (by rw [q, ag_bl d (by omega) (by omega)]; decide)) j, S.2.2, fun _ _ _ => rfl⟩ (by decide) h.1
          obtain ⟨k5, f41⟩ := zBus_any hby hcy hb2
          obtain ⟨b1, b2, b3, b4, b5, b6, b7, b8, b9, b10⟩ := zBus_all hby hcy hb2
          have m1y : zk y (zNd d) = 4 ∨ zk y (zNd d) = 8 := by rw [S.k]; exact m1
          have n10y : zk y (zPt d) = 2 := by rw [S.k]; exact n10
          have m5y : zp y 14 (zNd d) = some (zPt d) := by rw [S.p]; exact m5
          have J1 := J_plug hb h (by omega) hb2 c7 c5 q2
          have hb1 : zBase L xs (zsb y (70 + 7 * b + 1) d (some (zPt d))) := by
            obtain ⟨⟨s1, s2, s3⟩, s4, s5⟩ := hby
            exact ⟨⟨s1, s2, s3⟩, s4, s5⟩
          have rq1 : yRQ w (zsb y (70 + 7 * b + 1) d (some (zPt d))) := ⟨fun f f1 f2 => fo f 194 (by omega) (by omega) (by omega), fun k k1 k2 j => q2.2.1 k (by omega) j⟩
          have hc1 : ∀ Q, zR 1 0 [some (.inr (some 1)), some (.inl (d : Int)), some (.inl (b : Int)), some (.inl x), none] [] w Q = Q (some (.inl 1)) (zsb y (70 + 7 * b + 1) d (some (zPt d))) := fun Q => by
            rw [zr_1_0, zr_1_1 (by exact Nat.le_of_ble_eq_true rfl), m_isDev1 (by rw [zN_of (by omega) (by omega)]; omega), Option.toList_some, List.cons_append, List.nil_append, zr_1_4, show zN 1 = 1 by decide, if_neg (by omega), zr_1_7, zr_1_8 (by exact zk_at_1 hb), zcq_1_1 h.1, zr_1_11, zr_1_12 ⟨by show zNC + 2 < zk w 3; rw [zk_at_3 hb]; decide, by show zk w 3 < 1000; rw [zk_at_3 hb]; decide, by rw [zN_of (x := (d : Int)) (by omega) (by omega)]; omega, by rw [zN_of (x := (d : Int)) (by omega) (by omega)]; show _ < ((zl w 3 : Nat) : Int); rw [zl_at_3 hb]; omega⟩, td, n9, zr_1_13m (by exact n1), f15, zr_1_16, zr_1_17, zN_of (x := s 195 (d : Int)) (by omega) (by omega), show zN (-1) = (-1) by decide, if_neg (by omega), zr_1_20, zr_1_21 (by exact Nat.le_of_ble_eq_true rfl), m_isBus1 (by rw [zN_of (by omega) (by omega)]; omega), Option.toList_some, List.cons_append, List.nil_append, zr_1_24, show zN 1 = 1 by decide, if_pos (by omega), zr_1_29, zr_1_30, zN_of (x := x) (by omega) (by omega), if_neg (by omega), zr_1_33, zr_1_34, zr_1_36, zN_of (x := x) (by omega) (by omega), show zN 65535 = 65535 by decide, if_pos (by omega), zr_1_41, zr_1_42 (by exact zk_at_1 hb), zcq_2_1 h.1, zr_1_45, zr_1_46 ⟨by show zNC + 2 < zk w 4; rw [zk_at_4 hb]; decide, by show zk w 4 < 1000; rw [zk_at_4 hb]; decide, by rw [zN_of (x := (d : Int)) (by omega) (by omega)]; omega, by rw [zN_of (x := (d : Int)) (by omega) (by omega)]; show _ < ((zl w 4 : Nat) : Int); rw [zl_at_4 hb]; omega⟩, td, m9, zr_1_47, zr_1_49, zr_1_51, zr_1_52, zr_1_53m (by exact Nat.le_of_ble_eq_true rfl) (by exact m1), q1, Option.toList_none, List.nil_append, zr_1_56, zr_1_57 (by exact zk_at_1 hby), zcq_0_1 hcy, zr_1_60, zr_1_61 ⟨by show zNC + 2 < zk y 2; rw [zk_at_2 hby]; decide, by show zk y 2 < 1000; rw [zk_at_2 hby]; decide, by rw [zN_of (x := (b : Int)) (by omega) (by omega)]; omega, by rw [zN_of (x := (b : Int)) (by omega) (by omega)]; show _ < ((zl y 2 : Nat) : Int); rw [zl_at_2 hby]; omega⟩, tb, b10, zr_1_62 (by exact k5), b1, zr_1_65, zr_1_66, zr_1_68m (by exact m1y), m5y, zr_1_71s ⟨by show zNC + 2 < zk y (70 + 7 * b + 1); rw [b2]; decide, by show zk y (70 + 7 * b + 1) < 1000; rw [b2]; decide, by rw [zN_of (x := (d : Int)) (by omega) (by omega)]; omega, by rw [zN_of (x := (d : Int)) (by omega) (by omega)]; show _ < ((zl y (70 + 7 * b + 1) : Nat) : Int); rw [b3]; omega, by show zAS (zk y (70 + 7 * b + 1)) (zk y (zPt d)) = true; rw [b2, n10y]; decide⟩, td, zr_1_72, zr_1_73 (Or.inr (by decide))]
          have hr1 : ∀ c Q, zKR c → zR 29 0 [some (.inr (some 194)), some (.inl (d : Int)), some (.inl (b : Int)), some (.inl x), none] [] (zmk c s) Q = Q (some (.inl 1)) (zmk c (zplg s (d : Int) (b : Int) x)) := fun c2 Q hc => m_29_go hc c c6 c7 c5
          exact O_fin (G := fun w Q => zR 29 0 [some (.inr (some 194)), some (.inl (d : Int)), some (.inl (b : Int)), some (.inl x), none] [] w Q) hS hc1 hr1 rfl ⟨⟨own, zJ_mono J1 (by omega)⟩, hb1, rq1⟩
        · by_cases c8 : x < 0
          · have hc1 : ∀ Q, zR 1 0 [some (.inr (some 1)), some (.inl (d : Int)), some (.inl bu), some (.inl x), none] [] w Q = Q (some (.inl 0)) w := fun Q => by
              rw [zr_1_0, zr_1_1 (by exact Nat.le_of_ble_eq_true rfl), m_isDev1 (by rw [zN_of (by omega) (by omega)]; omega), Option.toList_some, List.cons_append, List.nil_append, zr_1_4, show zN 1 = 1 by decide, if_neg (by omega), zr_1_7, zr_1_8 (by exact zk_at_1 hb), zcq_1_1 h.1, zr_1_11, zr_1_12 ⟨by show zNC + 2 < zk w 3; rw [zk_at_3 hb]; decide, by show zk w 3 < 1000; rw [zk_at_3 hb]; decide, by rw [zN_of (x := (d : Int)) (by omega) (by omega)]; omega, by rw [zN_of (x := (d : Int)) (by omega) (by omega)]; show _ < ((zl w 3 : Nat) : Int); rw [zl_at_3 hb]; omega⟩, td, n9, zr_1_13m (by exact n1), f15, zr_1_16, zr_1_17, zN_of (x := s 195 (d : Int)) (by omega) (by omega), show zN (-1) = (-1) by decide, if_neg (by omega), zr_1_20, zr_1_21 (by exact Nat.le_of_ble_eq_true rfl), m_isBus1 (by rw [zN_of (by omega) (by omega)]; omega), Option.toList_some, List.cons_append, List.nil_append, zr_1_24, show zN 1 = 1 by decide, if_pos (by omega), zr_1_29, zr_1_30, zN_of (x := x) (by omega) (by omega), if_pos (by omega), zr_1_39, zr_1_40 (Or.inl (by decide))]
            have hr1 : ∀ c Q, zKR c → zR 29 0 [some (.inr (some 194)), some (.inl (d : Int)), some (.inl bu), some (.inl x), none] [] (zmk c s) Q = Q (some (.inl 0)) (zmk c s) := fun c2 Q hc => m_29_n4 hc rga rgbu rgx c c5 c6 c7
            exact O_fin (G := fun w Q => zR 29 0 [some (.inr (some 194)), some (.inl (d : Int)), some (.inl bu), some (.inl x), none] [] w Q) hS hc1 hr1 rfl ⟨⟨own, zJ_mono h (by omega)⟩, hb, yRQ.rf⟩
          · have hc1 : ∀ Q, zR 1 0 [some (.inr (some 1)), some (.inl (d : Int)), some (.inl bu), some (.inl x), none] [] w Q = Q (some (.inl 0)) w := fun Q => by
              rw [zr_1_0, zr_1_1 (by exact Nat.le_of_ble_eq_true rfl), m_isDev1 (by rw [zN_of (by omega) (by omega)]; omega), Option.toList_some, List.cons_append, List.nil_append, zr_1_4, show zN 1 = 1 by decide, if_neg (by omega), zr_1_7, zr_1_8 (by exact zk_at_1 hb), zcq_1_1 h.1, zr_1_11, zr_1_12 ⟨by show zNC + 2 < zk w 3; rw [zk_at_3 hb]; decide, by show zk w 3 < 1000; rw [zk_at_3 hb]; decide, by rw [zN_of (x := (d : Int)) (by omega) (by omega)]; omega, by rw [zN_of (x := (d : Int)) (by omega) (by omega)]; show _ < ((zl w 3 : Nat) : Int); rw [zl_at_3 hb]; omega⟩, td, n9, zr_1_13m (by exact n1), f15, zr_1_16, zr_1_17, zN_of (x := s 195 (d : Int)) (by omega) (by omega), show zN (-1) = (-1) by decide, if_neg (by omega), zr_1_20, zr_1_21 (by exact Nat.le_of_ble_eq_true rfl), m_isBus1 (by rw [zN_of (by omega) (by omega)]; omega), Option.toList_some, List.cons_append, List.nil_append, zr_1_24, show zN 1 = 1 by decide, if_pos (by omega), zr_1_29, zr_1_30, zN_of (x := x) (by omega) (by omega), if_neg (by omega), zr_1_33, zr_1_34, zr_1_36, zN_of (x := x) (by omega) (by omega), show zN 65535 = 65535 by decide, if_neg (by omega), zr_1_39, zr_1_40 (Or.inl (by decide))]
            have hr1 : ∀ c Q, zKR c → zR 29 0 [some (.inr (some 194)), some (.inl (d : Int)), some (.inl bu), some (.inl x), none] [] (zmk c s) Q = Q (some (.inl 0)) (zmk c s) := fun c2 Q hc => m_29_n4 hc rga rgbu rgx c c5 c6 c7
            exact O_fin (G := fun w Q => zR 29 0 [some (.inr (some 194)), some (.inl (d : Int)), some (.inl bu), some (.inl x), none] [] w Q) hS hc1 hr1 rfl ⟨⟨own, zJ_mono h (by omega)⟩, hb, yRQ.rf⟩
      · have hc1 : ∀ Q, zR 1 0 [some (.inr (some 1)), some (.inl (d : Int)), some (.inl bu), some (.inl x), none] [] w Q = Q (some (.inl 0)) w := fun Q => by
          rw [zr_1_0, zr_1_1 (by exact Nat.le_of_ble_eq_true rfl), m_isDev1 (by rw [zN_of (by omega) (by omega)]; omega), Option.toList_some, List.cons_append, List.nil_append, zr_1_4, show zN 1 = 1 by decide, if_neg (by omega), zr_1_7, zr_1_8 (by exact zk_at_1 hb), zcq_1_1 h.1, zr_1_11, zr_1_12 ⟨by show zNC + 2 < zk w 3; rw [zk_at_3 hb]; decide, by show zk w 3 < 1000; rw [zk_at_3 hb]; decide, by rw [zN_of (x := (d : Int)) (by omega) (by omega)]; omega, by rw [zN_of (x := (d : Int)) (by omega) (by omega)]; show _ < ((zl w 3 : Nat) : Int); rw [zl_at_3 hb]; omega⟩, td, n9, zr_1_13m (by exact n1), f15, zr_1_16, zr_1_17, zN_of (x := s 195 (d : Int)) (by omega) (by omega), show zN (-1) = (-1) by decide, if_neg (by omega), zr_1_20, zr_1_21 (by exact Nat.le_of_ble_eq_true rfl), m_isBus0 (by rw [zN_of (by omega) (by omega)]; omega), Option.toList_some, List.cons_append, List.nil_append, zr_1_24, show zN 0 = 0 by decide, if_neg (by omega), zr_1_27, zr_1_28 (Or.inl (by decide))]
        have hr1 : ∀ c Q, zKR c → zR 29 0 [some (.inr (some 194)), some (.inl (d : Int)), some (.inl bu), some (.inl x), none] [] (zmk c s) Q = Q (some (.inl 0)) (zmk c s) := fun c2 Q hc => m_29_n3 hc rga rgbu rgx c c5 c6
        exact O_fin (G := fun w Q => zR 29 0 [some (.inr (some 194)), some (.inl (d : Int)), some (.inl bu), some (.inl x), none] [] w Q) hS hc1 hr1 rfl ⟨⟨own, zJ_mono h (by omega)⟩, hb, yRQ.rf⟩
    · have hc1 : ∀ Q, zR 1 0 [some (.inr (some 1)), some (.inl (d : Int)), some (.inl bu), some (.inl x), none] [] w Q = Q (some (.inl 0)) w := fun Q => by
        rw [zr_1_0, zr_1_1 (by exact Nat.le_of_ble_eq_true rfl), m_isDev1 (by rw [zN_of (by omega) (by omega)]; omega), Option.toList_some, List.cons_append, List.nil_append, zr_1_4, show zN 1 = 1 by decide, if_neg (by omega), zr_1_7, zr_1_8 (by exact zk_at_1 hb), zcq_1_1 h.1, zr_1_11, zr_1_12 ⟨by show zNC + 2 < zk w 3; rw [zk_at_3 hb]; decide, by show zk w 3 < 1000; rw [zk_at_3 hb]; decide, by rw [zN_of (x := (d : Int)) (by omega) (by omega)]; omega, by rw [zN_of (x := (d : Int)) (by omega) (by omega)]; show _ < ((zl w 3 : Nat) : Int); rw [zl_at_3 hb]; omega⟩, td, n9, zr_1_13m (by exact n1), f15, zr_1_16, zr_1_17, zN_of (x := s 195 (d : Int)) (by omega) (by omega), show zN (-1) = (-1) by decide, if_pos (by omega), zr_1_27, zr_1_28 (Or.inl (by decide))]
      have hr1 : ∀ c Q, zKR c → zR 29 0 [some (.inr (some 194)), some (.inl (d : Int)), some (.inl bu), some (.inl x), none] [] (zmk c s) Q = Q (some (.inl 0)) (zmk c s) := fun c2 Q hc => m_29_n2 hc rga rgbu rgx c (by omega)
      exact O_fin (G := fun w Q => zR 29 0 [some (.inr (some 194)), some (.inl (d : Int)), some (.inl bu), some (.inl x), none] [] w Q) hS hc1 hr1 rfl ⟨⟨own, zJ_mono h (by omega)⟩, hb, yRQ.rf⟩
  · have hc1 : ∀ Q, zR 1 0 [some (.inr (some 1)), some (.inl a), some (.inl bu), some (.inl x), none] [] w Q = Q (some (.inl 0)) w := fun Q => by
      rw [zr_1_0, zr_1_1 (by exact Nat.le_of_ble_eq_true rfl), m_isDev0 (by rw [zN_of (by omega) (by omega)]; omega), Option.toList_some, List.cons_append, List.nil_append, zr_1_4, show zN 0 = 0 by decide, if_pos (by omega), zr_1_27, zr_1_28 (Or.inl (by decide))]
    have hr1 : ∀ c Q, zKR c → zR 29 0 [some (.inr (some 194)), some (.inl a), some (.inl bu), some (.inl x), none] [] (zmk c s) Q = Q (some (.inl 0)) (zmk c s) := fun c2 Q hc => m_29_n1 hc rga rgbu rgx c
    exact O_fin (G := fun w Q => zR 29 0 [some (.inr (some 194)), some (.inl a), some (.inl bu), some (.inl x), none] [] w Q) hS hc1 hr1 rfl ⟨⟨own, zJ_mono h (by omega)⟩, hb, yRQ.rf⟩
