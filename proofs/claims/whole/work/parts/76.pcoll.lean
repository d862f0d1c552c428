-- both sides together: a packet is put together with what came before
def zPkt (s : zSt) (w : zW) (k : Nat) : Prop := zf w 26 k = s 228 0 ∧ zf w 27 k = s 228 1 ∧ zf w 28 k = s 228 2 ∧ zf w 29 k = s 228 3 ∧ ∀ j : Nat, (j : Int) < s 228 3 → za w (k + 1) j = s 228 (4 + (j : Int))
theorem gT_upd {own : Nat → Nat} {s t : zSt} {w v : zW} {d f g : Nat} (h : gT own s w) (hd : d < 7) (hf : f < 64) (hbg : zb w (zNd d + 1) f = some g) (hp : zPrt own s w (64 * d + f) f g) (hS : zSF w v) (hvf : ∀ f2 k, k ≠ g → zf v f2 k = zf w f2 k) (hva : ∀ k, k ≠ g + 1 → ∀ j, za v k j = za w k j) (ht : ∀ a, a = 203 ∨ a = 204 ∨ a = 205 → ∀ x : Int, x ≠ ((64 * d + f : Nat) : Int) → t a x = s a x) (ht6 : ∀ x : Int, (x < 32 * ((64 * d + f : Nat) : Int) ∨ 32 * ((64 * d + f : Nat) : Int) + 32 ≤ x) → t 206 x = s 206 x) (hn : zPrt own t v (64 * d + f) f g) : gT own t v := by
  intro d2 f2 hd2 hf2
  rw [hS.b]
  by_cases q : d2 = d ∧ f2 = f
  · obtain ⟨q1, q2⟩ := q
    subst q1
    subst q2
    exact Or.inr ⟨g, hbg, hn⟩
  · have hne : ((64 * d2 + f2 : Nat) : Int) ≠ ((64 * d + f : Nat) : Int) := by omega
    rw [ht 203 (Or.inl rfl) _ hne]
    rcases h d2 f2 hd2 hf2 with h1 | ⟨g2, h1, h2⟩
    · exact Or.inl h1
    · refine Or.inr ⟨g2, h1, ?_⟩
      obtain ⟨a1, a2, a3, a4, a5, a6, a7, a8, a9, a10, a11, a12, a13⟩ := h2
      obtain ⟨b1, b2, b3, b4, b5, b6, b7, -⟩ := hp
      have hg : g2 ≠ g := fun e => by rw [e] at a6; omega
      unfold zPrt
      rw [hS.k, hS.k, hS.l, hS.p, hS.n, hvf 58 g2 hg, hvf 59 g2 hg, hvf 60 g2 hg, hvf 62 g2 hg, hvf 63 g2 hg, ht 203 (Or.inl rfl) _ hne, ht 204 (Or.inr (Or.inl rfl)) _ hne, ht 205 (Or.inr (Or.inr rfl)) _ hne]
      refine ⟨a1, a2, a3, a4, a5, a6, a7, a8, a9, a10, a11, a12, ?_⟩
      rcases a13 with b | ⟨c1, n, c2, c3, c4, c5, c6, c7⟩
      · exact Or.inl b
      · refine Or.inr ⟨c1, n, c2, c3, c4, c5, c6, fun j hj => ?_⟩
        rw [hva (g2 + 1) (by omega), ht6 _ (by omega)]
        exact c7 j hj
-- frames of putting together
def yFp (own : Nat → Nat) (w v : zW) : Prop := zSF w v ∧ (∀ f h, fg f ≠ 4 → zf v f h = zf w f h) ∧ (∀ h, ag own h ≠ 4 → ∀ j, za v h j = za w h j)
theorem zDf_T {own : Nat → Nat} {s t : zSt} {w v : zW} (h : yFp own w v) (ht : ∀ a, sg a ≠ 4 → ∀ x, t a x = s a x) : zDf 4 own w v s t := ⟨h.1.1, fun f hf k => h.2.1 f k hf, h.1.2.1, fun k hk j => h.2.2 k hk j, h.1.2.2, ht⟩
theorem iT_upd {s t : zSt} {S : Nat} (h : iT s) (ht : ∀ a, a = 203 ∨ a = 204 ∨ a = 205 → ∀ x : Int, x ≠ (S : Int) → t a x = s a x) (ht6 : ∀ x : Int, (x < 32 * (S : Int) ∨ 32 * (S : Int) + 32 ≤ x) → t 206 x = s 206 x) (r3 : 0 ≤ t 203 (S : Int) ∧ t 203 (S : Int) ≤ 33) (r4 : 0 ≤ t 204 (S : Int) ∧ t 204 (S : Int) ≤ 15) (r5 : 0 ≤ t 205 (S : Int) ∧ t 205 (S : Int) ≤ 3) (r6 : ∀ j : Int, 0 ≤ j → j + 1 < t 203 (S : Int) → 0 ≤ t 206 (32 * (S : Int) + j) ∧ t 206 (32 * (S : Int) + j) ≤ 255) : iT t := by
  intro x x1 x2
  by_cases q : x = (S : Int)
  · subst q
    exact ⟨r3, r4, r5, r6⟩
  · obtain ⟨a1, a2, a3, a4⟩ := h x x1 x2
    rw [ht 203 (Or.inl rfl) x q, ht 204 (Or.inr (Or.inl rfl)) x q, ht 205 (Or.inr (Or.inr rfl)) x q]
    refine ⟨a1, a2, a3, fun j j1 j2 => ?_⟩
    rw [ht6 _ (by omega)]
    exact a4 j j1 j2
theorem sg4 {a : Nat} (h : sg a ≠ 4) : a ≠ 203 ∧ a ≠ 204 ∧ a ≠ 205 ∧ a ≠ 206 := ⟨fun q => h (by rw [q]; rfl), fun q => h (by rw [q]; rfl), fun q => h (by rw [q]; rfl), fun q => h (by rw [q]; rfl)⟩
-- what comes out: either nothing more, or a message in the part at g
def zWh (own : Nat → Nat) (s t : zSt) (v : zW) (d f g : Nat) (kd n : Nat) : Prop := zk v g = 9 ∧ zp v 61 g = some (g + 1) ∧ zk v (g + 1) = 12 ∧ zl v (g + 1) = 32 ∧ zf v 58 g = (f : Int) ∧ zf v 59 g = (kd : Int) ∧ kd < 16 ∧ zf v 60 g = (n : Int) ∧ 1 ≤ n ∧ n ≤ 32 ∧ own (g + 1) < 448 ∧ 239 < g ∧ t 111 0 = (n : Int) ∧ (∀ j : Nat, j < n → za v (g + 1) j = t 229 (j : Int)) ∧ (∀ j : Int, 0 ≤ j → j < n → 0 ≤ t 229 j ∧ t 229 j ≤ 255)
theorem fg4 {f : Nat} (h : fg f ≠ 4) : f ≠ 58 ∧ f ≠ 59 ∧ f ≠ 60 ∧ f ≠ 62 ∧ f ≠ 63 := ⟨fun q => h (by rw [q]; rfl), fun q => h (by rw [q]; rfl), fun q => h (by rw [q]; rfl), fun q => h (by rw [q]; rfl), fun q => h (by rw [q]; rfl)⟩
set_option maxHeartbeats 2000000 in
theorem P_collect {B : Int} {e : Nat} {own : Nat → Nat} {s : zSt} {w : zW} (h : zJ0 B e own s w) {d f g k : Nat} (hd : d < 7) (hf : f < 64) (hbg : zb w (zNd d + 1) f = some g) (k3 : zk w k = 3) (k30 : zp w 30 k = some (k + 1)) (kk : zk w (k + 1) = 12) (kl : zl w (k + 1) = 8) (hkg : k + 1 ≤ 239) (hpk : zPkt s w k) (hf1 : s 228 1 = (f : Int)) {fl ln : Nat} (hfl : s 228 2 = (fl : Int)) (hfl2 : fl < 256) (hln : s 228 3 = (ln : Int)) (hln1 : 1 ≤ ln) (hln8 : ln ≤ 8) (hby : ∀ j : Int, 0 ≤ j → j < ln → 0 ≤ s 228 (4 + j) ∧ s 228 (4 + j) ≤ 255) :
    (∃ v t, (∀ Q, zR 126 0 [some (.inr (some g)), some (.inr (some k))] [] w Q = Q (some (.inl 0)) v) ∧ (∀ c Q, zKR c → zR 44 0 [some (.inr (some 194)), some (.inl (d : Int)), none, none, none, none, none, none] [] (zmk c s) Q = Q none (zmk c t)) ∧ zJ0 B e own t v ∧ yFp own w v ∧ (∀ a, sg a ≠ 4 → ∀ x, t a x = s a x))
    ∨ (∃ v t kd n, (∀ Q, zR 126 0 [some (.inr (some g)), some (.inr (some k))] [] w Q = Q (some (.inl 1)) v) ∧ (∀ c Q w2, zKR c → (∀ Q, zR 41 0 [some (.inr (some 194)), some (.inl (d : Int)), some (.inl (f : Int)), some (.inl ((kd : Nat) : Int)), none] [] (zmk c t) Q = Q none w2) → zR 44 0 [some (.inr (some 194)), some (.inl (d : Int)), none, none, none, none, none, none] [] (zmk c s) Q = Q none w2) ∧ zJ0 B e own t v ∧ yFp own w v ∧ (∀ a, sg a ≠ 4 → a ≠ 111 → a ≠ 229 → ∀ x, t a x = s a x) ∧ zWh own s t v d f g kd n) := by
  obtain ⟨p26, p27, p28, p29, pby⟩ := hpk
  have f28 : zf w 28 k = (fl : Int) := p28.trans hfl
  have f29 : zf w 29 k = (ln : Int) := p29.trans hln
  have hP : zPrt own s w (64 * d + f) f g := by
    rcases h.2.2.2.2.1.1 d f hd hf with q | ⟨g2, q1, q2⟩
    · rw [hbg] at q
      cases q.1
    · rw [hbg] at q1
      cases q1
      exact q2
  have hP0 := hP
  obtain ⟨a1, a2, a3, a4, a5, a6, a7, a8, a9, a10, a11, a12, a13⟩ := hP
  obtain ⟨i1, i2, i3, i4⟩ := h.2.2.2.2.1.2 ((64 * d + f : Nat) : Int) (by omega) (by omega)
  have hag : ag own (g + 1) = 4 := ag_T (by omega) (by omega)
  have hgk : k + 1 ≠ g + 1 := by omega
  -- the new part stands in the relation
  have hok : ∀ (v : zW) (t : zSt) (N kd : Nat) (nd x : Int) (m : Int → Int), zSF w v → (∀ f2 k2, f2 ≠ 59 → f2 ≠ 60 → f2 ≠ 62 → f2 ≠ 63 → zf v f2 k2 = zf w f2 k2) → (∀ f2 k2, k2 ≠ g → zf v f2 k2 = zf w f2 k2) → (∀ k2, k2 ≠ g + 1 → ∀ j, za v k2 j = za w k2 j) → (0 ≤ zf v 59 g ∧ zf v 59 g ≤ 15) → (0 ≤ zf v 60 g ∧ zf v 60 g ≤ 32) → (0 ≤ zf v 63 g ∧ zf v 63 g ≤ 3) → (∀ a, a ≠ 203 → a ≠ 204 → a ≠ 205 → a ≠ 206 → ∀ y, t a y = s a y) → (∀ a, a = 203 ∨ a = 204 ∨ a = 205 → ∀ y : Int, y ≠ ((64 * d + f : Nat) : Int) → t a y = s a y) → (∀ y : Int, (y < 32 * ((64 * d + f : Nat) : Int) ∨ 32 * ((64 * d + f : Nat) : Int) + 32 ≤ y) → t 206 y = s 206 y) → (0 ≤ t 204 ((64 * d + f : Nat) : Int) ∧ t 204 ((64 * d + f : Nat) : Int) ≤ 15) → (0 ≤ t 205 ((64 * d + f : Nat) : Int) ∧ t 205 ((64 * d + f : Nat) : Int) ≤ 3) →
      ((zf v 62 g = 0 ∧ t 203 ((64 * d + f : Nat) : Int) = 0) ∨ (zf v 62 g = 1 ∧ (1 ≤ N ∧ N ≤ 32) ∧ t 203 ((64 * d + f : Nat) : Int) = (N : Int) + 1 ∧ zf v 60 g = (N : Int) ∧ zf v 59 g = t 204 ((64 * d + f : Nat) : Int) ∧ zf v 63 g = t 205 ((64 * d + f : Nat) : Int) ∧ (∀ j, j < N → za v (g + 1) j = t 206 (32 * ((64 * d + f : Nat) : Int) + (j : Int))) ∧ (∀ j : Int, 0 ≤ j → j < N → 0 ≤ t 206 (32 * ((64 * d + f : Nat) : Int) + j) ∧ t 206 (32 * ((64 * d + f : Nat) : Int) + j) ≤ 255))) → zJ0 B e own t v ∧ yFp own w v := by
    intro v t N kd nd x m vS v1 v2 v3 v4 v5 v6 t1 t2 t3 t4 t5 hor
    have F : yFp own w v := ⟨vS, fun f2 k2 h4 => v1 f2 k2 (fg4 h4).2.1 (fg4 h4).2.2.1 (fg4 h4).2.2.2.1 (fg4 h4).2.2.2.2, fun k2 h4 j => v3 k2 (fun q => h4 (by rw [q]; exact hag)) j⟩
    refine ⟨zJ_T h (zDf_T F (fun a ha y => t1 a (sg4 ha).1 (sg4 ha).2.1 (sg4 ha).2.2.1 (sg4 ha).2.2.2 y)) ⟨gT_upd h.2.2.2.2.1.1 hd hf hbg hP0 vS v2 v3 t2 t3 ?_, iT_upd (S := 64 * d + f) h.2.2.2.2.1.2 t2 t3 ?_ t4 t5 ?_⟩, F⟩
    · refine ⟨by rw [vS.k]; exact a1, by rw [vS.k]; exact a2, by rw [vS.l]; exact a3, by rw [vS.p]; exact a4, by rw [v1 58 g (by decide) (by decide) (by decide) (by decide)]; exact a5, a6, a7, a8, by rw [vS.n]; exact a9, v4, v5, v6, ?_⟩
      rcases hor with q | ⟨q1, q2, q3, q4, q5, q6, q7, q8⟩
      · exact Or.inl q
      · exact Or.inr ⟨q1, N, q2, q3, q4, q5, q6, q7⟩
    · rcases hor with q | ⟨q1, q2, q3, q4, q5, q6, q7, q8⟩
      · rw [q.2]; omega
      · rw [q3]; omega
    · intro j j1 j2
      rcases hor with q | ⟨q1, q2, q3, q4, q5, q6, q7, q8⟩
      · rw [q.2] at j2; omega
      · exact q8 j j1 (by rw [q3] at j2; omega)
  -- a part that is given up
  have hno : ∀ t : zSt, (∀ a, a ≠ 203 → a ≠ 205 → ∀ y, t a y = s a y) → (∀ a, a = 203 ∨ a = 204 ∨ a = 205 → ∀ y : Int, y ≠ ((64 * d + f : Nat) : Int) → t a y = s a y) → t 203 ((64 * d + f : Nat) : Int) = 0 → (0 ≤ t 205 ((64 * d + f : Nat) : Int) ∧ t 205 ((64 * d + f : Nat) : Int) ≤ 3) → zJ0 B e own t (zsf w 62 g 0) ∧ yFp own w (zsf w 62 g 0) := by
    intro t t1 t2 t3 t5
    refine hok (zsf w 62 g 0) t 0 0 0 0 (fun _ => 0) ⟨rfl, rfl, rfl⟩ (fun f2 k2 _ _ q _ => u_f_ne q) (fun f2 k2 q => u_f_nh q) (fun _ _ _ => rfl) ?_ ?_ ?_ (fun a q1 _ q3 _ y => t1 a q1 q3 y) t2 (fun y _ => t1 206 (by decide) (by decide) y) ?_ t5 (Or.inl ⟨u_f_eq, t3⟩)
    · rw [u_f_ne (by decide)]; exact a10
    · rw [u_f_ne (by decide)]; exact a11
    · rw [u_f_ne (by decide)]; exact a12
    · rw [t1 204 (by decide) (by decide)]; exact i2
  -- what the reference makes of it, out of a state u at the point behind the looking
  have hend : ∀ (u : zSt) (n0 : Nat), (∀ a, a ≠ 203 → a ≠ 204 → ∀ y, u a y = s a y) → (∀ a, a = 203 ∨ a = 204 → ∀ y : Int, y ≠ ((64 * d + f : Nat) : Int) → u a y = s a y) → u 203 ((64 * d + f : Nat) : Int) = (n0 : Int) + 1 → u 204 ((64 * d + f : Nat) : Int) = ((fl % 16 : Nat) : Int) → n0 + ln ≤ 32 → (∀ j : Int, 0 ≤ j → j < n0 → 0 ≤ s 206 (32 * ((64 * d + f : Nat) : Int) + j) ∧ s 206 (32 * ((64 * d + f : Nat) : Int) + j) ≤ 255) → (∀ j : Nat, j < n0 → za w (g + 1) j = s 206 (32 * ((64 * d + f : Nat) : Int) + (j : Int))) →
      (∀ c Q, zKR c → zR 44 0 [some (.inr (some 194)), some (.inl (d : Int)), none, none, none, none, none, none] [] (zmk c s) Q = zR 44 109 [some (.inr (some 194)), some (.inl (d : Int)), some (.inl (f : Int)), some (.inl ((64 * d + f : Nat) : Int)), some (.inl (fl : Int)), some (.inl ((fl / 16 % 4 : Nat) : Int)), none, none] [] (zmk c u) Q) →
      (∀ X : Int, (X = 1 ∧ fl / 64 % 2 = 0) ∨ (X = 0 ∧ ¬ fl / 64 % 2 = 0) → ∃ v, (∀ Q, zR 126 0 [some (.inr (some g)), some (.inr (some k))] [] w Q = Q (some (.inl (1 - X))) v) ∧ zSF w v ∧ (∀ f2 k2, f2 ≠ 59 → f2 ≠ 60 → f2 ≠ 62 → f2 ≠ 63 → zf v f2 k2 = zf w f2 k2) ∧ (∀ f2 k2, k2 ≠ g → zf v f2 k2 = zf w f2 k2) ∧ (∀ k2, k2 ≠ g + 1 → ∀ j, za v k2 j = za w k2 j) ∧ zf v 59 g = ((fl % 16 : Nat) : Int) ∧ zf v 60 g = ((n0 + ln : Nat) : Int) ∧ zf v 63 g = (((fl / 16 % 4 + 1) % 4 : Nat) : Int) ∧ zf v 62 g = X ∧ (∀ j, j < n0 → za v (g + 1) j = za w (g + 1) j) ∧ (∀ j, n0 ≤ j → j < n0 + ln → za v (g + 1) j = za w (k + 1) (j - n0))) →
      (∃ v t, (∀ Q, zR 126 0 [some (.inr (some g)), some (.inr (some k))] [] w Q = Q (some (.inl 0)) v) ∧ (∀ c Q, zKR c → zR 44 0 [some (.inr (some 194)), some (.inl (d : Int)), none, none, none, none, none, none] [] (zmk c s) Q = Q none (zmk c t)) ∧ zJ0 B e own t v ∧ yFp own w v ∧ (∀ a, sg a ≠ 4 → ∀ x, t a x = s a x))
      ∨ (∃ v t kd n, (∀ Q, zR 126 0 [some (.inr (some g)), some (.inr (some k))] [] w Q = Q (some (.inl 1)) v) ∧ (∀ c Q w2, zKR c → (∀ Q, zR 41 0 [some (.inr (some 194)), some (.inl (d : Int)), some (.inl (f : Int)), some (.inl ((kd : Nat) : Int)), none] [] (zmk c t) Q = Q none w2) → zR 44 0 [some (.inr (some 194)), some (.inl (d : Int)), none, none, none, none, none, none] [] (zmk c s) Q = Q none w2) ∧ zJ0 B e own t v ∧ yFp own w v ∧ (∀ a, sg a ≠ 4 → a ≠ 111 → a ≠ 229 → ∀ x, t a x = s a x) ∧ zWh own s t v d f g kd n) := by
    intro u n0 u1 u2 u3 u4 u5 u6 u7 hrf hcl
    have hl3 : u 228 3 = (ln : Int) := (u1 228 (by decide) (by decide) 3).trans hln
    -- the state with the packet in it
    have z3 : zjb u ((64 * d + f : Nat) : Int) (n0 : Int) (ln : Int) (((fl / 16 % 4 + 1) % 4 : Nat) : Int) 203 ((64 * d + f : Nat) : Int) = ((n0 + ln : Nat) : Int) + 1 := by rw [zjb, zv_eq]; omega
    have z4 : zjb u ((64 * d + f : Nat) : Int) (n0 : Int) (ln : Int) (((fl / 16 % 4 + 1) % 4 : Nat) : Int) 204 ((64 * d + f : Nat) : Int) = ((fl % 16 : Nat) : Int) := by rw [zjb, zv_ne (by decide), zpt_ne (by decide), zv_ne (by decide)]; exact u4
    have z5 : zjb u ((64 * d + f : Nat) : Int) (n0 : Int) (ln : Int) (((fl / 16 % 4 + 1) % 4 : Nat) : Int) 205 ((64 * d + f : Nat) : Int) = (((fl / 16 % 4 + 1) % 4 : Nat) : Int) := by rw [zjb, zv_ne (by decide), zpt_ne (by decide), zv_eq]
    have zo : ∀ a, a ≠ 203 → a ≠ 204 → a ≠ 205 → a ≠ 206 → ∀ y, zjb u ((64 * d + f : Nat) : Int) (n0 : Int) (ln : Int) (((fl / 16 % 4 + 1) % 4 : Nat) : Int) a y = s a y := fun a q1 q2 q3 q4 y => by
      rw [zjb, zv_ne q1, zpt_ne q4, zv_ne q3]
      exact u1 a q1 q2 y
    have zi : ∀ a, a = 203 ∨ a = 204 ∨ a = 205 → ∀ y : Int, y ≠ ((64 * d + f : Nat) : Int) → zjb u ((64 * d + f : Nat) : Int) (n0 : Int) (ln : Int) (((fl / 16 % 4 + 1) % 4 : Nat) : Int) a y = s a y := fun a ha y hy => by
      rw [zjb, zv_nj hy, zpt_ne (by omega), zv_nj hy]
      rcases ha with q | q | q
      · exact u2 a (Or.inl q) y hy
      · exact u2 a (Or.inr q) y hy
      · exact u1 a (by omega) (by omega) y
    have z6o : ∀ y : Int, (y < 32 * ((64 * d + f : Nat) : Int) ∨ 32 * ((64 * d + f : Nat) : Int) + 32 ≤ y) → zjb u ((64 * d + f : Nat) : Int) (n0 : Int) (ln : Int) (((fl / 16 % 4 + 1) % 4 : Nat) : Int) 206 y = s 206 y := fun y hy => by
      rw [zjb, zv_ne (by decide), zpt_o (by omega), zv_ne (by decide)]
      exact u1 206 (by decide) (by decide) y
    have z6a : ∀ j : Int, 0 ≤ j → j < n0 → zjb u ((64 * d + f : Nat) : Int) (n0 : Int) (ln : Int) (((fl / 16 % 4 + 1) % 4 : Nat) : Int) 206 (32 * ((64 * d + f : Nat) : Int) + j) = s 206 (32 * ((64 * d + f : Nat) : Int) + j) := fun j j1 j2 => by
      rw [zjb, zv_ne (by decide), zpt_o (by omega), zv_ne (by decide)]
      exact u1 206 (by decide) (by decide) _
    have z6b : ∀ j : Int, n0 ≤ j → j < n0 + ln → zjb u ((64 * d + f : Nat) : Int) (n0 : Int) (ln : Int) (((fl / 16 % 4 + 1) % 4 : Nat) : Int) 206 (32 * ((64 * d + f : Nat) : Int) + j) = s 228 (4 + (j - n0)) := fun j j1 j2 => by
      rw [zjb, zv_ne (by decide), zpt_i (by omega) (by omega), u1 228 (by decide) (by decide)]
      congr 1
      omega
    have z6r : ∀ j : Int, 0 ≤ j → j < ((n0 + ln : Nat) : Int) → 0 ≤ zjb u ((64 * d + f : Nat) : Int) (n0 : Int) (ln : Int) (((fl / 16 % 4 + 1) % 4 : Nat) : Int) 206 (32 * ((64 * d + f : Nat) : Int) + j) ∧ zjb u ((64 * d + f : Nat) : Int) (n0 : Int) (ln : Int) (((fl / 16 % 4 + 1) % 4 : Nat) : Int) 206 (32 * ((64 * d + f : Nat) : Int) + j) ≤ 255 := fun j j1 j2 => by
      by_cases q : j < n0
      · rw [z6a j j1 q]
        exact u6 j j1 q
      · rw [z6b j (by omega) (by omega)]
        exact hby _ (by omega) (by omega)
    have hdn : 0 ≤ (((fl / 16 % 4 + 1) % 4 : Nat) : Int) ∧ (((fl / 16 % 4 + 1) % 4 : Nat) : Int) ≤ 3 := by omega
    by_cases hm : fl / 64 % 2 = 0
    · obtain ⟨v, c0, c1, c2, c3, c4, c5, c6, c7, c8, c9, c10⟩ := hcl 1 (Or.inl ⟨rfl, hm⟩)
      refine Or.inl ⟨v, zjb u ((64 * d + f : Nat) : Int) (n0 : Int) (ln : Int) (((fl / 16 % 4 + 1) % 4 : Nat) : Int), c0, fun c Q hc => ?_, ?_⟩
      · rw [hrf c Q hc, m_44_109 hc (by omega) hfl2 hl3 (by omega) u3 (by omega) (by omega), m_44_more hc hfl2 hm]
      · have hj6 : ∀ j, j < n0 + ln → za v (g + 1) j = zjb u ((64 * d + f : Nat) : Int) (n0 : Int) (ln : Int) (((fl / 16 % 4 + 1) % 4 : Nat) : Int) 206 (32 * ((64 * d + f : Nat) : Int) + (j : Int)) := fun j hj => by
          by_cases q : j < n0
          · rw [c9 j q, z6a _ (by omega) (by omega)]
            exact u7 j q
          · rw [c10 j (by omega) hj, z6b _ (by omega) (by omega), pby (j - n0) (by rw [hln]; omega)]
            congr 1
            omega
        obtain ⟨J, F⟩ := hok v (zjb u ((64 * d + f : Nat) : Int) (n0 : Int) (ln : Int) (((fl / 16 % 4 + 1) % 4 : Nat) : Int)) (n0 + ln) 0 0 0 (fun _ => 0) c1 c2 c3 c4 (by omega) (by omega) (by omega) zo zi z6o (by rw [z4]; omega) (by rw [z5]; exact hdn) (Or.inr ⟨c8, by omega, z3, c6, c5.trans z4.symm, c7.trans z5.symm, hj6, z6r⟩)
        exact ⟨J, F, fun a ha x => zo a (sg4 ha).1 (sg4 ha).2.1 (sg4 ha).2.2.1 (sg4 ha).2.2.2 x⟩
    · obtain ⟨v, c0, c1, c2, c3, c4, c5, c6, c7, c8, c9, c10⟩ := hcl 0 (Or.inr ⟨rfl, hm⟩)
      have y1 : ∀ a, a ≠ 111 → a ≠ 229 → ∀ y, zjl (zjb u ((64 * d + f : Nat) : Int) (n0 : Int) (ln : Int) (((fl / 16 % 4 + 1) % 4 : Nat) : Int)) ((64 * d + f : Nat) : Int) ((n0 + ln : Nat) : Int) a y = zv (zjb u ((64 * d + f : Nat) : Int) (n0 : Int) (ln : Int) (((fl / 16 % 4 + 1) % 4 : Nat) : Int)) 203 ((64 * d + f : Nat) : Int) 0 a y := fun a q1 q9 y => by
        rw [zjl, zpt_ne q9]
        by_cases q : a = 203
        · subst q
          by_cases q2 : y = ((64 * d + f : Nat) : Int)
          · rw [q2, zv_eq, zv_eq]
          · rw [zv_nj q2, zv_nj q2, zv_ne (by decide)]
        · rw [zv_ne q, zv_ne q1, zv_ne q]
      obtain ⟨J, F⟩ := hok v (zv (zjb u ((64 * d + f : Nat) : Int) (n0 : Int) (ln : Int) (((fl / 16 % 4 + 1) % 4 : Nat) : Int)) 203 ((64 * d + f : Nat) : Int) 0) 0 0 0 0 (fun _ => 0) c1 c2 c3 c4 (by omega) (by omega) (by omega) (fun a q1 q2 q3 q4 y => by rw [zv_ne q1]; exact zo a q1 q2 q3 q4 y) (fun a ha y hy => by rw [zv_nj hy]; exact zi a ha y hy) (fun y hy => by rw [zv_ne (by decide)]; exact z6o y hy) (by rw [zv_ne (by decide), z4]; omega) (by rw [zv_ne (by decide), z5]; exact hdn) (Or.inl ⟨c8, zv_eq⟩)
      have e229 : ∀ j : Int, 0 ≤ j → j < ((n0 + ln : Nat) : Int) → zjl (zjb u ((64 * d + f : Nat) : Int) (n0 : Int) (ln : Int) (((fl / 16 % 4 + 1) % 4 : Nat) : Int)) ((64 * d + f : Nat) : Int) ((n0 + ln : Nat) : Int) 229 j = zjb u ((64 * d + f : Nat) : Int) (n0 : Int) (ln : Int) (((fl / 16 % 4 + 1) % 4 : Nat) : Int) 206 (32 * ((64 * d + f : Nat) : Int) + j) := fun j j1 j2 => by
        rw [zjl, zpt_i j1 (by omega)]
      refine Or.inr ⟨v, zjl (zjb u ((64 * d + f : Nat) : Int) (n0 : Int) (ln : Int) (((fl / 16 % 4 + 1) % 4 : Nat) : Int)) ((64 * d + f : Nat) : Int) ((n0 + ln : Nat) : Int), fl % 16, n0 + ln, c0, fun c Q w2 hc hcall => ?_, zJ_0 J (zst_df0 (zF0_t y1)), F, fun a ha q1 q9 x => ?_, by rw [c1.k]; exact a1, by rw [c1.p]; exact a4, by rw [c1.k]; exact a2, by rw [c1.l]; exact a3, by rw [c2 58 g (by decide) (by decide) (by decide) (by decide)]; exact a5, c5, by omega, c6, by omega, by omega, by omega, a8, ?_, fun j hj => ?_, fun j j1 j2 => ?_⟩
      · rw [hrf c Q hc, m_44_109 hc (by omega) hfl2 hl3 (by omega) u3 (by omega) (by omega)]
        exact m_44_last hc hfl2 (by omega) (by omega) z3 (by omega) z4 hcall
      · rw [y1 a q1 q9, zv_ne (sg4 ha).1]
        exact zo a (sg4 ha).1 (sg4 ha).2.1 (sg4 ha).2.2.1 (sg4 ha).2.2.2 x
      · rw [zjl, zpt_ne (by decide), zv_ne (by decide), zv_eq]
      · rw [e229 _ (by omega) (by omega)]
        by_cases q : j < n0
        · rw [c9 j q, z6a _ (by omega) (by omega)]
          exact u7 j q
        · rw [c10 j (by omega) hj, z6b _ (by omega) (by omega), pby (j - n0) (by rw [hln]; omega)]
          congr 1
          omega
      · rw [e229 j j1 j2]
        exact z6r j j1 j2
  by_cases h128 : fl < 128
  · -- goes on, or not
    have op : zf w 62 g = 0 ∨ zf w 62 g = 1 := by
      rcases a13 with q | q
      · exact Or.inl q.1
      · exact Or.inr q.1
    obtain ⟨n0, hn0⟩ : ∃ n0 : Nat, zf w 60 g = (n0 : Int) := ⟨(zf w 60 g).toNat, by omega⟩
    have hn32 : n0 ≤ 32 := by omega
    by_cases hgood : zf w 62 g = 1 ∧ zf w 59 g = ((fl % 16 : Nat) : Int) ∧ zf w 63 g = ((fl / 16 % 4 : Nat) : Int) ∧ n0 + ln ≤ 32
    · obtain ⟨g1, g2, g3, g4⟩ := hgood
      rcases a13 with q | ⟨q1, n, q2, q3, q4, q5, q6, q7⟩
      · have := q.1; omega
      have en : n = n0 := by omega
      subst en
      refine hend s n (fun _ _ _ _ => rfl) (fun _ _ _ _ => rfl) q3 (by rw [← q5]; exact g2) g4 (fun j j1 j2 => i4 j j1 (by omega)) q7 (fun c Q hc => m_44_cont hc (by omega) hf1 (by omega) hfl hfl2 (by omega) (by omega) h128 i1 i2 i3 ⟨by omega, by rw [← q5]; exact g2, by rw [← q6]; exact g3⟩) (fun X hX => ?_)
      rcases hX with ⟨hX, hm⟩ | ⟨hX, hm⟩
      · subst hX
        refine ⟨_, fun Q => m_126_cont_more k3 k30 kk kl a1 a4 a2 a3 f28 hfl2 f29 hln8 rfl a10 rfl a12 hn0 hn32 rfl h128 ⟨g1, g2, g3, g4⟩ hm, ⟨rfl, rfl, rfl⟩, fun f2 k2 b1 b2 b3 b4 => ?_, fun f2 k2 b1 => ?_, fun k2 b1 j => ?_, ?_, ?_, ?_, ?_, fun j hj => ?_, fun j j1 j2 => ?_⟩
        · rw [u_f_ne b3, u_f_ne b4, u_f_ne b2, u_f_cp]
        · rw [u_f_nh b1, u_f_nh b1, u_f_nh b1, u_f_cp]
        · rw [u_a_sf, u_a_sf, u_a_sf, u_a_cp b1]
        · rw [u_f_ne (by decide), u_f_ne (by decide), u_f_ne (by decide), u_f_cp]; exact g2
        · rw [u_f_ne (by decide), u_f_ne (by decide), u_f_eq]
        · rw [u_f_ne (by decide), u_f_eq]
        · rw [u_f_eq]
        · rw [u_a_sf, u_a_sf, u_a_sf, u_a_cpo (by omega)]
        · rw [u_a_sf, u_a_sf, u_a_sf, u_a_cpi ⟨j1, j2⟩, Nat.zero_add]
      · subst hX
        refine ⟨_, fun Q => m_126_cont_last k3 k30 kk kl a1 a4 a2 a3 f28 hfl2 f29 hln8 rfl a10 rfl a12 hn0 hn32 rfl h128 ⟨g1, g2, g3, g4⟩ hm, ⟨rfl, rfl, rfl⟩, fun f2 k2 b1 b2 b3 b4 => ?_, fun f2 k2 b1 => ?_, fun k2 b1 j => ?_, ?_, ?_, ?_, ?_, fun j hj => ?_, fun j j1 j2 => ?_⟩
        · rw [u_f_ne b3, u_f_ne b4, u_f_ne b2, u_f_cp]
        · rw [u_f_nh b1, u_f_nh b1, u_f_nh b1, u_f_cp]
        · rw [u_a_sf, u_a_sf, u_a_sf, u_a_cp b1]
        · rw [u_f_ne (by decide), u_f_ne (by decide), u_f_ne (by decide), u_f_cp]; exact g2
        · rw [u_f_ne (by decide), u_f_ne (by decide), u_f_eq]
        · rw [u_f_ne (by decide), u_f_eq]
        · rw [u_f_eq]
        · rw [u_a_sf, u_a_sf, u_a_sf, u_a_cpo (by omega)]
        · rw [u_a_sf, u_a_sf, u_a_sf, u_a_cpi ⟨j1, j2⟩, Nat.zero_add]
    · -- not
      have hc : ∀ Q, zR 126 0 [some (.inr (some g)), some (.inr (some k))] [] w Q = Q (some (.inl 0)) (zsf w 62 g 0) := fun Q => m_126_no k3 k30 kk kl a1 a4 a2 a3 f28 hfl2 f29 hln8 rfl a10 rfl a12 hn0 hn32 rfl op h128 hgood
      by_cases hb : s 203 ((64 * d + f : Nat) : Int) = 0 ∨ s 204 ((64 * d + f : Nat) : Int) ≠ ((fl % 16 : Nat) : Int) ∨ s 205 ((64 * d + f : Nat) : Int) ≠ ((fl / 16 % 4 : Nat) : Int)
      · obtain ⟨J, F⟩ := hno (zv s 203 ((64 * d + f : Nat) : Int) 0) (fun a q1 _ y => zv_ne q1) (fun a _ y hy => zv_nj hy) zv_eq (by rw [zv_ne (by decide)]; exact i3)
        exact Or.inl ⟨_, _, hc, fun c Q hc => m_44_bad hc (by omega) hf1 (by omega) hfl hfl2 (by omega) (by omega) h128 i1 i2 i3 hb, J, F, fun a ha x => zv_ne (sg4 ha).1⟩
      · rcases a13 with q | ⟨q1, n, q2, q3, q4, q5, q6, q7⟩
        · exact absurd (Or.inl q.2) hb
        · have en : n = n0 := by omega
          subst en
          have hov : 32 < n + ln := by
            by_cases q : n + ln ≤ 32
            · exact absurd ⟨q1, by rw [q5]; omega, by rw [q6]; omega, q⟩ hgood
            · omega
          obtain ⟨J, F⟩ := hno (zv (zv s 205 ((64 * d + f : Nat) : Int) (((fl / 16 % 4 + 1) % 4 : Nat) : Int)) 203 ((64 * d + f : Nat) : Int) 0) (fun a b1 b2 y => by rw [zv_ne b1, zv_ne b2]) (fun a _ y hy => by rw [zv_nj hy, zv_nj hy]) zv_eq (by rw [zv_ne (by decide), zv_eq]; omega)
          refine Or.inl ⟨_, _, hc, fun c Q hc => ?_, J, F, fun a ha x => by rw [zv_ne (sg4 ha).1, zv_ne (sg4 ha).2.2.1]⟩
          rw [m_44_cont hc (by omega) hf1 (by omega) hfl hfl2 (by omega) (by omega) h128 i1 i2 i3 (by omega), m_44_over hc (h := (n : Int)) (by omega) hfl2 hln (by omega) q3 (by omega) (by omega)]
  · -- a first packet
    refine hend (zv (zv s 203 ((64 * d + f : Nat) : Int) 1) 204 ((64 * d + f : Nat) : Int) ((fl % 16 : Nat) : Int)) 0 (fun a b1 b2 y => by rw [zv_ne b2, zv_ne b1]) (fun a _ y hy => by rw [zv_nj hy, zv_nj hy]) (by rw [zv_ne (by decide), zv_eq]; rfl) zv_eq (by omega) (fun j j1 j2 => by omega) (fun j hj => by omega) (fun c Q hc => m_44_first hc (by omega) hf1 (by omega) hfl hfl2 (by omega) (by omega) (by omega)) (fun X hX => ?_)
    rcases hX with ⟨hX, hm⟩ | ⟨hX, hm⟩
    · subst hX
      refine ⟨_, fun Q => m_126_first_more k3 k30 kk kl a1 a4 a2 a3 f28 hfl2 f29 hln8 h128 hm, ⟨rfl, rfl, rfl⟩, fun f2 k2 b1 b2 b3 b4 => ?_, fun f2 k2 b1 => ?_, fun k2 b1 j => ?_, ?_, ?_, ?_, ?_, fun j hj => by omega, fun j j1 j2 => ?_⟩
      · rw [u_f_ne b3, u_f_ne b4, u_f_ne b2, u_f_cp, u_f_ne b3, u_f_ne b2, u_f_ne b1]
      · rw [u_f_nh b1, u_f_nh b1, u_f_nh b1, u_f_cp, u_f_nh b1, u_f_nh b1, u_f_nh b1]
      · rw [u_a_sf, u_a_sf, u_a_sf, u_a_cp b1]
        rfl
      · rw [u_f_ne (by decide), u_f_ne (by decide), u_f_ne (by decide), u_f_cp, u_f_ne (by decide), u_f_ne (by decide), u_f_eq]
      · rw [u_f_ne (by decide), u_f_ne (by decide), u_f_eq]
        omega
      · rw [u_f_ne (by decide), u_f_eq]
      · rw [u_f_eq]
      · rw [u_a_sf, u_a_sf, u_a_sf, u_a_cpi ⟨by omega, by omega⟩, Nat.zero_add]
        rfl
    · subst hX
      refine ⟨_, fun Q => m_126_first_last k3 k30 kk kl a1 a4 a2 a3 f28 hfl2 f29 hln8 h128 hm, ⟨rfl, rfl, rfl⟩, fun f2 k2 b1 b2 b3 b4 => ?_, fun f2 k2 b1 => ?_, fun k2 b1 j => ?_, ?_, ?_, ?_, ?_, fun j hj => by omega, fun j j1 j2 => ?_⟩
      · rw [u_f_ne b3, u_f_ne b4, u_f_ne b2, u_f_cp, u_f_ne b3, u_f_ne b2, u_f_ne b1]
      · rw [u_f_nh b1, u_f_nh b1, u_f_nh b1, u_f_cp, u_f_nh b1, u_f_nh b1, u_f_nh b1]
      · rw [u_a_sf, u_a_sf, u_a_sf, u_a_cp b1]
        rfl
      · rw [u_f_ne (by decide), u_f_ne (by decide), u_f_ne (by decide), u_f_cp, u_f_ne (by decide), u_f_ne (by decide), u_f_eq]
      · rw [u_f_ne (by decide), u_f_ne (by decide), u_f_eq]
        omega
      · rw [u_f_ne (by decide), u_f_eq]
      · rw [u_f_eq]
      · rw [u_a_sf, u_a_sf, u_a_sf, u_a_cpi ⟨by omega, by omega⟩, Nat.zero_add]
        rfl
