-- loops: worlds that differ in some int arrays alone
def zOnly (H : List Nat) (w v : zW) : Prop := v.1 = w.1 ∧ v.2.1 = w.2.1 ∧ v.2.2.1 = w.2.2.1 ∧ v.2.2.2.2 = w.2.2.2.2 ∧ ∀ g, g ∉ H → ∀ j, za v g j = za w g j
theorem zOnly.rf {H : List Nat} {w : zW} : zOnly H w w := ⟨rfl, rfl, rfl, rfl, fun _ _ _ => rfl⟩
theorem zOnly.sa {H : List Nat} {w v : zW} {h j : Nat} {x : Int} (ho : zOnly H w v) (hh : h ∈ H) : zOnly H w (zsa v h j x) :=
  ⟨ho.1, ho.2.1, ho.2.2.1, ho.2.2.2.1, fun g hg k => by rw [zsa_old (fun e => hg (by rw [e]; exact hh))]; exact ho.2.2.2.2 g hg k⟩
theorem zOnly.k {H : List Nat} {w v : zW} (ho : zOnly H w v) (h : Nat) : zk v h = zk w h := congrArg (fun q : zS => q.2.2.1 h) ho.1
theorem zOnly.l {H : List Nat} {w v : zW} (ho : zOnly H w v) (h : Nat) : zl v h = zl w h := congrArg (fun q : zS => q.2.2.2 h) ho.1
theorem zOnly.n {H : List Nat} {w v : zW} (ho : zOnly H w v) : zn v = zn w := congrArg (fun q : zS => q.1) ho.1
theorem zOnly.s {H : List Nat} {w v : zW} (ho : zOnly H w v) : zsl v = zsl w := congrArg (fun q : zS => q.2.1) ho.1
theorem zOnly.f {H : List Nat} {w v : zW} (ho : zOnly H w v) (f h : Nat) : zf v f h = zf w f h := congrArg (fun q => q f h) ho.2.1
theorem zOnly.p {H : List Nat} {w v : zW} (ho : zOnly H w v) (f h : Nat) : zp v f h = zp w f h := congrArg (fun q => q f h) ho.2.2.1
theorem zOnly.b {H : List Nat} {w v : zW} (ho : zOnly H w v) (h j : Nat) : zb v h j = zb w h j := congrArg (fun q => q h j) ho.2.2.2.1
theorem m_fill {w : zW} {Q : Option zV → zW → Prop} {h n : Nat} {v : Int} (hk : zk w h = zNC) (hl : zl w h = n) (hn : n ≤ 100000) (hq : ∀ w', zOnly [h] w w' → Q none w') : zR 157 0 [some (.inr (some h)), some (.inl v), none, none] [] w Q := by
  have hz := zNC_lt
  have key : ∀ (m i : Nat) (u : zW), m + i = n → zOnly [h] w u → zR 157 5 [some (.inr (some h)), some (.inl v), some (.inl (i : Int)), some (.inl (n : Int))] [] u Q := by
    intro m
    induction m with
    | zero =>
      intro i u hi ho
      rw [zr_157_5, zr_157_6, zr_157_7, zN_of (x := (n : Int)) (by omega) (by omega), zN_of (x := (i : Int)) (by omega) (by omega), if_pos (by omega), zr_157_20]
      exact hq u ho
    | succ m ih =>
      intro i u hi ho
      have e1 : zN (i : Int) = i := zN_of (by omega) (by omega)
      rw [zr_157_5, zr_157_6, zr_157_7, zN_of (x := (n : Int)) (by omega) (by omega), e1, if_neg (by omega), zr_157_10, zr_157_11, zr_157_12, zr_157_13 ⟨by rw [ho.k, hk], by omega, by rw [ho.l, hl, e1]; omega⟩, zr_157_14, zr_157_17]
      exact ih (i + 1) _ (by omega) (ho.sa List.mem_cons_self)
  rw [zr_157_0, zr_157_1, zr_157_2, zr_157_3 ⟨by omega, by omega⟩, hl, zr_157_4]
  exact key n 0 w (by omega) zOnly.rf
theorem m_forget0 {w : zW} {Q : Option zV → zW → Prop} {h p : Nat} (hk : zk w h = 8) (hp : zp w 16 h = some p) (kp : zNC + 2 < zk w p ∧ zk w p < 1000) (lp : zl w p = 64) (h0 : ∀ j, j < 64 → zb w p j = none) (hq : Q none w) : zR 115 0 [some (.inr (some h)), none] [] w Q := by
  have key : ∀ (m i : Nat), m + i = 64 → zR 115 2 [some (.inr (some h)), some (.inl (i : Int))] [] w Q := by
    intro m
    induction m with
    | zero =>
      intro i hi
      rw [zr_115_2, zr_115_3, zr_115_5, zN_of (x := (64 : Int)) (by omega) (by omega), zN_of (x := (i : Int)) (by omega) (by omega), if_pos (by omega), zr_115_33]
      exact hq
    | succ m ih =>
      intro i hi
      have e1 : zN (i : Int) = i := zN_of (by omega) (by omega)
      rw [zr_115_2, zr_115_3, zr_115_5, zN_of (x := (64 : Int)) (by omega) (by omega), e1, if_neg (by omega), zr_115_8, zr_115_9c8 hk, hp, zr_115_12, zr_115_13 ⟨kp.1, kp.2, by omega, by rw [lp, e1]; omega⟩, e1, Int.toNat_natCast, h0 i (by omega), zr_115_14n, zr_115_27, zr_115_30]
      exact ih (i + 1) (by omega)
  rw [zr_115_0, zr_115_1]
  exact key 64 0 (by omega)
theorem m_29_92 {w : zW} {Q : Option zV → zW → Prop} {d : Int} {l2 l3 : Option zV} (hd : 0 ≤ d ∧ d ≤ 6) (k1 : zk w 194 = 11) (p1 : zp w 81 194 = some 203) (k2 : zk w 203 = 12) (l1 : zl w 203 = 448)
    (hq : ∀ w', zOnly [203] w w' → zR 29 118 [some (.inr (some 194)), some (.inl d), l2, l3, some (.inl (64 * d + 64))] [] w' Q) : zR 29 92 [some (.inr (some 194)), some (.inl d), l2, l3, some (.inl (64 * d))] [] w Q := by
  have hNC : zNC = 12 := rfl
  have key : ∀ (m : Nat) (i : Int) (u : zW), (m : Int) + i = 64 → 0 ≤ i → zOnly [203] w u → zR 29 92 [some (.inr (some 194)), some (.inl d), l2, l3, some (.inl (64 * d + i))] [] u Q := by
    intro m
    induction m with
    | zero =>
      intro i u hi h0 ho
      rw [zr_29_92, zr_29_94, zr_29_96, zr_29_97, zr_29_98, zr_29_100, zr_29_101, zN_of (x := 64 * d + 64) (by omega) (by omega), zN_of (x := 64 * d + i) (by omega) (by omega), if_pos (by omega), show i = 64 by omega]
      exact hq u ho
    | succ m ih =>
      intro i u hi h0 ho
      have e1 : zN (64 * d + i) = 64 * d + i := zN_of (by omega) (by omega)
      rw [zr_29_92, zr_29_94, zr_29_96, zr_29_97, zr_29_98, zr_29_100, zr_29_101, zN_of (x := 64 * d + 64) (by omega) (by omega), e1, if_neg (by omega), zr_29_104, zr_29_105 (by rw [ho.k, k1]), ho.p, p1, zr_29_108, zr_29_110, zr_29_111 ⟨by rw [ho.k, k2], by omega, by rw [ho.l, l1, e1]; omega⟩, zr_29_112, zr_29_115, show 64 * d + i + 1 = 64 * d + (i + 1) by omega]
      exact ih (i + 1) _ (by omega) (by omega) (ho.sa List.mem_cons_self)
  have h := key 64 0 w (by omega) (by omega) zOnly.rf
  rw [show 64 * d + 0 = 64 * d by omega] at h
  exact h
theorem m_29_177 {w : zW} {Q : Option zV → zW → Prop} {d : Int} {l2 l3 : Option zV} (hd : 0 ≤ d ∧ d ≤ 6) (k1 : zk w 194 = 11) (p1 : zp w 92 194 = some 214) (k2 : zk w 214 = 12) (l1 : zl w 214 = 168)
    (hq : ∀ w', zOnly [214] w w' → zR 29 203 [some (.inr (some 194)), some (.inl d), l2, l3, some (.inl (24 * d + 24))] [] w' Q) : zR 29 177 [some (.inr (some 194)), some (.inl d), l2, l3, some (.inl (24 * d))] [] w Q := by
  have hNC : zNC = 12 := rfl
  have key : ∀ (m : Nat) (i : Int) (u : zW), (m : Int) + i = 24 → 0 ≤ i → zOnly [214] w u → zR 29 177 [some (.inr (some 194)), some (.inl d), l2, l3, some (.inl (24 * d + i))] [] u Q := by
    intro m
    induction m with
    | zero =>
      intro i u hi h0 ho
      rw [zr_29_177, zr_29_179, zr_29_181, zr_29_182, zr_29_183, zr_29_185, zr_29_186, zN_of (x := 24 * d + 24) (by omega) (by omega), zN_of (x := 24 * d + i) (by omega) (by omega), if_pos (by omega), show i = 24 by omega]
      exact hq u ho
    | succ m ih =>
      intro i u hi h0 ho
      have e1 : zN (24 * d + i) = 24 * d + i := zN_of (by omega) (by omega)
      rw [zr_29_177, zr_29_179, zr_29_181, zr_29_182, zr_29_183, zr_29_185, zr_29_186, zN_of (x := 24 * d + 24) (by omega) (by omega), e1, if_neg (by omega), zr_29_189, zr_29_190 (by rw [ho.k, k1]), ho.p, p1, zr_29_193, zr_29_195, zr_29_196 ⟨by rw [ho.k, k2], by omega, by rw [ho.l, l1, e1]; omega⟩, zr_29_197, zr_29_200, show 24 * d + i + 1 = 24 * d + (i + 1) by omega]
      exact ih (i + 1) _ (by omega) (by omega) (ho.sa List.mem_cons_self)
  have h := key 24 0 w (by omega) (by omega) zOnly.rf
  rw [show 24 * d + 0 = 24 * d by omega] at h
  exact h
