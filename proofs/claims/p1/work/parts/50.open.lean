-- the reference's part of the world is left alone
def zRP (w v : zW) : Prop := ∀ h, 194 ≤ h → h ≤ 239 → (∀ f, zf v f h = zf w f h) ∧ (∀ f, zp v f h = zp w f h) ∧ (∀ j, za v h j = za w h j) ∧ (∀ j, zb v h j = zb w h j)
theorem zRP.rf {w : zW} : zRP w w := fun _ _ _ => ⟨fun _ => rfl, fun _ => rfl, fun _ => rfl, fun _ => rfl⟩
theorem zRP.tr {w v u : zW} (h1 : zRP w v) (h2 : zRP v u) : zRP w u := fun h a b => ⟨fun f => ((h2 h a b).1 f).trans ((h1 h a b).1 f), fun f => ((h2 h a b).2.1 f).trans ((h1 h a b).2.1 f), fun j => ((h2 h a b).2.2.1 j).trans ((h1 h a b).2.2.1 j), fun j => ((h2 h a b).2.2.2 j).trans ((h1 h a b).2.2.2 j)⟩
theorem zRP.sf {w v : zW} {f g : Nat} {x : Int} (ho : zRP w v) (hg : g < 194 ∨ 239 < g) : zRP w (zsf v f g x) := fun h a b => ⟨fun e => (u_f_nh (by omega)).trans ((ho h a b).1 e), (ho h a b).2.1, (ho h a b).2.2.1, (ho h a b).2.2.2⟩
theorem zRP.sp {w v : zW} {f g : Nat} {x : Option Nat} (ho : zRP w v) (hg : g < 194 ∨ 239 < g) : zRP w (zsp v f g x) := fun h a b => ⟨(ho h a b).1, fun e => (u_p_nh (by omega)).trans ((ho h a b).2.1 e), (ho h a b).2.2.1, (ho h a b).2.2.2⟩
theorem zRP.sa {w v : zW} {g k : Nat} {x : Int} (ho : zRP w v) (hg : g < 194 ∨ 239 < g) : zRP w (zsa v g k x) := fun h a b => ⟨(ho h a b).1, (ho h a b).2.1, fun j => (u_a_ne (by omega)).trans ((ho h a b).2.2.1 j), (ho h a b).2.2.2⟩
theorem zRP.sb {w v : zW} {g k : Nat} {x : Option Nat} (ho : zRP w v) (hg : g < 194 ∨ 239 < g) : zRP w (zsb v g k x) := fun h a b => ⟨(ho h a b).1, (ho h a b).2.1, (ho h a b).2.2.1, fun j => (u_b_ne (by omega)).trans ((ho h a b).2.2.2 j)⟩
theorem u_k_cp {w : zW} {h sp g dp n i : Nat} : zk (zcp w h sp g dp n) i = zk w i := rfl
theorem u_l_cp {w : zW} {h sp g dp n i : Nat} : zl (zcp w h sp g dp n) i = zl w i := rfl
theorem u_f_cp {w : zW} {h sp g dp n f i : Nat} : zf (zcp w h sp g dp n) f i = zf w f i := rfl
theorem u_p_cp {w : zW} {h sp g dp n f i : Nat} : zp (zcp w h sp g dp n) f i = zp w f i := rfl
theorem u_b_cp {w : zW} {h sp g dp n i j : Nat} : zb (zcp w h sp g dp n) i j = zb w i j := rfl
theorem u_a_cp {w : zW} {h sp g dp n i j : Nat} (hi : i ≠ g) : za (zcp w h sp g dp n) i j = za w i j := if_neg hi
theorem u_a_cpi {w : zW} {h sp g dp n j : Nat} (hj : dp ≤ j ∧ j < dp + n) : za (zcp w h sp g dp n) g j = za w h (sp + (j - dp)) := (if_pos rfl).trans (if_pos hj)
theorem u_a_cpo {w : zW} {h sp g dp n j : Nat} (hj : ¬ (dp ≤ j ∧ j < dp + n)) : za (zcp w h sp g dp n) g j = za w g j := (if_pos rfl).trans (if_neg hj)
theorem zRP.cp {w v : zW} {s sp g dp n : Nat} (ho : zRP w v) (hg : g < 194 ∨ 239 < g) : zRP w (zcp v s sp g dp n) := fun h a b => ⟨(ho h a b).1, (ho h a b).2.1, fun j => (u_a_cp (by omega)).trans ((ho h a b).2.2.1 j), (ho h a b).2.2.2⟩
theorem u_k_nw {w : zW} {k n h : Nat} (hh : h ≠ zn w + 1) : zk (znew w k n) h = zk w h := if_neg hh
theorem u_l_nw {w : zW} {k n h : Nat} (hh : h ≠ zn w + 1) : zl (znew w k n) h = zl w h := if_neg hh
theorem u_f_nw {w : zW} {k n f h : Nat} (hh : h ≠ zn w + 1) : zf (znew w k n) f h = zf w f h := if_neg hh
theorem u_p_nw {w : zW} {k n f h : Nat} (hh : h ≠ zn w + 1) : zp (znew w k n) f h = zp w f h := if_neg hh
theorem u_a_nw {w : zW} {k n h j : Nat} (hh : h ≠ zn w + 1) : za (znew w k n) h j = za w h j := if_neg hh
theorem u_b_nw {w : zW} {k n h j : Nat} (hh : h ≠ zn w + 1) : zb (znew w k n) h j = zb w h j := if_neg hh
theorem u_k_nwn {w : zW} {k n : Nat} : zk (znew w k n) (zn w + 1) = k := if_pos rfl
theorem u_l_nwn {w : zW} {k n : Nat} : zl (znew w k n) (zn w + 1) = n := if_pos rfl
theorem u_n_nw {w : zW} {k n : Nat} : zn (znew w k n) = zn w + 1 := rfl
theorem u_s_nw {w : zW} {k n : Nat} : zsl (znew w k n) = zsl w + n := rfl
theorem zRP.nw {w v : zW} {k n : Nat} (ho : zRP w v) (hn : 239 ≤ zn v) : zRP w (znew v k n) := fun h a b => ⟨fun f => (u_f_nw (by omega)).trans ((ho h a b).1 f), fun f => (u_p_nw (by omega)).trans ((ho h a b).2.1 f), fun j => (u_a_nw (by omega)).trans ((ho h a b).2.2.1 j), fun j => (u_b_nw (by omega)).trans ((ho h a b).2.2.2 j)⟩
theorem zRP.snd {w : zW} {p a b : Nat} {t kd : Int} {src n q : Nat} (hp : p + 17 < 194) : ∀ i, zRP w (zsnd w p a b t kd src n q i)
  | 0 => zRP.rf
  | i + 1 => zRP.tr (zRP.snd hp i) (zRP.cp (zRP.sf (zRP.sf (zRP.sf (zRP.sf (zRP.sf zRP.rf (by omega)) (by omega)) (by omega)) (by omega)) (by omega)) (by omega))
-- a copy of the first n elements of an int array
def zCO (w v : zW) (h n : Nat) : Prop := v.1 = (znew w zNC n).1 ∧ v.2.1 = (znew w zNC n).2.1 ∧ v.2.2.1 = (znew w zNC n).2.2.1 ∧ v.2.2.2.2 = (znew w zNC n).2.2.2.2 ∧ (∀ j, j < n → za v (zn w + 1) j = za w h j) ∧ (∀ i, i ≠ zn w + 1 → ∀ j, za v i j = za w i j)
theorem zCO.k {w v : zW} {h n : Nat} (ho : zCO w v h n) (i : Nat) : zk v i = zk (znew w zNC n) i := congrArg (fun q : zS => q.2.2.1 i) ho.1
theorem zCO.l {w v : zW} {h n : Nat} (ho : zCO w v h n) (i : Nat) : zl v i = zl (znew w zNC n) i := congrArg (fun q : zS => q.2.2.2 i) ho.1
theorem zCO.n {w v : zW} {h n : Nat} (ho : zCO w v h n) : zn v = zn w + 1 := congrArg (fun q : zS => q.1) ho.1
theorem zCO.s {w v : zW} {h n : Nat} (ho : zCO w v h n) : zsl v = zsl w + n := congrArg (fun q : zS => q.2.1) ho.1
theorem zCO.f {w v : zW} {h n : Nat} (ho : zCO w v h n) (f i : Nat) : zf v f i = zf (znew w zNC n) f i := congrArg (fun q => q f i) ho.2.1
theorem zCO.p {w v : zW} {h n : Nat} (ho : zCO w v h n) (f i : Nat) : zp v f i = zp (znew w zNC n) f i := congrArg (fun q => q f i) ho.2.2.1
theorem zCO.b {w v : zW} {h n : Nat} (ho : zCO w v h n) (i j : Nat) : zb v i j = zb (znew w zNC n) i j := congrArg (fun q => q i j) ho.2.2.2.1
theorem zCO.rp {w v : zW} {h n : Nat} (ho : zCO w v h n) (hn : 239 ≤ zn w) : zRP w v := fun i a b => ⟨fun f => (ho.f f i).trans (u_f_nw (by omega)), fun f => (ho.p f i).trans (u_p_nw (by omega)), fun j => ho.2.2.2.2.2 i (by omega) j, fun j => (ho.b i j).trans (u_b_nw (by omega))⟩
theorem m_156 {w : zW} {Q : Option zV → zW → Prop} {h n : Nat} (hk : zk w h = zNC) (hh : h ≠ zn w + 1) (hn : n ≤ zl w h) (hl : zl w h ≤ 1000) (hq : ∀ v, zCO w v h n → Q (some (.inr (some (zn w + 1)))) v) : zR 156 0 [some (.inr (some h)), some (.inl (n : Int)), none] [] w Q := by
  have hz := zNC_lt
  have en : zN (n : Int) = n := zN_of (by omega) (by omega)
  have el : zN (zl w h : Int) = zl w h := zN_of (by omega) (by omega)
  rw [zr_156_0, zr_156_1, zr_156_2 ⟨by omega, by omega⟩, zr_156_3, en, el]
  by_cases h0 : n = zl w h
  · rw [if_neg (by omega), zr_156_6, zr_156_7 ⟨hk, by exact Nat.le_of_ble_eq_true rfl⟩, zr_156_10 (by exact if_pos rfl), zr_156_13]
    refine hq _ ⟨by rw [h0]; rfl, by rw [h0]; rfl, by rw [h0]; rfl, by rw [h0]; rfl, fun j hj => if_pos rfl, fun i hi j => if_neg hi⟩
  · have tn : (zN (n : Int)).toNat = n := by rw [en, Int.toNat_natCast]
    have z0 : zN 0 = 0 := by decide
    have t0 : (zN 0).toNat = 0 := by decide
    rw [if_pos (by omega), zr_156_14, zr_156_15 ⟨by omega, by omega⟩, tn, zr_156_17, zr_156_18, zr_156_19, zr_156_20, zr_156_21, zr_156_22, zr_156_23 ⟨by rw [u_k_nw hh]; omega, by rw [u_k_nw hh]; omega⟩, u_l_nw hh, zr_156_24, zr_156_25 (by exact Nat.le_of_ble_eq_true rfl), en, el, if_pos (by omega),
      zr_156_28 ⟨by rw [u_k_nw hh, hk], u_k_nwn, by rw [z0]; decide, by rw [z0]; decide, by omega, by rw [z0, en, u_l_nw hh]; omega, by rw [z0, en, u_l_nwn]; omega, by exact Nat.le_of_ble_eq_true rfl⟩, tn, t0, zr_156_31, zr_156_32]
    refine hq _ ⟨rfl, rfl, rfl, rfl, fun j hj => ?_, fun i hi j => ?_⟩
    · rw [u_a_cpi ⟨by omega, by omega⟩, u_a_nw hh, Nat.zero_add, Nat.sub_zero]
    · rw [u_a_cp hi, u_a_nw hi]
-- a new request
def zRq (w : zW) (h : Nat) (e t : Int) (x : Option Nat) : zW := zsp (zsf (zsf (zsf (zsf (zsf (zsp (znew w zNC 32) 67 h (some (zn w + 1))) 69 h 1) 70 h 30) 71 h 1) 64 h e) 65 h t) 66 h x
theorem m_134 {w : zW} {Q : Option zV → zW → Prop} {h : Nat} {e t : Int} {x : Option Nat} (hk : zk w h = 10) (hh : h ≠ zn w + 1) : zR 134 0 [some (.inr (some h)), some (.inl e), some (.inl t), some (.inr x)] [] w Q = Q none (zRq w h e t x) := by
  have hk2 : zk (znew w zNC 32) h = 10 := by rw [u_k_nw hh, hk]
  have t32 : (zN 32).toNat = 32 := by decide
  rw [zr_134_0, zr_134_1 (by exact Nat.le_of_ble_eq_true rfl), zr_134_4, zr_134_5, zr_134_7 (by decide), t32, zr_134_9 hk2, zr_134_12, zr_134_13, zr_134_14 (by exact hk2), zr_134_17, zr_134_18, zr_134_20 (by exact hk2), zr_134_23, zr_134_24, zr_134_25 (by exact hk2), zr_134_28, zr_134_29, zr_134_30 (by exact hk2), zr_134_33, zr_134_34, zr_134_35 (by exact hk2), zr_134_38, zr_134_39, zr_134_40 (by exact hk2), zr_134_43]
  rfl
theorem zRP.rq {w v : zW} {h : Nat} {e t : Int} {x : Option Nat} (ho : zRP w v) (hn : 239 ≤ zn v) (hh : 239 < h) : zRP w (zRq v h e t x) :=
  zRP.sp (zRP.sf (zRP.sf (zRP.sf (zRP.sf (zRP.sf (zRP.sp (zRP.nw ho hn) (by omega)) (by omega)) (by omega)) (by omega)) (by omega)) (by omega)) (by omega)
-- the manager opens request r
def zOpen (v : zW) (r : Nat) (a : Int) : zW := zsf (zsb (zRq (znew v 10 8) (zn v + 1) a ((r % 8 : Nat) : Int) (some (zn v))) 29 r (some (zn v + 1))) 13 5 ((r : Int) + 1)
theorem zOpen_k {v : zW} {r : Nat} {a : Int} {h : Nat} (hh : h ≤ zn v) : zk (zOpen v r a) h = zk v h := by
  show zk (znew (znew v 10 8) zNC 32) h = _
  rw [u_k_nw (by show h ≠ zn v + 1 + 1; omega), u_k_nw (by omega)]
theorem zOpen_l {v : zW} {r : Nat} {a : Int} {h : Nat} (hh : h ≤ zn v) : zl (zOpen v r a) h = zl v h := by
  show zl (znew (znew v 10 8) zNC 32) h = _
  rw [u_l_nw (by show h ≠ zn v + 1 + 1; omega), u_l_nw (by omega)]
theorem zOpen_p {v : zW} {r : Nat} {a : Int} {f h : Nat} (hh : h ≤ zn v) : zp (zOpen v r a) f h = zp v f h := by
  show zp (zsp (zsp (znew (znew v 10 8) zNC 32) 67 (zn v + 1) (some (zn v + 1 + 1))) 66 (zn v + 1) (some (zn v))) f h = _
  rw [u_p_nh (by omega), u_p_nh (by omega), u_p_nw (by show h ≠ zn v + 1 + 1; omega), u_p_nw (by omega)]
theorem zOpen_b {v : zW} {r : Nat} {a : Int} {h j : Nat} (hh : h ≤ zn v) (h29 : h ≠ 29) : zb (zOpen v r a) h j = zb v h j := by
  show zb (zsb (zRq (znew v 10 8) (zn v + 1) a ((r % 8 : Nat) : Int) (some (zn v))) 29 r (some (zn v + 1))) h j = _
  rw [u_b_ne h29]
  show zb (znew (znew v 10 8) zNC 32) h j = _
  rw [u_b_nw (by show h ≠ zn v + 1 + 1; omega), u_b_nw (by omega)]
theorem zOpen_f {v : zW} {r : Nat} {a : Int} {f h : Nat} (hh : h ≤ zn v) (h13 : f ≠ 13) : zf (zOpen v r a) f h = zf v f h := by
  rw [zOpen, u_f_ne h13]
  show zf (zsf (zsf (zsf (zsf (zsf (znew (znew v 10 8) zNC 32) 69 (zn v + 1) 1) 70 (zn v + 1) 30) 71 (zn v + 1) 1) 64 (zn v + 1) a) 65 (zn v + 1) _) f h = _
  rw [u_f_nh (by omega), u_f_nh (by omega), u_f_nh (by omega), u_f_nh (by omega), u_f_nh (by omega), u_f_nw (by show h ≠ zn v + 1 + 1; omega), u_f_nw (by omega)]
theorem zOpen_fr {v : zW} {r : Nat} {a : Int} : zf (zOpen v r a) 64 (zn v + 1) = a ∧ zf (zOpen v r a) 65 (zn v + 1) = ((r % 8 : Nat) : Int) ∧ zp (zOpen v r a) 66 (zn v + 1) = some (zn v) ∧ zk (zOpen v r a) (zn v + 1) = 10 := by
  refine ⟨?_, ?_, ?_, ?_⟩
  · rw [zOpen, u_f_ne (by decide)]
    show zf (zsf (zsf (zsf (zsf (zsf (zsp (znew (znew v 10 8) zNC 32) 67 (zn v + 1) (some (zn v + 1 + 1))) 69 (zn v + 1) 1) 70 (zn v + 1) 30) 71 (zn v + 1) 1) 64 (zn v + 1) a) 65 (zn v + 1) ((r % 8 : Nat) : Int)) 64 (zn v + 1) = a
    rw [u_f_ne (by decide), u_f_eq]
  · rw [zOpen, u_f_ne (by decide)]
    show zf (zsf (zsf (zsf (zsf (zsf (zsp (znew (znew v 10 8) zNC 32) 67 (zn v + 1) (some (zn v + 1 + 1))) 69 (zn v + 1) 1) 70 (zn v + 1) 30) 71 (zn v + 1) 1) 64 (zn v + 1) a) 65 (zn v + 1) ((r % 8 : Nat) : Int)) 65 (zn v + 1) = _
    rw [u_f_eq]
  · show zp (zsp (zsf (zsf (zsf (zsf (zsf (zsp (znew (znew v 10 8) zNC 32) 67 (zn v + 1) (some (zn v + 1 + 1))) 69 (zn v + 1) 1) 70 (zn v + 1) 30) 71 (zn v + 1) 1) 64 (zn v + 1) a) 65 (zn v + 1) ((r % 8 : Nat) : Int)) 66 (zn v + 1) (some (zn v))) 66 (zn v + 1) = some (zn v)
    rw [u_p_eq]
  · show zk (znew (znew v 10 8) zNC 32) (zn v + 1) = 10
    rw [u_k_nw (by show zn v + 1 ≠ zn v + 1 + 1; omega)]
    exact u_k_nwn
