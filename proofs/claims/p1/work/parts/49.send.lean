-- sending, in general: a port's shape, the world after a message is cut into packets
def zSF (w v : zW) : Prop := v.1 = w.1 ∧ v.2.2.1 = w.2.2.1 ∧ v.2.2.2.2 = w.2.2.2.2
theorem zSF.rf {w : zW} : zSF w w := ⟨rfl, rfl, rfl⟩
theorem zSF.tr {w v u : zW} (h1 : zSF w v) (h2 : zSF v u) : zSF w u := ⟨h2.1.trans h1.1, h2.2.1.trans h1.2.1, h2.2.2.trans h1.2.2⟩
theorem zSF.k {w v : zW} (ho : zSF w v) (h : Nat) : zk v h = zk w h := congrArg (fun q : zS => q.2.2.1 h) ho.1
theorem zSF.l {w v : zW} (ho : zSF w v) (h : Nat) : zl v h = zl w h := congrArg (fun q : zS => q.2.2.2 h) ho.1
theorem zSF.n {w v : zW} (ho : zSF w v) : zn v = zn w := congrArg (fun q : zS => q.1) ho.1
theorem zSF.s {w v : zW} (ho : zSF w v) : zsl v = zsl w := congrArg (fun q : zS => q.2.1) ho.1
theorem zSF.p {w v : zW} (ho : zSF w v) (f h : Nat) : zp v f h = zp w f h := congrArg (fun q => q f h) ho.2.1
theorem zSF.b {w v : zW} (ho : zSF w v) (h j : Nat) : zb v h j = zb w h j := congrArg (fun q => q h j) ho.2.2
-- a port at p: its slots at p + 1, packet k at p + 2 + 2 k, that one's bytes behind it
def zPO (w : zW) (p : Nat) : Prop := zk w p = 2 ∧ zp w 24 p = some (p + 1) ∧ (zNC + 2 < zk w (p + 1) ∧ zk w (p + 1) < 1000) ∧ zl w (p + 1) = 8 ∧ (∀ k, k < 8 → zb w (p + 1) k = some (p + 2 + 2 * k) ∧ zk w (p + 2 + 2 * k) = 3 ∧ zp w 30 (p + 2 + 2 * k) = some (p + 2 + 2 * k + 1) ∧ zk w (p + 2 + 2 * k + 1) = zNC ∧ zl w (p + 2 + 2 * k + 1) = 8)
theorem zPO.sf {w v : zW} {p : Nat} (h : zPO w p) (ho : zSF w v) : zPO v p := by
  refine ⟨by rw [ho.k]; exact h.1, by rw [ho.p]; exact h.2.1, ⟨by rw [ho.k]; exact h.2.2.1.1, by rw [ho.k]; exact h.2.2.1.2⟩, by rw [ho.l]; exact h.2.2.2.1, fun k hk => ?_⟩
  have hh := h.2.2.2.2 k hk
  exact ⟨by rw [ho.b]; exact hh.1, by rw [ho.k]; exact hh.2.1, by rw [ho.p]; exact hh.2.2.1, by rw [ho.k]; exact hh.2.2.2.1, by rw [ho.l]; exact hh.2.2.2.2⟩
theorem z_rem8 : ∀ n, n < 48 → zo_rem ((n : Nat) : Int) 8 = ((n % 8 : Nat) : Int) := by decide +kernel
theorem m_131p {w : zW} {Q : Option zV → zW → Prop} {p a b : Nat} (hp : zPO w p) (ha : zf w 25 p = (a : Int)) (hb : zf w 23 p = (b : Int)) (h1 : a < 8) (h2 : b < 16) : zR 131 0 [some (.inr (some p)), none] [] w Q = Q (some (.inr (some (p + 2 + 2 * ((a + b) % 8))))) (zsf w 23 p ((b : Int) + 1)) := by
  have e : zo_rem (zf w 25 p + zf w 23 p) 8 = (((a + b) % 8 : Nat) : Int) := by rw [ha, hb, show (a : Int) + (b : Int) = ((a + b : Nat) : Int) by omega]; exact z_rem8 (a + b) (by omega)
  have e2 : zN (((a + b) % 8 : Nat) : Int) = (((a + b) % 8 : Nat) : Int) := zN_of (by omega) (by omega)
  rw [m_131 hp.1 hp.2.1 hp.2.2.1 ⟨by rw [e, e2]; omega, by rw [e, e2, hp.2.2.2.1]; omega⟩, e, e2, Int.toNat_natCast, (hp.2.2.2.2 _ (by omega)).1, hb]
theorem zr_114_13m {l0 l1 l2 l3 l4 l5 l6 l7 l8 l9 : Option zV} {h : Nat} {st : List zV} {w : zW} {Q : Option zV → zW → Prop} (hk : zk w h = 1 ∨ zk w h = 4 ∨ zk w h = 8) : zR 114 13 [l0, l1, l2, l3, l4, l5, l6, l7, l8, l9] (.inr (some h) :: st) w Q = zR 114 16 [l0, l1, l2, l3, l4, l5, l6, l7, l8, l9] (.inr (zp w 14 h) :: st) w Q := by
  rcases hk with hk | hk | hk
  · exact zr_114_13c1 hk
  · exact zr_114_13c4 hk
  · exact zr_114_13c8 hk
theorem zr_114_75m {l0 l1 l2 l3 l4 l5 l6 l7 l8 l9 : Option zV} {h : Nat} {st : List zV} {w : zW} {Q : Option zV → zW → Prop} (hk : zk w h = 1 ∨ zk w h = 4 ∨ zk w h = 8) : zR 114 75 [l0, l1, l2, l3, l4, l5, l6, l7, l8, l9] (.inr (some h) :: st) w Q = zR 114 78 [l0, l1, l2, l3, l4, l5, l6, l7, l8, l9] (.inr (zp w 14 h) :: st) w Q := by
  rcases hk with hk | hk | hk
  · exact zr_114_75c1 hk
  · exact zr_114_75c4 hk
  · exact zr_114_75c8 hk
theorem zr_114_87m {l0 l1 l2 l3 l4 l5 l6 l7 l8 l9 : Option zV} {h : Nat} {st : List zV} {w : zW} {Q : Option zV → zW → Prop} (hk : zk w h = 1 ∨ zk w h = 4 ∨ zk w h = 8) : zR 114 87 [l0, l1, l2, l3, l4, l5, l6, l7, l8, l9] (.inr (some h) :: st) w Q = zR 114 90 [l0, l1, l2, l3, l4, l5, l6, l7, l8, l9] (.inr (zp w 14 h) :: st) w Q := by
  rcases hk with hk | hk | hk
  · exact zr_114_87c1 hk
  · exact zr_114_87c4 hk
  · exact zr_114_87c8 hk
-- the flags of piece i out of q
def zfl (kd : Int) (i q : Nat) : Int := kd + 16 * (i : Int) + (if i = 0 then 128 else 0) + (if i + 1 = q then 64 else 0)
def zsnd1 (u : zW) (p : Nat) (c t ep fl : Int) (pk src sp n : Nat) : zW := zcp (zsf (zsf (zsf (zsf (zsf u 23 p c) 26 pk t) 27 pk ep) 28 pk fl) 29 pk (n : Int)) src sp (pk + 1) 0 n
def zsnd (w : zW) (p a b : Nat) (t kd : Int) (src n q : Nat) : Nat → zW
  | 0 => w
  | i + 1 => zsnd1 (zsnd w p a b t kd src n q i) p ((b + i : Nat) + 1 : Int) t (zf w 21 p) (zfl kd i q) (p + 2 + 2 * ((a + (b + i)) % 8)) src (8 * i) (min 8 (n - 8 * i))
theorem zsnd_sf {w : zW} {p a b : Nat} {t kd : Int} {src n q : Nat} : ∀ i, zSF w (zsnd w p a b t kd src n q i)
  | 0 => zSF.rf
  | i + 1 => zSF.tr (zsnd_sf i) ⟨rfl, rfl, rfl⟩
theorem zsnd1_f {u : zW} {p : Nat} {c t ep fl : Int} {pk src sp n f h : Nat} (h1 : f ≠ 23) (h2 : f ≠ 26) (h3 : f ≠ 27) (h4 : f ≠ 28) (h5 : f ≠ 29) : zf (zsnd1 u p c t ep fl pk src sp n) f h = zf u f h := by
  show zf (zsf (zsf (zsf (zsf (zsf u 23 p c) 26 pk t) 27 pk ep) 28 pk fl) 29 pk (n : Int)) f h = zf u f h
  rw [u_f_ne h5, u_f_ne h4, u_f_ne h3, u_f_ne h2, u_f_ne h1]
theorem zsnd_f {w : zW} {p a b : Nat} {t kd : Int} {src n q f h : Nat} (h1 : f ≠ 23) (h2 : f ≠ 26) (h3 : f ≠ 27) (h4 : f ≠ 28) (h5 : f ≠ 29) : ∀ i, zf (zsnd w p a b t kd src n q i) f h = zf w f h
  | 0 => rfl
  | i + 1 => (zsnd1_f h1 h2 h3 h4 h5).trans (zsnd_f h1 h2 h3 h4 h5 i)
theorem zsnd1_23 {u : zW} {p : Nat} {c t ep fl : Int} {pk src sp n : Nat} : zf (zsnd1 u p c t ep fl pk src sp n) 23 p = c := by
  show zf (zsf (zsf (zsf (zsf (zsf u 23 p c) 26 pk t) 27 pk ep) 28 pk fl) 29 pk (n : Int)) 23 p = c
  rw [u_f_ne (by decide), u_f_ne (by decide), u_f_ne (by decide), u_f_ne (by decide), u_f_eq]
theorem zsnd_23 {w : zW} {p a b : Nat} {t kd : Int} {src n q : Nat} (hb : zf w 23 p = (b : Int)) : ∀ i, zf (zsnd w p a b t kd src n q i) 23 p = ((b + i : Nat) : Int)
  | 0 => hb
  | i + 1 => by
    show zf (zsnd1 _ p _ t (zf w 21 p) (zfl kd i q) _ src _ _) 23 p = _
    rw [zsnd1_23]
    omega
theorem m_114_35 {u : zW} {Q : Option zV → zW → Prop} {i q : Nat} {kd : Int} {l0 l1 l3 l4 l7 l8 l9 : Option zV} (hi : i < q) (hq : q ≤ 8) :
    zR 114 35 [l0, l1, some (.inl kd), l3, l4, some (.inl (q : Int)), some (.inl (i : Int)), l7, l8, l9] [] u Q = zR 114 67 [l0, l1, some (.inl kd), l3, l4, some (.inl (q : Int)), some (.inl (i : Int)), some (.inl (zfl kd i q)), l8, l9] [] u Q := by
  have e1 : zN (i : Int) = i := zN_of (by omega) (by omega)
  have e2 : zN ((q : Int) - 1) = (q : Int) - 1 := zN_of (by omega) (by omega)
  rw [zr_114_35, zr_114_36, zr_114_38, zr_114_40, zr_114_41, zr_114_42, zr_114_44, zr_114_46, e1]
  by_cases h0 : i = 0
  · rw [if_neg (by omega), zr_114_49, zr_114_55, zr_114_57, zr_114_59, zr_114_60, zr_114_61, e1, e2]
    by_cases h1 : i + 1 = q
    · rw [if_neg (by omega), zr_114_64, show kd + 16 * (i : Int) + 128 + 64 = zfl kd i q by unfold zfl; rw [if_pos h0, if_pos h1]]
    · rw [if_pos (by omega), show kd + 16 * (i : Int) + 128 = zfl kd i q by unfold zfl; rw [if_pos h0, if_neg h1]; omega]
  · rw [if_pos (by omega), zr_114_55, zr_114_57, zr_114_59, zr_114_60, zr_114_61, e1, e2]
    by_cases h1 : i + 1 = q
    · rw [if_neg (by omega), zr_114_64, show kd + 16 * (i : Int) + 64 = zfl kd i q by unfold zfl; rw [if_neg h0, if_pos h1]; omega]
    · rw [if_pos (by omega), show kd + 16 * (i : Int) = zfl kd i q by unfold zfl; rw [if_neg h0, if_neg h1]; omega]
theorem m_114_28 {w : zW} {Q : Option zV → zW → Prop} {g p a b src n q : Nat} {t kd : Int} (hg : zk w g = 1 ∨ zk w g = 4 ∨ zk w g = 8) (hgp : zp w 14 g = some p) (hp : zPO w p) (ha : zf w 25 p = (a : Int)) (hb : zf w 23 p = (b : Int)) (h1 : a < 8) (h2 : b + q ≤ 8) (hsk : zk w src = zNC) (hsl : n ≤ zl w src) (hq : q = (n + 7) / 8) :
    ∀ (m i : Nat) (l7 l8 l9 : Option zV), m + i = q → zR 114 28 [some (.inr (some g)), some (.inl t), some (.inl kd), some (.inr (some src)), some (.inl (n : Int)), some (.inl (q : Int)), some (.inl (i : Int)), l7, l8, l9] [] (zsnd w p a b t kd src n q i) Q = Q none (zsnd w p a b t kd src n q q) := by
  have eq : zN (q : Int) = q := zN_of (by omega) (by omega)
  intro m
  induction m with
  | zero =>
    intro i l7 l8 l9 hi
    have hi : i = q := by omega
    subst hi
    rw [zr_114_28, zr_114_30, zr_114_32, if_pos (Int.le_refl _), zr_114_122]
  | succ m ih =>
    intro i l7 l8 l9 hi
    have ei : zN (i : Int) = i := zN_of (by omega) (by omega)
    have hs := zsnd_sf (w := w) (p := p) (a := a) (b := b) (t := t) (kd := kd) (src := src) (n := n) (q := q) i
    have h25 : zf (zsnd w p a b t kd src n q i) 25 p = (a : Int) := (zsnd_f (by decide) (by decide) (by decide) (by decide) (by decide) i).trans ha
    have h21 : zf (zsnd w p a b t kd src n q i) 21 p = zf w 21 p := zsnd_f (by decide) (by decide) (by decide) (by decide) (by decide) i
    have h23 : zf (zsnd w p a b t kd src n q i) 23 p = ((b + i : Nat) : Int) := zsnd_23 hb i
    have hgk : zk (zsnd w p a b t kd src n q i) g = 1 ∨ zk (zsnd w p a b t kd src n q i) g = 4 ∨ zk (zsnd w p a b t kd src n q i) g = 8 := by rw [hs.k]; exact hg
    have hgq : zp (zsnd w p a b t kd src n q i) 14 g = some p := by rw [hs.p]; exact hgp
    have hpo := hp.sf hs
    have hsk' : zk (zsnd w p a b t kd src n q i) src = zNC := by rw [hs.k]; exact hsk
    have hpk := hpo.2.2.2.2 ((a + (b + i)) % 8) (by omega)
    have em : (if zN ((n : Int) - 8 * (i : Int)) < zN 8 then (n : Int) - 8 * (i : Int) else 8) = ((min 8 (n - 8 * i) : Nat) : Int) := by
      rw [zN_of (x := (n : Int) - 8 * (i : Int)) (by omega) (by omega), show zN 8 = 8 by decide]
      split <;> omega
    have e8 : zN (8 * (i : Int)) = 8 * (i : Int) := zN_of (by omega) (by omega)
    have t8 : (zN (8 * (i : Int))).toNat = 8 * i := by rw [e8]; omega
    have t0 : (zN 0).toNat = 0 := by decide
    have emn : zN ((min 8 (n - 8 * i) : Nat) : Int) = ((min 8 (n - 8 * i) : Nat) : Int) := zN_of (by omega) (by omega)
    have tm : (zN ((min 8 (n - 8 * i) : Nat) : Int)).toNat = min 8 (n - 8 * i) := by rw [emn, Int.toNat_natCast]
    have l3 : 8 * (i : Int) + ((min 8 (n - 8 * i) : Nat) : Int) ≤ (zl (zsnd w p a b t kd src n q i) src : Int) := by rw [hs.l]; omega
    have l4 : ((min 8 (n - 8 * i) : Nat) : Int) ≤ (zl (zsnd w p a b t kd src n q i) (p + 2 + 2 * ((a + (b + i)) % 8) + 1) : Int) := by rw [hpk.2.2.2.2]; omega
    rw [zr_114_28, zr_114_30, zr_114_32, eq, ei, if_neg (by omega), m_114_35 (by omega) (by omega), zr_114_67, zr_114_69, zr_114_71, zr_114_72, zr_114_74, zr_114_75m hgk, hgq, zr_114_78 (by exact Nat.le_of_ble_eq_true rfl) hpo.1, m_131p hpo h25 h23 h1 (by omega), Option.toList_some, List.cons_append, List.nil_append, zr_114_81, zr_114_83, zr_114_85, zr_114_86, zr_114_87m (by exact hgk), u_p_sf, hgq, zr_114_90 (by exact hpo.1), u_f_ne (by decide), h21, zr_114_93, zr_114_95 (by exact Nat.le_of_ble_eq_true rfl) (by exact hpk.2.1), m_117 (by exact hpk.2.1), Option.toList_none, List.nil_append, zr_114_98, zr_114_100, zr_114_101, zr_114_103, zr_114_105, zr_114_107, zr_114_109, zr_114_110 (by exact Nat.le_of_ble_eq_true rfl), em, zr_114_113 (by exact Nat.le_of_ble_eq_true rfl) (by exact hpk.2.1), m_118 (by exact hpk.2.1) (by exact hpk.2.2.1) (by exact hsk') (by exact hpk.2.2.2.1) (by rw [e8]; omega) (by rw [emn]; omega) (by rw [e8, emn]; exact l3) (by rw [emn]; exact l4), t8, t0, tm, Option.toList_none, List.nil_append, zr_114_116, zr_114_119]
    exact ih (i + 1) _ _ _ (by omega)
theorem z_div8b : ∀ n, n < 33 → zo_div ((n : Nat) + 8 - 1 : Int) 8 = (((n + 7) / 8 : Nat) : Int) := by decide +kernel
theorem m_114 {w : zW} {Q : Option zV → zW → Prop} {g p a b src n : Nat} {t kd : Int} (hg : zk w g = 1 ∨ zk w g = 4 ∨ zk w g = 8) (hgp : zp w 14 g = some p) (hp : zPO w p) (ha : zf w 25 p = (a : Int)) (hb : zf w 23 p = (b : Int)) (h1 : a < 8) (h2 : b ≤ 8) (hsk : zk w src = zNC) (hsl : n ≤ zl w src) (hn : n ≤ 32) :
    zR 114 0 [some (.inr (some g)), some (.inl t), some (.inl kd), some (.inr (some src)), some (.inl (n : Int)), none, none, none, none, none] [] w Q = Q none (if b + (n + 7) / 8 ≤ 8 then zsnd w p a b t kd src n ((n + 7) / 8) ((n + 7) / 8) else w) := by
  have ed : zo_div ((n : Int) + 8 - 1) 8 = (((n + 7) / 8 : Nat) : Int) := z_div8b n (by omega)
  have e1 : zN ((b : Int) + (((n + 7) / 8 : Nat) : Int)) = (b : Int) + (((n + 7) / 8 : Nat) : Int) := zN_of (by omega) (by omega)
  rw [zr_114_0, zr_114_2, zr_114_4, zr_114_5, zr_114_6, zr_114_7, zr_114_9 (by decide), ed, zr_114_10, zr_114_12, zr_114_13m hg, hgp, zr_114_16, zr_114_18 (by exact Nat.le_of_ble_eq_true rfl) hp.1, m_129 hp.1, Option.toList_some, List.cons_append, List.nil_append, zr_114_21, hb, e1]
  by_cases h8 : b + (n + 7) / 8 ≤ 8
  · rw [if_pos h8, if_neg (show ¬ (8 : Int) < (b : Int) + (((n + 7) / 8 : Nat) : Int) by omega), if_pos (by decide), zr_114_25, zr_114_26]
    exact m_114_28 hg hgp hp ha hb h1 h8 hsk hsl rfl ((n + 7) / 8) 0 _ _ _ (by omega)
  · rw [if_neg h8, if_pos (show (8 : Int) < (b : Int) + (((n + 7) / 8 : Nat) : Int) by omega), if_neg (by decide), zr_114_24]
