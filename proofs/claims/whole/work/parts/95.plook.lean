-- requests are looked at: both sides
theorem zRP_rq {w v : zW} (h : zRP w v) : yRQ w v := ⟨fun f _ _ => (h 194 (by omega) (by omega)).1 f, fun k k1 k2 j => (h k (by omega) k2).2.2.1 j⟩
theorem zsnd_a0 {w : zW} {p a b : Nat} {t kd : Int} {src n q j : Nat} : ∀ i, za (zsnd w p a b t kd src n q i) 0 j = za w 0 j
  | 0 => rfl
  | i + 1 => by
    rw [← zsnd_a0 (w := w) (p := p) (a := a) (b := b) (t := t) (kd := kd) (src := src) (n := n) (q := q) (j := j) i]
    exact zsnd1_ah (by omega)
theorem m_106 {w : zW} {Q : Option zV → zW → Prop} {g hd b n : Nat} {ep tg : Int} (k5 : zk w 5 = 1) (p14 : zp w 14 5 = some 7) (hp : zPO w 7) (ha : zf w 25 7 = (hd : Int)) (hb : zf w 23 7 = (b : Int)) (h1 : hd < 8) (h2 : b ≤ 8) (kg1 : zk w (g + 1) = 10) (f64 : zf w 64 (g + 1) = ep) (f65 : zf w 65 (g + 1) = tg) (p66 : zp w 66 (g + 1) = some g) (kg : zk w g = 12) (lg : zl w g = n) (hn : n ≤ 32) : zR 106 0 [some (.inr (some 5)), some (.inr (some (g + 1)))] [] w Q = Q none (if b + (n + 7) / 8 ≤ 8 then zsnd w 7 hd b ep (8 + tg) g n ((n + 7) / 8) ((n + 7) / 8) else w) := by
  rw [zr_106_0, zr_106_1, zr_106_2 kg1, f64, zr_106_5, zr_106_7, zr_106_8 kg1, f65, zr_106_11, zr_106_12, zr_106_13 kg1, p66, zr_106_16, zr_106_17 kg1, p66, zr_106_20 ⟨by rw [kg]; exact Nat.le_refl _, by rw [kg]; decide⟩, lg, zr_106_21 (by exact Nat.le_of_ble_eq_true rfl) k5, m_114 (Or.inl k5) p14 hp ha hb h1 h2 kg (by rw [lg]; exact Nat.le_refl _) hn, Option.toList_none, List.nil_append, zr_106_24]
theorem m_105_e {w : zW} {Q : Option zV → zW → Prop} {n : Int} (k5 : zk w 5 = 1) (f13 : zf w 13 5 = n) : zR 105 2 [some (.inr (some 5)), some (.inl n)] [] w Q = Q none w := by
  rw [zr_105_2, zr_105_3, zr_105_4 k5, f13, zr_105_7, if_pos (Int.le_refl _), zr_105_38]
theorem m_105_n {w : zW} {Q : Option zV → zW → Prop} {r G : Nat} {n : Int} (k5 : zk w 5 = 1) (p12 : zp w 12 5 = some 29) (k29 : zk w 29 = 20) (l29 : zl w 29 = 40) (f13 : zf w 13 5 = n) (hn : n ≤ 40) (hr : (r : Int) < n) (kG : zk w G = 10) (b29 : zb w 29 r = some G) {v : zW} (h135 : ∀ Q, zR 135 0 [some (.inr (some G))] [] w Q = Q (some (.inl 0)) v)  : zR 105 2 [some (.inr (some 5)), some (.inl (r : Int))] [] w Q = zR 105 2 [some (.inr (some 5)), some (.inl ((r + 1 : Nat) : Int))] [] v Q := by
  have tr : (zN (r : Int)).toNat = r := by rw [zN_of (by omega) (by omega), Int.toNat_natCast]
  rw [zr_105_2, zr_105_3, zr_105_4 (by exact k5), f13, zr_105_7, zN_of (x := (r : Int)) (by omega) (by omega), zN_of (x := n) (by omega) (by omega), if_neg (by omega), zr_105_10, zr_105_11 (by exact k5), p12, zr_105_14, zr_105_15 ⟨by show zNC + 2 < zk w 29; rw [k29]; decide, by show zk w 29 < 1000; rw [k29]; decide, by rw [zN_of (x := (r : Int)) (by omega) (by omega)]; omega, by rw [zN_of (x := (r : Int)) (by omega) (by omega)]; show _ < ((zl w 29 : Nat) : Int); rw [l29]; omega⟩, tr, b29, zr_105_16 (by exact Nat.le_of_ble_eq_true rfl) (by exact kG), h135, Option.toList_some, List.cons_append, List.nil_append, zr_105_19, show zN 0 = 0 by decide, if_pos (by omega), zr_105_32, zr_105_35]
  rfl
theorem m_105_y {w : zW} {Q : Option zV → zW → Prop} {r G : Nat} {n : Int} (k5 : zk w 5 = 1) (p12 : zp w 12 5 = some 29) (k29 : zk w 29 = 20) (l29 : zl w 29 = 40) (f13 : zf w 13 5 = n) (hn : n ≤ 40) (hr : (r : Int) < n) (kG : zk w G = 10) (b29 : zb w 29 r = some G) {v : zW} (h135 : ∀ Q, zR 135 0 [some (.inr (some G))] [] w Q = Q (some (.inl 1)) v) (k5v : zk v 5 = 1) (p12v : zp v 12 5 = some 29) (k29v : zk v 29 = 20) (l29v : zl v 29 = 40) (b29v : zb v 29 r = some G) {u : zW} (h106 : ∀ Q, zR 106 0 [some (.inr (some 5)), some (.inr (some G))] [] v Q = Q none u) : zR 105 2 [some (.inr (some 5)), some (.inl (r : Int))] [] w Q = zR 105 2 [some (.inr (some 5)), some (.inl ((r + 1 : Nat) : Int))] [] u Q := by
  have tr : (zN (r : Int)).toNat = r := by rw [zN_of (by omega) (by omega), Int.toNat_natCast]
  rw [zr_105_2, zr_105_3, zr_105_4 (by exact k5), f13, zr_105_7, zN_of (x := (r : Int)) (by omega) (by omega), zN_of (x := n) (by omega) (by omega), if_neg (by omega), zr_105_10, zr_105_11 (by exact k5), p12, zr_105_14, zr_105_15 ⟨by show zNC + 2 < zk w 29; rw [k29]; decide, by show zk w 29 < 1000; rw [k29]; decide, by rw [zN_of (x := (r : Int)) (by omega) (by omega)]; omega, by rw [zN_of (x := (r : Int)) (by omega) (by omega)]; show _ < ((zl w 29 : Nat) : Int); rw [l29]; omega⟩, tr, b29, zr_105_16 (by exact Nat.le_of_ble_eq_true rfl) (by exact kG), h135, Option.toList_some, List.cons_append, List.nil_append, zr_105_19, show zN 1 = 1 by decide, if_neg (by omega), zr_105_22, zr_105_23, zr_105_24 (by exact k5v), p12v, zr_105_27, zr_105_28 ⟨by show zNC + 2 < zk v 29; rw [k29v]; decide, by show zk v 29 < 1000; rw [k29v]; decide, by rw [zN_of (x := (r : Int)) (by omega) (by omega)]; omega, by rw [zN_of (x := (r : Int)) (by omega) (by omega)]; show _ < ((zl v 29 : Nat) : Int); rw [l29v]; omega⟩, tr, b29v, zr_105_29 (by exact Nat.le_of_ble_eq_true rfl) (by exact k5v), h106, Option.toList_none, List.nil_append, zr_105_32, zr_105_35]
  rfl
theorem m_64_idle {c : zW} {s : zSt} {Q : Option zV → zW → Prop} (hc : zKR c) {r n st tm sd : Int} (h13 : s 113 0 = n) (hn : n ≤ 40) (hr : 0 ≤ r ∧ r < n) (hst : s 234 r = st) (htm : s 235 r = tm) (hsd : s 236 r = sd) (r1 : 1 ≤ st ∧ st ≤ 3) (r2 : 0 ≤ tm ∧ tm ≤ 30) (r3 : 1 ≤ sd ∧ sd ≤ 3) (hc1 : st ≠ 1) : zR 64 2 [some (.inr (some 194)), some (.inl r)] [] (zmk c s) Q = zR 64 2 [some (.inr (some 194)), some (.inl (r + 1))] [] (zmk c s) Q := by
  rw [zr_64_2, zr_64_3, zr_64_4 (rk_194 hc), v_f (f := 113) (by decide), h13, zr_64_7, zN_of (x := r) (by omega) (by omega), zN_of (x := n) (by omega) (by omega), if_neg (by omega), zr_64_10, zr_64_11 (rk_194 hc), rp_117 hc, zr_64_14, zr_64_15 (ri_234 hc (by omega) (by omega)), ra (h := 234) (j := r) (by decide) (by decide) (by omega) (by omega), hst, zr_64_16, zr_64_17, zN_of (x := st) (by omega) (by omega), show zN 1 = 1 by decide, if_pos (by omega), zr_64_91, zr_64_94]
theorem m_64_wait {c : zW} {s : zSt} {Q : Option zV → zW → Prop} (hc : zKR c) {r n st tm sd : Int} (h13 : s 113 0 = n) (hn : n ≤ 40) (hr : 0 ≤ r ∧ r < n) (hst : s 234 r = st) (htm : s 235 r = tm) (hsd : s 236 r = sd) (r1 : 1 ≤ st ∧ st ≤ 3) (r2 : 0 ≤ tm ∧ tm ≤ 30) (r3 : 1 ≤ sd ∧ sd ≤ 3) (hc1 : st = 1 ∧ 1 < tm) : zR 64 2 [some (.inr (some 194)), some (.inl r)] [] (zmk c s) Q = zR 64 2 [some (.inr (some 194)), some (.inl (r + 1))] [] (zmk c (zv s 235 r (tm - 1))) Q := by
  rw [zr_64_2, zr_64_3, zr_64_4 (rk_194 hc), v_f (f := 113) (by decide), h13, zr_64_7, zN_of (x := r) (by omega) (by omega), zN_of (x := n) (by omega) (by omega), if_neg (by omega), zr_64_10, zr_64_11 (rk_194 hc), rp_117 hc, zr_64_14, zr_64_15 (ri_234 hc (by omega) (by omega)), ra (h := 234) (j := r) (by decide) (by decide) (by omega) (by omega), hst, zr_64_16, zr_64_17, zN_of (x := st) (by omega) (by omega), show zN 1 = 1 by decide, if_neg (by omega), zr_64_20, zr_64_21 (rk_194 hc), rp_118 hc, zr_64_24, zr_64_25, zr_64_26 (ri_235 hc (by omega) (by omega)), ra (h := 235) (j := r) (by decide) (by decide) (by omega) (by omega), htm, zr_64_27, zr_64_28, zr_64_29 (rs_235 hc (by omega) (by omega)), rsa (h := 235) (j := r) (by decide) (by decide) (by omega) (by omega), zr_64_30, zr_64_31 (rk_194 hc), rp_118 hc, zr_64_34, zr_64_35 (ri_235 hc (by omega) (by omega)), ra (h := 235) (j := r) (by decide) (by decide) (by omega) (by omega), zv_eq, zr_64_36, zN_of (x := (tm - 1)) (by omega) (by omega), if_pos (by omega), zr_64_59, zr_64_60 (rk_194 hc), rp_118 hc, zr_64_63, zr_64_64 (ri_235 hc (by omega) (by omega)), ra (h := 235) (j := r) (by decide) (by decide) (by omega) (by omega), zv_eq, zr_64_65, zN_of (x := (tm - 1)) (by omega) (by omega), if_pos (by omega), zr_64_91, zr_64_94]
theorem m_64_lost {c : zW} {s : zSt} {Q : Option zV → zW → Prop} (hc : zKR c) {r n st tm sd : Int} (h13 : s 113 0 = n) (hn : n ≤ 40) (hr : 0 ≤ r ∧ r < n) (hst : s 234 r = st) (htm : s 235 r = tm) (hsd : s 236 r = sd) (r1 : 1 ≤ st ∧ st ≤ 3) (r2 : 0 ≤ tm ∧ tm ≤ 30) (r3 : 1 ≤ sd ∧ sd ≤ 3) (hc1 : st = 1 ∧ tm = 1 ∧ sd = 3) : zR 64 2 [some (.inr (some 194)), some (.inl r)] [] (zmk c s) Q = zR 64 2 [some (.inr (some 194)), some (.inl (r + 1))] [] (zmk c (zv (zv s 235 r (tm - 1)) 234 r 3)) Q := by
  rw [zr_64_2, zr_64_3, zr_64_4 (rk_194 hc), v_f (f := 113) (by decide), h13, zr_64_7, zN_of (x := r) (by omega) (by omega), zN_of (x := n) (by omega) (by omega), if_neg (by omega), zr_64_10, zr_64_11 (rk_194 hc), rp_117 hc, zr_64_14, zr_64_15 (ri_234 hc (by omega) (by omega)), ra (h := 234) (j := r) (by decide) (by decide) (by omega) (by omega), hst, zr_64_16, zr_64_17, zN_of (x := st) (by omega) (by omega), show zN 1 = 1 by decide, if_neg (by omega), zr_64_20, zr_64_21 (rk_194 hc), rp_118 hc, zr_64_24, zr_64_25, zr_64_26 (ri_235 hc (by omega) (by omega)), ra (h := 235) (j := r) (by decide) (by decide) (by omega) (by omega), htm, zr_64_27, zr_64_28, zr_64_29 (rs_235 hc (by omega) (by omega)), rsa (h := 235) (j := r) (by decide) (by decide) (by omega) (by omega), zr_64_30, zr_64_31 (rk_194 hc), rp_118 hc, zr_64_34, zr_64_35 (ri_235 hc (by omega) (by omega)), ra (h := 235) (j := r) (by decide) (by decide) (by omega) (by omega), zv_eq, zr_64_36, zN_of (x := (tm - 1)) (by omega) (by omega), if_neg (by omega), zr_64_39, zr_64_40 (rk_194 hc), rp_119 hc, zr_64_43, zr_64_44 (ri_236 hc (by omega) (by omega)), ra (h := 236) (j := r) (by decide) (by decide) (by omega) (by omega), zv_ne (a := 235) (b := 236) (by decide), hsd, zr_64_45, zr_64_46, zN_of (x := sd) (by omega) (by omega), show zN 3 = 3 by decide, if_neg (by omega), zr_64_49, zr_64_50 (rk_194 hc), rp_117 hc, zr_64_53, zr_64_54, zr_64_55 (rs_234 hc (by omega) (by omega)), rsa (h := 234) (j := r) (by decide) (by decide) (by omega) (by omega), zr_64_56, zr_64_91, zr_64_94]
theorem m_64_again {c : zW} {s : zSt} {Q : Option zV → zW → Prop} (hc : zKR c) {r n st tm sd : Int} (h13 : s 113 0 = n) (hn : n ≤ 40) (hr : 0 ≤ r ∧ r < n) (hst : s 234 r = st) (htm : s 235 r = tm) (hsd : s 236 r = sd) (r1 : 1 ≤ st ∧ st ≤ 3) (r2 : 0 ≤ tm ∧ tm ≤ 30) (r3 : 1 ≤ sd ∧ sd ≤ 3) (hc1 : st = 1 ∧ tm = 1 ∧ sd ≠ 3) {t : zSt} (h35 : ∀ Q, zR 35 0 [some (.inr (some 194)), some (.inl r), none] [] (zmk c (zv (zv (zv s 235 r (tm - 1)) 236 r (sd + 1)) 235 r 30)) Q = Q none (zmk c t)) : zR 64 2 [some (.inr (some 194)), some (.inl r)] [] (zmk c s) Q = zR 64 2 [some (.inr (some 194)), some (.inl (r + 1))] [] (zmk c t) Q := by
  rw [zr_64_2, zr_64_3, zr_64_4 (rk_194 hc), v_f (f := 113) (by decide), h13, zr_64_7, zN_of (x := r) (by omega) (by omega), zN_of (x := n) (by omega) (by omega), if_neg (by omega), zr_64_10, zr_64_11 (rk_194 hc), rp_117 hc, zr_64_14, zr_64_15 (ri_234 hc (by omega) (by omega)), ra (h := 234) (j := r) (by decide) (by decide) (by omega) (by omega), hst, zr_64_16, zr_64_17, zN_of (x := st) (by omega) (by omega), show zN 1 = 1 by decide, if_neg (by omega), zr_64_20, zr_64_21 (rk_194 hc), rp_118 hc, zr_64_24, zr_64_25, zr_64_26 (ri_235 hc (by omega) (by omega)), ra (h := 235) (j := r) (by decide) (by decide) (by omega) (by omega), htm, zr_64_27, zr_64_28, zr_64_29 (rs_235 hc (by omega) (by omega)), rsa (h := 235) (j := r) (by decide) (by decide) (by omega) (by omega), zr_64_30, zr_64_31 (rk_194 hc), rp_118 hc, zr_64_34, zr_64_35 (ri_235 hc (by omega) (by omega)), ra (h := 235) (j := r) (by decide) (by decide) (by omega) (by omega), zv_eq, zr_64_36, zN_of (x := (tm - 1)) (by omega) (by omega), if_neg (by omega), zr_64_39, zr_64_40 (rk_194 hc), rp_119 hc, zr_64_43, zr_64_44 (ri_236 hc (by omega) (by omega)), ra (h := 236) (j := r) (by decide) (by decide) (by omega) (by omega), zv_ne (a := 235) (b := 236) (by decide), hsd, zr_64_45, zr_64_46, zN_of (x := sd) (by omega) (by omega), show zN 3 = 3 by decide, if_pos (by omega), zr_64_59, zr_64_60 (rk_194 hc), rp_118 hc, zr_64_63, zr_64_64 (ri_235 hc (by omega) (by omega)), ra (h := 235) (j := r) (by decide) (by decide) (by omega) (by omega), zv_eq, zr_64_65, zN_of (x := (tm - 1)) (by omega) (by omega), if_neg (by omega), zr_64_68, zr_64_69 (rk_194 hc), rp_119 hc, zr_64_72, zr_64_73, zr_64_74 (ri_236 hc (by omega) (by omega)), ra (h := 236) (j := r) (by decide) (by decide) (by omega) (by omega), zv_ne (a := 235) (b := 236) (by decide), hsd, zr_64_75, zr_64_76, zr_64_77 (rs_236 hc (by omega) (by omega)), rsa (h := 236) (j := r) (by decide) (by decide) (by omega) (by omega), zr_64_78, zr_64_79 (rk_194 hc), rp_118 hc, zr_64_82, zr_64_83, zr_64_85 (rs_235 hc (by omega) (by omega)), rsa (h := 235) (j := r) (by decide) (by decide) (by omega) (by omega), zr_64_86, zr_64_87, zr_64_88 (by exact Nat.le_of_ble_eq_true rfl) (rk_194 hc), h35, Option.toList_none, List.nil_append, zr_64_91, zr_64_94]
theorem m_64_e {c : zW} {s : zSt} {Q : Option zV → zW → Prop} (hc : zKR c) {n : Int} (h13 : s 113 0 = n) : zR 64 2 [some (.inr (some 194)), some (.inl n)] [] (zmk c s) Q = Q none (zmk c s) := by
  rw [zr_64_2, zr_64_3, zr_64_4 (rk_194 hc), v_f (f := 113) (by decide), h13, zr_64_7, if_pos (Int.le_refl _), zr_64_97]
-- one request changes its state, timer, sendings
theorem J_req {B : Int} {e : Nat} {own : Nat → Nat} {s t : zSt} {w v : zW} (h : zJ0 B e own s w) {r g : Nat} (hr : (r : Int) < s 113 0) (hb29 : zb w 29 r = some (g + 1)) (hq : zReq own s w r g) {st tm sd : Int} (r1 : 1 ≤ st ∧ st ≤ 3) (r2 : 0 ≤ tm ∧ tm ≤ 30) (r2b : st = 1 → 1 ≤ tm) (r3 : 1 ≤ sd ∧ sd ≤ 3) (vS : zSF w v) (va : ∀ k j, za v k j = za w k j) (vf : ∀ f k, ¬ (k = g + 1 ∧ (f = 69 ∨ f = 70 ∨ f = 71)) → zf v f k = zf w f k) (v69 : zf v 69 (g + 1) = st) (v70 : zf v 70 (g + 1) = tm) (v71 : zf v 71 (g + 1) = sd) (to : ∀ a x, ¬ (x = (r : Int) ∧ (a = 234 ∨ a = 235 ∨ a = 236)) → t a x = s a x) (t4 : t 234 (r : Int) = st) (t5 : t 235 (r : Int) = tm) (t6 : t 236 (r : Int) = sd) : zJ0 B e own t v := by
  have d : zDv [5] own w v s t := ⟨vS.1, fun f hf k => vf f k (fun q => hf (by rcases q.2 with x | x | x <;> rw [x] <;> decide)), vS.2.1, fun k _ j => va k j, vS.2.2, fun a ha x => to a x (fun q => ha (by rcases q.2 with y | y | y <;> rw [y] <;> decide))⟩
  have t113 : t 113 0 = s 113 0 := to 113 0 (by omega)
  have hg : 239 < g := hq.2.2.2.2.2.2.2.2.2.1
  refine zJ_gen d h (by decide) (fun q => absurd q (by decide)) (fun q => absurd q (by decide)) (fun q => absurd q (by decide)) (fun q => absurd q (by decide)) (fun _ => ⟨⟨⟨?_, fun r' hr' => ?_⟩, ?_⟩, ?_⟩) (fun q => absurd q (by decide)) (fun q => absurd q (by decide)) (fun q => absurd q (by decide)) (fun q => absurd q (by decide)) (fun q => absurd q (by decide))
  · rw [vf 13 5 (by omega), t113]
    exact h.2.2.2.2.2.1.1.1
  · rw [t113] at hr'
    obtain ⟨g', p1, p2⟩ := h.2.2.2.2.2.1.1.2 r' hr'
    refine ⟨g', by rw [vS.b]; exact p1, ?_⟩
    obtain ⟨c1, c2, c3, c4, c5, c6, c7, c8, c9, c10, c11, c12, c13, c14, c15, c16, c17, c18, c19, c20⟩ := p2
    have to' : ∀ a, a ≠ 234 → a ≠ 235 → a ≠ 236 → ∀ x, t a x = s a x := fun a a1 a2 a3 x => to a x (fun q => by omega)
    unfold zReq
    rw [vS.k, vS.k, vS.k, vS.l, vS.l, vS.p, vS.p, vS.n, vf 64 _ (by omega), vf 65 _ (by omega), vf 68 _ (by omega), to' 231 (by decide) (by decide) (by decide), to' 237 (by decide) (by decide) (by decide), to' 232 (by decide) (by decide) (by decide)]
    refine ⟨c1, c2, c3, c4, c5, c6, c7, c8, c9, c10, c11, c12, c13, c14, ?_, ?_, ?_, c18, fun j hj => by rw [va, to' 233 (by decide) (by decide) (by decide)]; exact c19 j hj, fun j hj => by rw [va, to' 238 (by decide) (by decide) (by decide)]; exact c20 j hj⟩
    · by_cases er : r' = r
      · subst er
        rw [p1] at hb29
        cases hb29
        rw [v69, t4]
      · have hne : g' + 1 ≠ g + 1 := fun q => by
          have o1 := c8
          have o2 := hq.2.2.2.2.2.2.2.1
          rw [q] at o1
          omega
        rw [vf 69 _ (by omega), to 234 _ (by omega)]
        exact c15
    · by_cases er : r' = r
      · subst er
        rw [p1] at hb29
        cases hb29
        rw [v70, t5]
      · have hne : g' + 1 ≠ g + 1 := fun q => by
          have o1 := c8
          have o2 := hq.2.2.2.2.2.2.2.1
          rw [q] at o1
          omega
        rw [vf 70 _ (by omega), to 235 _ (by omega)]
        exact c16
    · by_cases er : r' = r
      · subst er
        rw [p1] at hb29
        cases hb29
        rw [v71, t6]
      · have hne : g' + 1 ≠ g + 1 := fun q => by
          have o1 := c8
          have o2 := hq.2.2.2.2.2.2.2.1
          rw [q] at o1
          omega
        rw [vf 71 _ (by omega), to 236 _ (by omega)]
        exact c17
  · have hi := h.2.2.2.2.2.1.2
    refine ⟨by rw [t113]; exact ⟨hi.1.1, hi.1.2.1, fun x x1 x2 => by rw [to 237 x (by omega)]; exact hi.1.2.2 x x1 x2⟩, fun r' r1' r2' => ?_⟩
    rw [t113] at r2'
    obtain ⟨c1, c2, c3, c4, c5, c6, c7, c8⟩ := hi.2 r' r1' r2'
    have to' : ∀ a, a ≠ 234 → a ≠ 235 → a ≠ 236 → ∀ x, t a x = s a x := fun a a1 a2 a3 x => to a x (fun q => by omega)
    rw [to' 231 (by decide) (by decide) (by decide), to' 232 (by decide) (by decide) (by decide), to' 237 (by decide) (by decide) (by decide)]
    by_cases er : r' = (r : Int)
    · subst er
      rw [t4, t5, t6]
      exact ⟨c1, c2, r1, r2, r2b, r3, c7, fun j j1 j2 => by rw [to' 233 (by decide) (by decide) (by decide)]; exact c8 j j1 j2⟩
    · rw [to 234 _ (by omega), to 235 _ (by omega), to 236 _ (by omega)]
      exact ⟨c1, c2, c3, c4, c5, c6, c7, fun j j1 j2 => by rw [to' 233 (by decide) (by decide) (by decide)]; exact c8 j j1 j2⟩
  · have hH := h.2.2.2.2.2.2.2.2.2.2.2
    unfold gH at hH ⊢
    rw [vS.n, vS.s, zcnt_df vS.b, t113]
    exact hH
-- a request is sent
theorem P_sendReq {L : Nat} {xs : Nat → Int} {B : Int} {own : Nat → Nat} {s : zSt} {w : zW} (hb : zBase L xs w) (h : zJ0 B 8 own s w) {r g : Nat} (hr : (r : Int) < s 113 0) (hq : zReq own s w r g) :
    ∃ v t, (∀ Q, zR 106 0 [some (.inr (some 5)), some (.inr (some (g + 1)))] [] w Q = Q none v) ∧ (∀ c Q, zKR c → zR 35 0 [some (.inr (some 194)), some (.inl (r : Int)), none] [] (zmk c s) Q = Q none (zmk c t)) ∧ zJ0 B 8 own t v ∧ zBase L xs v ∧ yRQ w v ∧ t 113 0 = s 113 0 := by
  obtain ⟨c1, c2, c3, c4, c5, c6, c7, c8, c9, c10, c11, c12, c13, c14, c15, c16, c17, c18, c19, c20⟩ := hq
  have hi := h.2.2.2.2.2.1.2
  have h40 := hi.1
  obtain ⟨i1, i2, i3, i4, i5, i6, i7, i8⟩ := hi.2 (r : Int) (by omega) hr
  have e0 : s 195 ((0 : Nat) : Int) = s 195 0 := rfl
  have e200 : s 200 ((0 : Nat) : Int) = s 200 0 := rfl
  have z0 := h.2.1.2.1
  obtain ⟨hd, b, q1, q2, q3, q4, q5, q6⟩ := h.2.2.2.1.1.1 0 (by omega) (by omega)
  rw [if_neg (by decide)] at q2 q4 q6
  have q3 : zf w 25 7 = (hd : Int) := q3
  have q4 : zf w 23 7 = (b : Int) := q4
  have hn32 : zl w g ≤ 32 := by omega
  have hcl : ∀ Q, zR 106 0 [some (.inr (some 5)), some (.inr (some (g + 1)))] [] w Q = Q none (if b + (zl w g + 7) / 8 ≤ 8 then zsnd w 7 hd b (s 231 (r : Int)) (8 + ((r % 8 : Nat) : Int)) g (zl w g) ((zl w g + 7) / 8) ((zl w g + 7) / 8) else w) := fun Q => m_106 (zk_at_5 hb) (zcq_14_5 h.1) (zPO_at hb h.1 (p := 0) (by omega)) q3 q4 q1 (by omega) c2 c12 c13 c5 c1 rfl hn32
  have hrf := fun c Q hc => m_35 (c := c) (s := s) (Q := Q) hc (r := r) (b := b) (n := zl w g) (by omega) c18 hn32 q5 (by omega)
  have sq : ∀ a, a ≠ 111 → a ≠ 229 → ∀ x, zsq s (r : Int) (zl w g) a x = s a x := fun a a1 a2 x => by rw [zsq, zpt_ne a2, zv_ne a1]
  have J1 : zJ0 B 8 own (zsq s (r : Int) (zl w g)) w := zJ_0 h ⟨rfl, fun _ _ _ => rfl, rfl, fun _ _ _ => rfl, rfl, fun a ha x => sq a (fun q => ha (by rw [q]; rfl)) (fun q => ha (by rw [q]; rfl)) x⟩
  by_cases c : b + (zl w g + 7) / 8 ≤ 8
  · rw [if_pos c] at hcl
    have s9 : ∀ j : Int, 0 ≤ j → j < (zl w g : Int) → zsq s (r : Int) (zl w g) 229 j = s 233 (32 * (r : Int) + j) := fun j j1 j2 => by rw [zsq, zpt_i j1 (by omega)]
    have js := zJ_send J1 (d := 0) (hd := hd) (b := b) (src := g) (n := zl w g) (q := (zl w g + 7) / 8) (to := s 231 (r : Int)) (kd := 8 + ((r % 8 : Nat) : Int)) (by omega) (by decide) (by rw [sq 195 (by decide) (by decide)]; omega) q3 q4 q1 rfl c hn32 (by omega) (by omega) (fun i hi => by show g ≠ 7 + 2 + 2 * i + 1; omega) (fun j hj => by rw [s9 _ (by omega) (by omega), c19 j (by omega)]) (fun j j1 j2 => by rw [s9 j j1 j2]; exact i8 j j1 (by omega)) ((zl w g + 7) / 8) (Nat.le_refl _)
    refine ⟨_, _, hcl, fun c2 Q hc => (hrf c2 Q hc).trans (by rw [if_pos c]; rfl), js.1, zBase_sf hb (zsnd_sf _) (fun j => zsnd_a0 _), zRP_rq (zRP.snd (by omega) _), ?_⟩
    rw [zsR_o (by decide) (by decide), sq 113 (by decide) (by decide)]
  · rw [if_neg c] at hcl
    exact ⟨w, _, hcl, fun c2 Q hc => (hrf c2 Q hc).trans (by rw [if_neg c]), J1, hb, yRQ.rf, sq 113 (by decide) (by decide) 0⟩
-- the whole looking
set_option maxHeartbeats 1000000 in
theorem P_looks_n {L : Nat} {xs : Nat → Int} {B : Int} {own : Nat → Nat} {n : Nat} : ∀ (j r : Nat) (s : zSt) (w : zW), r + j = n → s 113 0 = (n : Int) → zBase L xs w → zJ0 B 8 own s w → ∃ v t, (∀ Q, zR 105 2 [some (.inr (some 5)), some (.inl (r : Int))] [] w Q = Q none v) ∧ (∀ c Q, zKR c → zR 64 2 [some (.inr (some 194)), some (.inl (r : Int))] [] (zmk c s) Q = Q none (zmk c t)) ∧ yEnd L xs B t w v := by
  intro j
  induction j with
  | zero =>
    intro r s w hr hn hb h
    have : n = r := by omega
    subst this
    exact ⟨w, s, fun Q => m_105_e (zk_at_5 hb) (h.2.2.2.2.2.1.1.1.trans hn), fun c Q hc => m_64_e hc hn, ⟨own, h⟩, hb, yRQ.rf⟩
  | succ j ih =>
    intro r s w hr hn hb h
    have hrn : (r : Int) < s 113 0 := by omega
    obtain ⟨g, p1, p2⟩ := h.2.2.2.2.2.1.1.2 r hrn
    have hi := h.2.2.2.2.2.1.2
    have h40 := hi.1
    obtain ⟨i1, i2, i3, i4, i5, i6, i7, i8⟩ := hi.2 (r : Int) (by omega) hrn
    obtain ⟨c1, c2, c3, c4, c5, c6, c7, c8, c9, c10, c11, c12, c13, c14, c15, c16, c17, c18, c19, c20⟩ := id p2
    have f13 := h.2.2.2.2.2.1.1.1.trans hn
    have k5 := zk_at_5 hb
    have p12 := zcq_12_5 h.1
    have k29 := zk_at_29 hb
    have l29 := zl_at_29 hb
    -- on with the next one
    have next : ∀ (w2 : zW) (t2 : zSt), zBase L xs w2 → zJ0 B 8 own t2 w2 → yRQ w w2 → t2 113 0 = s 113 0 → (∀ Q, zR 105 2 [some (.inr (some 5)), some (.inl (r : Int))] [] w Q = zR 105 2 [some (.inr (some 5)), some (.inl ((r + 1 : Nat) : Int))] [] w2 Q) → (∀ c Q, zKR c → zR 64 2 [some (.inr (some 194)), some (.inl (r : Int))] [] (zmk c s) Q = zR 64 2 [some (.inr (some 194)), some (.inl ((r : Int) + 1))] [] (zmk c t2) Q) → ∃ v t, (∀ Q, zR 105 2 [some (.inr (some 5)), some (.inl (r : Int))] [] w Q = Q none v) ∧ (∀ c Q, zKR c → zR 64 2 [some (.inr (some 194)), some (.inl (r : Int))] [] (zmk c s) Q = Q none (zmk c t)) ∧ yEnd L xs B t w v := by
      intro w2 t2 hb2 J2 rq e113 hc1 hc2
      obtain ⟨v, t, a1, a2, a3⟩ := ih (r + 1) t2 w2 (by omega) (e113.trans hn) hb2 J2
      exact ⟨v, t, fun Q => (hc1 Q).trans (a1 Q), fun c Q hc => (hc2 c Q hc).trans (a2 c Q hc), a3.tr rq⟩
    have fl : ∀ (x1 x2 x3 : Int), True := fun _ _ _ => trivial
    by_cases k1 : s 234 (r : Int) = 1
    · by_cases k2 : 1 < s 235 (r : Int)
      · have J2 : zJ0 B 8 own (zv s 235 (r : Int) (s 235 (r : Int) - 1)) (zsf w 70 (g + 1) (s 235 (r : Int) - 1)) := J_req h hrn p1 p2 i3 (tm := s 235 (r : Int) - 1) (by omega) (by omega) i6 ⟨rfl, rfl, rfl⟩ (fun _ _ => rfl) (fun f k hk => by
            by_cases e : k = g + 1
            · exact u_f_ne (fun q => hk ⟨e, by omega⟩)
            · exact u_f_nh e) ((u_f_ne (by decide)).trans c15) u_f_eq ((u_f_ne (by decide)).trans c17) (fun a x hk => by
            by_cases e : x = (r : Int)
            · exact zv_ne (fun q => hk ⟨e, by omega⟩)
            · exact zv_nj e) (zv_ne (by decide)) zv_eq (zv_ne (by decide))
        exact next (zsf w 70 (g + 1) (s 235 (r : Int) - 1)) (zv s 235 (r : Int) (s 235 (r : Int) - 1)) (zBase_sf hb ⟨rfl, rfl, rfl⟩ (fun _ => rfl)) J2 ⟨fun f f1 f2 => u_f_ne (by omega), fun _ _ _ _ => rfl⟩ (zv_ne (by decide)) (fun Q => m_105_n k5 p12 k29 l29 f13 (by omega) (by omega) c2 p1 (fun Q => m_135_wait c2 c15 c16 c17 i3 i4 i6 ⟨k1, k2⟩)) (fun c Q hc => m_64_wait hc hn (by omega) (by omega) rfl rfl rfl i3 i4 i6 ⟨k1, k2⟩)
      · have k3 : s 235 (r : Int) = 1 := by have := i5 k1; omega
        by_cases k4 : s 236 (r : Int) = 3
        · have J2 : zJ0 B 8 own (zv (zv s 235 (r : Int) (s 235 (r : Int) - 1)) 234 (r : Int) 3) (zsf (zsf w 70 (g + 1) (s 235 (r : Int) - 1)) 69 (g + 1) 3) := J_req h hrn p1 p2 (st := 3) (tm := s 235 (r : Int) - 1) (by omega) (by omega) (by omega) i6 ⟨rfl, rfl, rfl⟩ (fun _ _ => rfl) (fun f k hk => by
              by_cases e : k = g + 1
              · rw [u_f_ne (fun q => hk ⟨e, by omega⟩), u_f_ne (fun q => hk ⟨e, by omega⟩)]
              · rw [u_f_nh e, u_f_nh e]) u_f_eq (by rw [u_f_ne (by decide), u_f_eq]) (by rw [u_f_ne (by decide), u_f_ne (by decide)]; exact c17) (fun a x hk => by
              by_cases e : x = (r : Int)
              · rw [zv_ne (fun q => hk ⟨e, by omega⟩), zv_ne (fun q => hk ⟨e, by omega⟩)]
              · rw [zv_nj e, zv_nj e]) zv_eq (by rw [zv_ne (by decide), zv_eq]) (by rw [zv_ne (by decide), zv_ne (by decide)])
          exact next (zsf (zsf w 70 (g + 1) (s 235 (r : Int) - 1)) 69 (g + 1) 3) (zv (zv s 235 (r : Int) (s 235 (r : Int) - 1)) 234 (r : Int) 3) (zBase_sf hb ⟨rfl, rfl, rfl⟩ (fun _ => rfl)) J2 ⟨fun f f1 f2 => by rw [u_f_ne (by omega), u_f_ne (by omega)], fun _ _ _ _ => rfl⟩ (by rw [zv_ne (by decide), zv_ne (by decide)]) (fun Q => m_105_n k5 p12 k29 l29 f13 (by omega) (by omega) c2 p1 (fun Q => m_135_lost c2 c15 c16 c17 i3 i4 i6 ⟨k1, k3, k4⟩)) (fun c Q hc => m_64_lost hc hn (by omega) (by omega) rfl rfl rfl i3 i4 i6 ⟨k1, k3, k4⟩)
        · have J2 : zJ0 B 8 own (zv (zv (zv s 235 (r : Int) (s 235 (r : Int) - 1)) 236 (r : Int) (s 236 (r : Int) + 1)) 235 (r : Int) 30) (zsf (zsf (zsf w 70 (g + 1) (s 235 (r : Int) - 1)) 71 (g + 1) (s 236 (r : Int) + 1)) 70 (g + 1) 30) := J_req h hrn p1 p2 (st := s 234 (r : Int)) (tm := 30) (sd := s 236 (r : Int) + 1) i3 (by omega) (by omega) (by omega) ⟨rfl, rfl, rfl⟩ (fun _ _ => rfl) (fun f k hk => by
              by_cases e : k = g + 1
              · rw [u_f_ne (fun q => hk ⟨e, by omega⟩), u_f_ne (fun q => hk ⟨e, by omega⟩), u_f_ne (fun q => hk ⟨e, by omega⟩)]
              · rw [u_f_nh e, u_f_nh e, u_f_nh e]) (by rw [u_f_ne (by decide), u_f_ne (by decide), u_f_ne (by decide)]; exact c15) u_f_eq (by rw [u_f_ne (by decide), u_f_eq]) (fun a x hk => by
              by_cases e : x = (r : Int)
              · rw [zv_ne (fun q => hk ⟨e, by omega⟩), zv_ne (fun q => hk ⟨e, by omega⟩), zv_ne (fun q => hk ⟨e, by omega⟩)]
              · rw [zv_nj e, zv_nj e, zv_nj e]) (by rw [zv_ne (by decide), zv_ne (by decide), zv_ne (by decide)]) zv_eq (by rw [zv_ne (by decide), zv_eq])
          have hb2 : zBase L xs (zsf (zsf (zsf w 70 (g + 1) (s 235 (r : Int) - 1)) 71 (g + 1) (s 236 (r : Int) + 1)) 70 (g + 1) 30) := zBase_sf hb ⟨rfl, rfl, rfl⟩ (fun _ => rfl)
          have rq0 : yRQ w (zsf (zsf (zsf w 70 (g + 1) (s 235 (r : Int) - 1)) 71 (g + 1) (s 236 (r : Int) + 1)) 70 (g + 1) 30) := ⟨fun f f1 f2 => by rw [u_f_ne (by omega), u_f_ne (by omega), u_f_ne (by omega)], fun _ _ _ _ => rfl⟩
          have e13 : zv (zv (zv s 235 (r : Int) (s 235 (r : Int) - 1)) 236 (r : Int) (s 236 (r : Int) + 1)) 235 (r : Int) 30 113 0 = s 113 0 := by rw [zv_ne (by decide), zv_ne (by decide), zv_ne (by decide)]
          obtain ⟨g', y1, y2⟩ := J2.2.2.2.2.2.1.1.2 r (by rw [e13]; exact hrn)
          have eg : g' = g := by
            have y3 : zb w 29 r = some (g' + 1) := y1
            rw [p1] at y3
            cases y3
            rfl
          subst eg
          obtain ⟨v, t, a1, a2, a3, a4, a5, a6⟩ := P_sendReq hb2 J2 (by rw [e13]; exact hrn) y2
          exact next v t a4 a3 (yRQ.tr rq0 a5) (a6.trans e13) (fun Q => m_105_y k5 p12 k29 l29 f13 (by omega) (by omega) c2 p1 (fun Q => m_135_again c2 c15 c16 c17 i3 i4 i6 ⟨k1, k3, k4⟩) k5 p12 k29 l29 p1 a1) (fun c Q hc => m_64_again hc hn (by omega) (by omega) rfl rfl rfl i3 i4 i6 ⟨k1, k3, k4⟩ (fun Q => a2 c Q hc))
    · exact next w s hb h yRQ.rf rfl (fun Q => m_105_n k5 p12 k29 l29 f13 (by omega) (by omega) c2 p1 (fun Q => m_135_idle c2 c15 c16 c17 i3 i4 i6 k1)) (fun c Q hc => m_64_idle hc hn (by omega) (by omega) rfl rfl rfl i3 i4 i6 k1)
theorem P_looks {L : Nat} {xs : Nat → Int} {B : Int} {own : Nat → Nat} {s : zSt} {w : zW} (hb : zBase L xs w) (h : zJ0 B 8 own s w) : ∃ v t, (∀ Q, zR 105 0 [some (.inr (some 5)), none] [] w Q = Q none v) ∧ (∀ c Q, zKR c → zR 64 0 [some (.inr (some 194)), none] [] (zmk c s) Q = Q none (zmk c t)) ∧ yEnd L xs B t w v := by
  have hi := h.2.2.2.2.2.1.2.1
  obtain ⟨v, t, a1, a2, a3⟩ := P_looks_n (n := (s 113 0).toNat) (s 113 0).toNat 0 s w (by omega) (by omega) hb h
  refine ⟨v, t, fun Q => ?_, fun c Q hc => ?_, a3⟩
  · rw [zr_105_0, zr_105_1]
    exact a1 Q
  · rw [zr_64_0, zr_64_1]
    exact a2 c Q hc
