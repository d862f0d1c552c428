-- both sides together: the bridge passes a packet on
theorem m_75_n0 {w : zW} {Q : Option zV → zW → Prop} {k : Nat} {to : Int} (k30 : zk w 30 = 4) (k3 : zk w k = 3) (f26 : zf w 26 k = to) (rt : 0 ≤ to ∧ to ≤ 255) (hc : to < 32) : zR 75 0 [some (.inr (some 30)), some (.inr (some k)), some (.inl 0), none, none, none] [] w Q = Q none w := by
  rw [zr_75_0, zr_75_1 (by exact k3), f26, zr_75_4, zr_75_6, zN_of (x := to) (by omega) (by omega), show zN 32 = 32 by decide, if_pos (by omega), zr_75_13, zr_75_14, zr_75_15, zr_75_16, zr_75_17, show zN 0 = 0 by decide, if_neg (by omega), zr_75_20, zr_75_21, zr_75_25, show zN 0 = 0 by decide, show zN 1 = 1 by decide, if_neg (by omega), zr_75_28]
theorem m_75_n1 {w : zW} {Q : Option zV → zW → Prop} {k : Nat} {to : Int} (k30 : zk w 30 = 4) (k3 : zk w k = 3) (f26 : zf w 26 k = to) (rt : 0 ≤ to ∧ to ≤ 255) (hc : 32 ≤ to) : zR 75 0 [some (.inr (some 30)), some (.inr (some k)), some (.inl 1), none, none, none] [] w Q = Q none w := by
  rw [zr_75_0, zr_75_1 (by exact k3), f26, zr_75_4, zr_75_6, zN_of (x := to) (by omega) (by omega), show zN 32 = 32 by decide, if_neg (by omega), zr_75_9, zr_75_10, zr_75_14, zr_75_15, zr_75_16, zr_75_17, show zN 1 = 1 by decide, if_pos (by omega), zr_75_24, zr_75_25, show zN 1 = 1 by decide, show zN 0 = 0 by decide, if_neg (by omega), zr_75_28]
theorem m_75_y0 {w : zW} {Q : Option zV → zW → Prop} {k : Nat} {to : Int} (k30 : zk w 30 = 4) (k3 : zk w k = 3) (f26 : zf w 26 k = to) (rt : 0 ≤ to ∧ to ≤ 255) {so fl : Int} {ln a b : Nat} (f27 : zf w 27 k = so) (f28 : zf w 28 k = fl) (f29 : zf w 29 k = (ln : Int)) (hln8 : ln ≤ 8) (kp : zp w 30 k = some (k + 1)) (kk : zk w (k + 1) = 12) (kl : zl w (k + 1) = 8) (p31 : zp w 31 30 = some 52) (hp : zPO w 52) (ha : zf w 25 52 = (a : Int)) (hb : zf w 23 52 = (b : Int)) (h1 : a < 8) (h2 : b ≤ 7) (hkp : k ≠ 52) (hkq : k ≠ 52 + 2 + 2 * ((a + b) % 8)) (hc : 32 ≤ to) : zR 75 0 [some (.inr (some 30)), some (.inr (some k)), some (.inl 0), none, none, none] [] w Q = Q none (zsnd1 w 52 ((b : Int) + 1) to so fl (52 + 2 + 2 * ((a + b) % 8)) (k + 1) 0 ln) := by
  have hpk := hp.2.2.2.2 ((a + b) % 8) (by omega)
  have en : zN (ln : Int) = ln := zN_of (by omega) (by omega)
  have tn : (zN (ln : Int)).toNat = ln := by rw [en, Int.toNat_natCast]
  rw [zr_75_0, zr_75_1 (by exact k3), f26, zr_75_4, zr_75_6, zN_of (x := to) (by omega) (by omega), show zN 32 = 32 by decide, if_neg (by omega), zr_75_9, zr_75_10, zr_75_14, zr_75_15, zr_75_16, zr_75_17, show zN 0 = 0 by decide, if_neg (by omega), zr_75_20, zr_75_21, zr_75_25, show zN 1 = 1 by decide, if_pos (by omega), zr_75_29, zr_75_30, show zN 0 = 0 by decide, if_neg (by omega), zr_75_33, zr_75_34 (by exact k30), p31, zr_75_37, zr_75_44, zr_75_46, zr_75_48, zr_75_49 (by exact Nat.le_of_ble_eq_true rfl) (by exact hp.1), m_129 hp.1, hb, if_neg (show ¬ (8 : Int) < zN ((b : Int) + 1) by rw [zN_of (by omega) (by omega)]; omega), Option.toList_some, List.cons_append, List.nil_append, zr_75_52, show zN 1 = 1 by decide, if_neg (by omega), zr_75_55, zr_75_57 (by exact Nat.le_of_ble_eq_true rfl) (by exact hp.1), m_131p hp ha hb h1 (by omega), Option.toList_some, List.cons_append, List.nil_append, zr_75_60, zr_75_62, zr_75_64, zr_75_65 (by exact k3), u_f_ne (by decide), f26, zr_75_68, zr_75_69 (by exact k3), u_f_ne (by decide), f27, zr_75_72, zr_75_73 (by exact k3), u_f_ne (by decide), f28, zr_75_76 (by exact Nat.le_of_ble_eq_true rfl) (by exact hpk.2.1), m_117 (by exact hpk.2.1), Option.toList_none, List.nil_append, zr_75_79, zr_75_81, zr_75_82 (by exact k3), u_p_sf, u_p_sf, u_p_sf, u_p_sf, kp, zr_75_85, zr_75_86, zr_75_87 (by exact k3), u_f_ne (by decide), u_f_ne (by decide), u_f_ne (by decide), u_f_ne (by decide), f29, zr_75_90 (by exact Nat.le_of_ble_eq_true rfl) (by exact hpk.2.1), m_118 (by exact hpk.2.1) (by exact hpk.2.2.1) (by exact kk) (by exact hpk.2.2.2.1) (by decide) (by rw [en]; omega) (by rw [en, show zN 0 = 0 by decide]; show _ ≤ ((zl w (k + 1) : Nat) : Int); rw [kl]; omega) (by rw [en]; show _ ≤ ((zl w ((52 + 2 + 2 * ((a + b) % 8)) + 1) : Nat) : Int); rw [hpk.2.2.2.2]; omega), show (zN 0).toNat = 0 by decide, tn, Option.toList_none, List.nil_append, zr_75_93]
  rfl
theorem m_75_y0f {w : zW} {Q : Option zV → zW → Prop} {k : Nat} {to : Int} (k30 : zk w 30 = 4) (k3 : zk w k = 3) (f26 : zf w 26 k = to) (rt : 0 ≤ to ∧ to ≤ 255) (p31 : zp w 31 30 = some 52) (hp : zPO w 52) {b : Nat} (hb : zf w 23 52 = (b : Int)) (h2 : b = 8) (hc : 32 ≤ to) : zR 75 0 [some (.inr (some 30)), some (.inr (some k)), some (.inl 0), none, none, none] [] w Q = Q none w := by
  rw [zr_75_0, zr_75_1 (by exact k3), f26, zr_75_4, zr_75_6, zN_of (x := to) (by omega) (by omega), show zN 32 = 32 by decide, if_neg (by omega), zr_75_9, zr_75_10, zr_75_14, zr_75_15, zr_75_16, zr_75_17, show zN 0 = 0 by decide, if_neg (by omega), zr_75_20, zr_75_21, zr_75_25, show zN 1 = 1 by decide, if_pos (by omega), zr_75_29, zr_75_30, show zN 0 = 0 by decide, if_neg (by omega), zr_75_33, zr_75_34 (by exact k30), p31, zr_75_37, zr_75_44, zr_75_46, zr_75_48, zr_75_49 (by exact Nat.le_of_ble_eq_true rfl) (by exact hp.1), m_129 hp.1, hb, if_pos (show (8 : Int) < zN ((b : Int) + 1) by rw [zN_of (by omega) (by omega)]; omega), Option.toList_some, List.cons_append, List.nil_append, zr_75_52, show zN 0 = 0 by decide, if_pos (by omega), zr_75_93]
theorem m_75_y1 {w : zW} {Q : Option zV → zW → Prop} {k : Nat} {to : Int} (k30 : zk w 30 = 4) (k3 : zk w k = 3) (f26 : zf w 26 k = to) (rt : 0 ≤ to ∧ to ≤ 255) {so fl : Int} {ln a b : Nat} (f27 : zf w 27 k = so) (f28 : zf w 28 k = fl) (f29 : zf w 29 k = (ln : Int)) (hln8 : ln ≤ 8) (kp : zp w 30 k = some (k + 1)) (kk : zk w (k + 1) = 12) (kl : zl w (k + 1) = 8) (p14 : zp w 14 30 = some 32) (hp : zPO w 32) (ha : zf w 25 32 = (a : Int)) (hb : zf w 23 32 = (b : Int)) (h1 : a < 8) (h2 : b ≤ 7) (hkp : k ≠ 32) (hkq : k ≠ 32 + 2 + 2 * ((a + b) % 8)) (hc : to < 32) : zR 75 0 [some (.inr (some 30)), some (.inr (some k)), some (.inl 1), none, none, none] [] w Q = Q none (zsnd1 w 32 ((b : Int) + 1) to so fl (32 + 2 + 2 * ((a + b) % 8)) (k + 1) 0 ln) := by
  have hpk := hp.2.2.2.2 ((a + b) % 8) (by omega)
  have en : zN (ln : Int) = ln := zN_of (by omega) (by omega)
  have tn : (zN (ln : Int)).toNat = ln := by rw [en, Int.toNat_natCast]
  rw [zr_75_0, zr_75_1 (by exact k3), f26, zr_75_4, zr_75_6, zN_of (x := to) (by omega) (by omega), show zN 32 = 32 by decide, if_pos (by omega), zr_75_13, zr_75_14, zr_75_15, zr_75_16, zr_75_17, show zN 1 = 1 by decide, if_pos (by omega), zr_75_24, zr_75_25, show zN 0 = 0 by decide, if_pos (by omega), zr_75_29, zr_75_30, show zN 1 = 1 by decide, if_pos (by omega), zr_75_40, zr_75_41 (by exact k30), p14, zr_75_44, zr_75_46, zr_75_48, zr_75_49 (by exact Nat.le_of_ble_eq_true rfl) (by exact hp.1), m_129 hp.1, hb, if_neg (show ¬ (8 : Int) < zN ((b : Int) + 1) by rw [zN_of (by omega) (by omega)]; omega), Option.toList_some, List.cons_append, List.nil_append, zr_75_52, show zN 1 = 1 by decide, if_neg (by omega), zr_75_55, zr_75_57 (by exact Nat.le_of_ble_eq_true rfl) (by exact hp.1), m_131p hp ha hb h1 (by omega), Option.toList_some, List.cons_append, List.nil_append, zr_75_60, zr_75_62, zr_75_64, zr_75_65 (by exact k3), u_f_ne (by decide), f26, zr_75_68, zr_75_69 (by exact k3), u_f_ne (by decide), f27, zr_75_72, zr_75_73 (by exact k3), u_f_ne (by decide), f28, zr_75_76 (by exact Nat.le_of_ble_eq_true rfl) (by exact hpk.2.1), m_117 (by exact hpk.2.1), Option.toList_none, List.nil_append, zr_75_79, zr_75_81, zr_75_82 (by exact k3), u_p_sf, u_p_sf, u_p_sf, u_p_sf, kp, zr_75_85, zr_75_86, zr_75_87 (by exact k3), u_f_ne (by decide), u_f_ne (by decide), u_f_ne (by decide), u_f_ne (by decide), f29, zr_75_90 (by exact Nat.le_of_ble_eq_true rfl) (by exact hpk.2.1), m_118 (by exact hpk.2.1) (by exact hpk.2.2.1) (by exact kk) (by exact hpk.2.2.2.1) (by decide) (by rw [en]; omega) (by rw [en, show zN 0 = 0 by decide]; show _ ≤ ((zl w (k + 1) : Nat) : Int); rw [kl]; omega) (by rw [en]; show _ ≤ ((zl w ((32 + 2 + 2 * ((a + b) % 8)) + 1) : Nat) : Int); rw [hpk.2.2.2.2]; omega), show (zN 0).toNat = 0 by decide, tn, Option.toList_none, List.nil_append, zr_75_93]
  rfl
theorem m_75_y1f {w : zW} {Q : Option zV → zW → Prop} {k : Nat} {to : Int} (k30 : zk w 30 = 4) (k3 : zk w k = 3) (f26 : zf w 26 k = to) (rt : 0 ≤ to ∧ to ≤ 255) (p14 : zp w 14 30 = some 32) (hp : zPO w 32) {b : Nat} (hb : zf w 23 32 = (b : Int)) (h2 : b = 8) (hc : to < 32) : zR 75 0 [some (.inr (some 30)), some (.inr (some k)), some (.inl 1), none, none, none] [] w Q = Q none w := by
  rw [zr_75_0, zr_75_1 (by exact k3), f26, zr_75_4, zr_75_6, zN_of (x := to) (by omega) (by omega), show zN 32 = 32 by decide, if_pos (by omega), zr_75_13, zr_75_14, zr_75_15, zr_75_16, zr_75_17, show zN 1 = 1 by decide, if_pos (by omega), zr_75_24, zr_75_25, show zN 0 = 0 by decide, if_pos (by omega), zr_75_29, zr_75_30, show zN 1 = 1 by decide, if_pos (by omega), zr_75_40, zr_75_41 (by exact k30), p14, zr_75_44, zr_75_46, zr_75_48, zr_75_49 (by exact Nat.le_of_ble_eq_true rfl) (by exact hp.1), m_129 hp.1, hb, if_pos (show (8 : Int) < zN ((b : Int) + 1) by rw [zN_of (by omega) (by omega)]; omega), Option.toList_some, List.cons_append, List.nil_append, zr_75_52, show zN 0 = 0 by decide, if_pos (by omega), zr_75_93]
-- a packet is appended to the output of port p, whatever the state says of it beyond its bytes
theorem gQ_app {e : Nat} {s t : zSt} {w : zW} {p hd b src sp n : Nat} {to ep fl : Int} {g : Int → Int} (h : gQ e s w) (hi : iQ s) (hp : p < 8) (hpe : p ≠ e) (hlive : 0 ≤ s 195 (p : Int)) (h25 : zf w 25 (zPt p) = (hd : Int)) (h23 : zf w 23 (zPt p) = (b : Int)) (hhd : hd < 8) (hb : b < 8) (hcn : ∀ j : Nat, j < n → za w src (sp + j) = g (j : Int))
    (t195 : ∀ x, t 195 x = s 195 x) (t2 : t 200 (p : Int) = (b : Int) + 1) (t2o : ∀ x : Int, x ≠ (p : Int) → t 200 x = s 200 x) (t1o : ∀ x : Int, (x < 12 * (8 * (p : Int) + (b : Int)) ∨ 12 * (8 * (p : Int) + (b : Int)) + 12 ≤ x) → t 201 x = s 201 x) (e0 : t 201 (12 * (8 * (p : Int) + (b : Int))) = to) (e1 : t 201 (12 * (8 * (p : Int) + (b : Int)) + 1) = ep) (e2 : t 201 (12 * (8 * (p : Int) + (b : Int)) + 2) = fl) (e3 : t 201 (12 * (8 * (p : Int) + (b : Int)) + 3) = (n : Int)) (eb : ∀ j : Nat, j < n → t 201 (12 * (8 * (p : Int) + (b : Int)) + 4 + (j : Int)) = g (j : Int)) :
    gQ e t (zsnd1 w (zPt p) ((b : Int) + 1) to ep fl (zPt p + 2 + 2 * ((hd + b) % 8)) src sp n) := by
  have hpp := zPt_c hp
  refine ⟨fun q hq hl => ?_, fun q hq => ?_⟩
  · rw [t195] at hl
    have hqq := zPt_c hq
    by_cases f1 : q = p
    · subst f1
      obtain ⟨hd2, b2, a1, a2, a3, a4, a5, a6⟩ := h.1 q hq hl
      rw [if_neg hpe] at a2 a4 a6
      rw [if_neg hpe]
      have f2 : hd2 = hd := by omega
      have f3 : b2 = b := by omega
      subst f2
      subst f3
      refine ⟨hd2, b2 + 1, a1, by omega, ?_, ?_, ?_, fun k hk => ?_⟩
      · rw [zsnd1_f (by decide) (by decide) (by decide) (by decide) (by decide)]
        exact a3
      · rw [zsnd1_23]
        omega
      · rw [t2]
        omega
      · by_cases f4 : k = b2
        · subst f4
          unfold zEnt
          rw [show hd2 + 0 + k = hd2 + k by omega, e0, e1, e2, e3]
          refine ⟨zsnd1_pk.1, zsnd1_pk.2.1, zsnd1_pk.2.2.1, zsnd1_pk.2.2.2, fun j hj => ?_⟩
          rw [eb j (by omega), zsnd1_ab (by omega)]
          exact hcn j (by omega)
        · have hok := hi (q : Int) (k : Int) (by omega) (by omega) hl (by omega) (by omega)
          exact zEnt_old (p := q) (a6 k (by omega)) (by omega) (by omega) hok.1.2.2.2.1.2 (fun x h1 h2 => t1o x (by omega))
    · have hdis := zPt_dis hp hq (fun e => f1 e.symm)
      obtain ⟨hd2, b2, a1, a2, a3, a4, a5, a6⟩ := h.1 q hq hl
      refine ⟨hd2, b2, a1, a2, ?_, ?_, ?_, fun k hk => ?_⟩
      · rw [zsnd1_fh (by omega) (by omega)]
        exact a3
      · rw [zsnd1_fh (by omega) (by omega)]
        exact a4
      · rw [t2o _ (by omega)]
        exact a5
      · have hok := hi (q : Int) (k : Int) (by omega) (by omega) hl (by omega) (by omega)
        exact zEnt_old (p := q) (a6 k hk) (by omega) (by omega) hok.1.2.2.2.1.2 (fun x h1 h2 => t1o x (by omega))
  · by_cases f1 : q = p
    · subst f1
      refine ⟨hd, b + 1, hhd, by omega, ?_, ?_⟩
      · rw [zsnd1_f (by decide) (by decide) (by decide) (by decide) (by decide)]
        exact h25
      · rw [zsnd1_23]
        omega
    · have hdis := zPt_dis hp hq (fun e => f1 e.symm)
      have hqq := zPt_c hq
      obtain ⟨hd2, b2, a1, a2, a3, a4⟩ := h.2 q hq
      exact ⟨hd2, b2, a1, a2, by rw [zsnd1_fh (by omega) (by omega)]; exact a3, by rw [zsnd1_fh (by omega) (by omega)]; exact a4⟩
theorem iQ_app {s t : zSt} {p b : Nat} (h : iQ s) (hp : p < 8) (hb : s 200 (p : Int) = (b : Int)) (hb8 : b < 8) (h8 : ∀ q : Int, 0 ≤ q → q < 8 → 0 ≤ s 195 q → s 200 q ≤ 8) (t195 : ∀ x, t 195 x = s 195 x) (t2 : t 200 (p : Int) = (b : Int) + 1) (t2o : ∀ x : Int, x ≠ (p : Int) → t 200 x = s 200 x) (t1o : ∀ x : Int, (x < 12 * (8 * (p : Int) + (b : Int)) ∨ 12 * (8 * (p : Int) + (b : Int)) + 12 ≤ x) → t 201 x = s 201 x) (hn : zOK t (12 * (8 * (p : Int) + (b : Int)))) (h7 : p = 7 → 32 ≤ t 201 (12 * (8 * (p : Int) + (b : Int)))) : iQ t := by
  intro q k h1 h2 h3 h4 h5
  rw [t195] at h3
  by_cases e : q = (p : Int) ∧ k = (b : Int)
  · obtain ⟨e1, e2⟩ := e
    subst e1
    subst e2
    exact ⟨hn, fun q => h7 (by omega)⟩
  · have hk : k < s 200 q := by
      by_cases e1 : q = (p : Int)
      · subst e1
        rw [t2] at h5
        omega
      · rw [t2o q e1] at h5
        exact h5
    have hq8 := h8 q h1 h2 h3
    have hok := h q k h1 h2 h3 h4 hk
    have hx : ∀ x : Int, 12 * (8 * q + k) ≤ x → x < 12 * (8 * q + k) + 12 → t 201 x = s 201 x := fun x x1 x2 => t1o x (by omega)
    obtain ⟨hok, hok7⟩ := hok
    refine ⟨?_, fun q7 => by rw [hx (12 * (8 * q + k)) (by omega) (by omega)]; exact hok7 q7⟩
    unfold zOK at hok ⊢
    rw [hx (12 * (8 * q + k)) (by omega) (by omega), hx (12 * (8 * q + k) + 1) (by omega) (by omega), hx (12 * (8 * q + k) + 2) (by omega) (by omega), hx (12 * (8 * q + k) + 3) (by omega) (by omega)]
    refine ⟨hok.1, hok.2.1, hok.2.2.1, hok.2.2.2.1, fun j j1 j2 => ?_⟩
    rw [hx _ (by omega) (by omega)]
    exact hok.2.2.2.2 j j1 j2
-- the packet that is being delivered: in range
def zPkI (s : zSt) : Prop := (0 ≤ s 228 0 ∧ s 228 0 ≤ 255) ∧ (0 ≤ s 228 1 ∧ s 228 1 ≤ 63) ∧ (0 ≤ s 228 2 ∧ s 228 2 ≤ 255) ∧ (1 ≤ s 228 3 ∧ s 228 3 ≤ 8) ∧ ∀ j : Int, 0 ≤ j → j < s 228 3 → 0 ≤ s 228 (4 + j) ∧ s 228 (4 + j) ≤ 255
theorem zps_f {s : zSt} {q k : Int} : (∀ a, a ≠ 200 → a ≠ 201 → ∀ x, zps s q k a x = s a x) ∧ zps s q k 200 q = k + 1 ∧ (∀ x, x ≠ q → zps s q k 200 x = s 200 x) ∧ (∀ x, (x < 12 * (8 * q + k) ∨ 12 * (8 * q + k) + 12 ≤ x) → zps s q k 201 x = s 201 x) ∧ (∀ j, 0 ≤ j → j < 12 → zps s q k 201 (12 * (8 * q + k) + j) = s 228 j) := by
  refine ⟨fun a h1 h2 x => ?_, zv_eq, fun x hx => ?_, fun x hx => ?_, fun j j1 j2 => ?_⟩
  · rw [zps, zv_ne h1, zpt_ne h2]
  · rw [zps, zv_nj hx, zpt_ne (by decide)]
  · rw [zps, zv_ne (by decide), zpt_o hx]
  · rw [zps, zv_ne (by decide), zpt_i (by omega) (by omega), show 12 * (8 * q + k) + j - 12 * (8 * q + k) = j by omega]
theorem J_pass {B : Int} {e : Nat} {own : Nat → Nat} {s : zSt} {w : zW} (h : zJ0 B e own s w) {p hd b k ln : Nat} (hp : p < 8) (hpe : p ≠ e) (hlive : 0 ≤ s 195 (p : Int)) (h25 : zf w 25 (zPt p) = (hd : Int)) (h23 : zf w 23 (zPt p) = (b : Int)) (hs : s 200 (p : Int) = (b : Int)) (hhd : hd < 8) (hb : b < 8) (hpk : zPkt s w k) (hI : zPkI s) (hln : s 228 3 = (ln : Int)) (h7 : p = 7 → 32 ≤ s 228 0) : zJ0 B e own (zps s (p : Int) (b : Int)) (zsnd1 w (zPt p) ((b : Int) + 1) (s 228 0) (s 228 1) (s 228 2) (zPt p + 2 + 2 * ((hd + b) % 8)) (k + 1) 0 ln) := by
  obtain ⟨z1, z2, z3, z4, z5⟩ := zps_f (s := s) (q := (p : Int)) (k := (b : Int))
  obtain ⟨i1, i2, i3, i4, i5⟩ := hI
  have y0 : zps s (p : Int) (b : Int) 201 (12 * (8 * (p : Int) + (b : Int))) = s 228 0 := by
    have := z5 0 (by omega) (by omega)
    rw [Int.add_zero] at this
    exact this
  have y4 : ∀ j : Int, 0 ≤ j → j < 8 → zps s (p : Int) (b : Int) 201 (12 * (8 * (p : Int) + (b : Int)) + 4 + j) = s 228 (4 + j) := fun j j1 j2 => by
    have := z5 (4 + j) (by omega) (by omega)
    rw [show 12 * (8 * (p : Int) + (b : Int)) + 4 + j = 12 * (8 * (p : Int) + (b : Int)) + (4 + j) by omega]
    exact this
  refine zJ_Q h ⟨rfl, fun f hf g => zsnd1_f (fun q => hf (by rw [q]; rfl)) (fun q => hf (by rw [q]; rfl)) (fun q => hf (by rw [q]; rfl)) (fun q => hf (by rw [q]; rfl)) (fun q => hf (by rw [q]; rfl)), rfl, fun g hg j => zsnd1_ah (fun q => hg (by rw [q]; exact ag_pk p hp _ (by omega))), rfl, fun a ha x => z1 a (fun q => ha (by rw [q]; rfl)) (fun q => ha (by rw [q]; rfl)) x⟩ ⟨gQ_app (g := fun j => s 228 (4 + j)) h.2.2.2.1.1 h.2.2.2.1.2 hp hpe hlive h25 h23 hhd hb (fun j hj => by rw [Nat.zero_add]; exact hpk.2.2.2.2 j (by rw [hln]; omega)) (z1 195 (by decide) (by decide)) z2 z3 z4 y0 (z5 1 (by omega) (by omega)) (z5 2 (by omega) (by omega)) ((z5 3 (by omega) (by omega)).trans hln) (fun j hj => y4 _ (by omega) (by omega)), iQ_app h.2.2.2.1.2 hp hs hb (gQ_8 h.2.2.2.1.1) (z1 195 (by decide) (by decide)) z2 z3 z4 ?_ (fun q => by rw [y0]; exact h7 q)⟩
  unfold zOK
  rw [y0, z5 1 (by omega) (by omega), z5 2 (by omega) (by omega), z5 3 (by omega) (by omega)]
  exact ⟨i1, i2, i3, i4, fun j j1 j2 => by rw [y4 j j1 (by omega)]; exact i5 j j1 j2⟩
