-- the simple calls, second lot: both sides
def zSn (s : zSt) (a : Int) : Prop := a = 1 ∨ (2 ≤ a ∧ a ≤ 6 ∧ 0 ≤ s 195 a)
theorem zb4_at {L : Nat} {xs : Nat → Int} {w : zW} (hb : zBase L xs w) (h : zCon w) {d : Nat} (h1 : 1 ≤ d) (h7 : d < 7) : zb w 4 d = some (zNd d) := by
  have hd : d = 1 ∨ d = 2 ∨ d = 3 ∨ d = 4 ∨ d = 5 ∨ d = 6 := by omega
  rcases hd with rfl | rfl | rfl | rfl | rfl | rfl
  · exact zcb_4_1 hb h
  · exact zcb_4_2 hb h
  · exact zcb_4_3 hb h
  · exact zcb_4_4 hb h
  · exact zcb_4_5 hb h
  · exact zcb_4_6 hb h
theorem m_19_yes {L : Nat} {xs : Nat → Int} {B : Int} {e : Nat} {own : Nat → Nat} {s : zSt} {w : zW} {Q : Option zV → zW → Prop} (hb : zBase L xs w) (h : zJ0 B e own s w) {d : Nat} (hs : zSn s (d : Int)) : zR 19 0 [some (.inr (some 1)), some (.inl (d : Int))] [] w Q = Q (some (.inr (some (zNd d)))) w := by
  have hd : 1 ≤ d ∧ d < 7 := by
    rcases hs with q | q <;> omega
  have td : (zN (d : Int)).toNat = d := by rw [zN_of (by omega) (by omega), Int.toNat_natCast]
  obtain ⟨n1, -⟩ := zNd_all hb h.1 (show 1 ≤ d by omega) (by omega)
  have b4 := zb4_at hb h.1 (show 1 ≤ d by omega) (by omega)
  have f15 := h.2.1.1.1 d (by omega)
  have r195 := h.2.1.2.2.2.2 (d : Int) (by omega) (by omega)
  have i1 : s 195 1 = 0 := h.2.1.2.2.1
  by_cases c : d = 1
  · have c5 : s 195 (d : Int) = 0 := by rw [c]; exact i1
    rw [zr_19_0, zr_19_1, zr_19_2, zN_of (x := (d : Int)) (by omega) (by omega), show zN 1 = 1 by decide, if_pos (by omega), zr_19_14, zr_19_15 (by exact zk_at_1 hb), zcq_2_1 h.1, zr_19_18, zr_19_19 ⟨by show zNC + 2 < zk w 4; rw [zk_at_4 hb]; decide, by show zk w 4 < 1000; rw [zk_at_4 hb]; decide, by rw [zN_of (x := (d : Int)) (by omega) (by omega)]; omega, by rw [zN_of (x := (d : Int)) (by omega) (by omega)]; show _ < ((zl w 4 : Nat) : Int); rw [zl_at_4 hb]; omega⟩, td, b4, zr_19_20m (by exact n1), f15, zr_19_23, zr_19_24, zN_of (x := s 195 (d : Int)) (by omega) (by omega), show zN (-1) = (-1) by decide, if_pos (by omega), zr_19_31, zr_19_32 (by exact zk_at_1 hb), zcq_2_1 h.1, zr_19_35, zr_19_36 ⟨by show zNC + 2 < zk w 4; rw [zk_at_4 hb]; decide, by show zk w 4 < 1000; rw [zk_at_4 hb]; decide, by rw [zN_of (x := (d : Int)) (by omega) (by omega)]; omega, by rw [zN_of (x := (d : Int)) (by omega) (by omega)]; show _ < ((zl w 4 : Nat) : Int); rw [zl_at_4 hb]; omega⟩, td, b4, zr_19_37]
  · have c5 : 0 ≤ s 195 (d : Int) := by
      rcases hs with q | q
      · omega
      · exact q.2.2
    rw [zr_19_0, zr_19_1, zr_19_2, zN_of (x := (d : Int)) (by omega) (by omega), show zN 1 = 1 by decide, if_neg (by omega), zr_19_5, zr_19_6 (by exact Nat.le_of_ble_eq_true rfl), m_isDev1 (by rw [zN_of (by omega) (by omega)]; omega), Option.toList_some, List.cons_append, List.nil_append, zr_19_9, show zN 1 = 1 by decide, if_pos (by omega), zr_19_14, zr_19_15 (by exact zk_at_1 hb), zcq_2_1 h.1, zr_19_18, zr_19_19 ⟨by show zNC + 2 < zk w 4; rw [zk_at_4 hb]; decide, by show zk w 4 < 1000; rw [zk_at_4 hb]; decide, by rw [zN_of (x := (d : Int)) (by omega) (by omega)]; omega, by rw [zN_of (x := (d : Int)) (by omega) (by omega)]; show _ < ((zl w 4 : Nat) : Int); rw [zl_at_4 hb]; omega⟩, td, b4, zr_19_20m (by exact n1), f15, zr_19_23, zr_19_24, zN_of (x := s 195 (d : Int)) (by omega) (by omega), show zN (-1) = (-1) by decide, if_pos (by omega), zr_19_31, zr_19_32 (by exact zk_at_1 hb), zcq_2_1 h.1, zr_19_35, zr_19_36 ⟨by show zNC + 2 < zk w 4; rw [zk_at_4 hb]; decide, by show zk w 4 < 1000; rw [zk_at_4 hb]; decide, by rw [zN_of (x := (d : Int)) (by omega) (by omega)]; omega, by rw [zN_of (x := (d : Int)) (by omega) (by omega)]; show _ < ((zl w 4 : Nat) : Int); rw [zl_at_4 hb]; omega⟩, td, b4, zr_19_37]
theorem m_19_no {L : Nat} {xs : Nat → Int} {B : Int} {e : Nat} {own : Nat → Nat} {s : zSt} {w : zW} {Q : Option zV → zW → Prop} (hb : zBase L xs w) (h : zJ0 B e own s w) {a : Int} (rg : -2147483648 ≤ a ∧ a < 2147483648) (hs : ¬ zSn s a) : zR 19 0 [some (.inr (some 1)), some (.inl a)] [] w Q = Q (some (.inr none)) w := by
  have ha1 : a ≠ 1 := fun q => hs (Or.inl q)
  by_cases c : 2 ≤ a ∧ a ≤ 6
  · obtain ⟨d, hd0⟩ : ∃ d : Nat, a = (d : Int) := ⟨a.toNat, by omega⟩
    subst hd0
    have td : (zN (d : Int)).toNat = d := by rw [zN_of (by omega) (by omega), Int.toNat_natCast]
    obtain ⟨n1, -⟩ := zNd_all hb h.1 (show 1 ≤ d by omega) (by omega)
    have b4 := zb4_at hb h.1 (show 1 ≤ d by omega) (by omega)
    have f15 := h.2.1.1.1 d (by omega)
    have r195 := h.2.1.2.2.2.2 (d : Int) (by omega) (by omega)
    have c5 : s 195 (d : Int) = -1 := by
      by_cases q : 0 ≤ s 195 (d : Int)
      · exact absurd (Or.inr ⟨c.1, c.2, q⟩) hs
      · omega
    rw [zr_19_0, zr_19_1, zr_19_2, zN_of (x := (d : Int)) (by omega) (by omega), show zN 1 = 1 by decide, if_neg (by omega), zr_19_5, zr_19_6 (by exact Nat.le_of_ble_eq_true rfl), m_isDev1 (by rw [zN_of (by omega) (by omega)]; omega), Option.toList_some, List.cons_append, List.nil_append, zr_19_9, show zN 1 = 1 by decide, if_pos (by omega), zr_19_14, zr_19_15 (by exact zk_at_1 hb), zcq_2_1 h.1, zr_19_18, zr_19_19 ⟨by show zNC + 2 < zk w 4; rw [zk_at_4 hb]; decide, by show zk w 4 < 1000; rw [zk_at_4 hb]; decide, by rw [zN_of (x := (d : Int)) (by omega) (by omega)]; omega, by rw [zN_of (x := (d : Int)) (by omega) (by omega)]; show _ < ((zl w 4 : Nat) : Int); rw [zl_at_4 hb]; omega⟩, td, b4, zr_19_20m (by exact n1), f15, zr_19_23, zr_19_24, zN_of (x := s 195 (d : Int)) (by omega) (by omega), show zN (-1) = (-1) by decide, if_neg (by omega), zr_19_27, zr_19_28, zr_19_37]
  · skip
    rw [zr_19_0, zr_19_1, zr_19_2, zN_of (x := a) (by omega) (by omega), show zN 1 = 1 by decide, if_neg (by omega), zr_19_5, zr_19_6 (by exact Nat.le_of_ble_eq_true rfl), m_isDev0 (by rw [zN_of (by omega) (by omega)]; omega), Option.toList_some, List.cons_append, List.nil_append, zr_19_9, show zN 0 = 0 by decide, if_neg (by omega), zr_19_12, zr_19_13]
theorem m_28_yes {c : zW} {s : zSt} {Q : Option zV → zW → Prop} (hc : zKR c) {a : Int} (hs : zSn s a) (r5 : -1 ≤ s 195 a ∧ s 195 a ≤ 1) : zR 28 0 [some (.inr (some 194)), some (.inl a)] [] (zmk c s) Q = Q (some (.inl 1)) (zmk c s) := by
  by_cases c1 : a = 1
  · skip
    rw [zr_28_0, zr_28_1, zr_28_2, zN_of (x := a) (by omega) (by omega), show zN 1 = 1 by decide, if_pos (by omega), zr_28_21, zr_28_22, zr_28_26 (Or.inr (by decide))]
  · have c5 : 2 ≤ a ∧ a ≤ 6 ∧ 0 ≤ s 195 a := by
      rcases hs with q | q
      · exact absurd q c1
      · exact q
    rw [zr_28_0, zr_28_1, zr_28_2, zN_of (x := a) (by omega) (by omega), show zN 1 = 1 by decide, if_neg (by omega), zr_28_5, zr_28_6 (by exact Nat.le_of_ble_eq_true rfl), m_device1 (by rw [zN_of (by omega) (by omega)]; omega), Option.toList_some, List.cons_append, List.nil_append, zr_28_9, show zN 1 = 1 by decide, if_neg (by omega), zr_28_12, zr_28_13 (rk_194 hc), rp_73 hc, zr_28_16, zr_28_17 (ri_195 hc (by omega) (by omega)), ra (h := 195) (j := a) (by decide) (by decide) (by omega) (by omega), zr_28_18, zN_of (x := s 195 a) (by omega) (by omega), if_neg (by omega), zr_28_21, zr_28_22, zr_28_26 (Or.inr (by decide))]
theorem m_28_no {c : zW} {s : zSt} {Q : Option zV → zW → Prop} (hc : zKR c) {a : Int} (rg : -2147483648 ≤ a ∧ a < 2147483648) (hs : ¬ zSn s a) (r5 : 0 ≤ a → a < 8 → -1 ≤ s 195 a ∧ s 195 a ≤ 1) : zR 28 0 [some (.inr (some 194)), some (.inl a)] [] (zmk c s) Q = Q (some (.inl 0)) (zmk c s) := by
  have ha1 : a ≠ 1 := fun q => hs (Or.inl q)
  by_cases c1 : 2 ≤ a ∧ a ≤ 6
  · have c5 : ¬ 0 ≤ s 195 a := fun q => hs (Or.inr ⟨c1.1, c1.2, q⟩)
    have r55 := r5 (by omega) (by omega)
    rw [zr_28_0, zr_28_1, zr_28_2, zN_of (x := a) (by omega) (by omega), show zN 1 = 1 by decide, if_neg (by omega), zr_28_5, zr_28_6 (by exact Nat.le_of_ble_eq_true rfl), m_device1 (by rw [zN_of (by omega) (by omega)]; omega), Option.toList_some, List.cons_append, List.nil_append, zr_28_9, show zN 1 = 1 by decide, if_neg (by omega), zr_28_12, zr_28_13 (rk_194 hc), rp_73 hc, zr_28_16, zr_28_17 (ri_195 hc (by omega) (by omega)), ra (h := 195) (j := a) (by decide) (by decide) (by omega) (by omega), zr_28_18, zN_of (x := s 195 a) (by omega) (by omega), if_pos (by omega), zr_28_25, zr_28_26 (Or.inl (by decide))]
  · skip
    rw [zr_28_0, zr_28_1, zr_28_2, zN_of (x := a) (by omega) (by omega), show zN 1 = 1 by decide, if_neg (by omega), zr_28_5, zr_28_6 (by exact Nat.le_of_ble_eq_true rfl), m_device0 (by rw [zN_of (by omega) (by omega)]; omega), Option.toList_some, List.cons_append, List.nil_append, zr_28_9, show zN 0 = 0 by decide, if_pos (by omega), zr_28_25, zr_28_26 (Or.inl (by decide))]
set_option maxHeartbeats 1000000 in
theorem o_op_10 {L : Nat} {xs : Nat → Int} {B : Int} {w : zW} (hb : zBase L xs w) (hP : zPJ B w) (hB : B < 1000000000) (a : Int) (rga : -2147483648 ≤ a ∧ a < 2147483648) (x : Int) (rgx : -2147483648 ≤ x ∧ x < 2147483648) : zR 11 0 [some (.inr (some 1)), some (.inl a), some (.inl x), none] [] w (fun r w1 => ∃ v, r = some (.inl v) ∧ (zBase L xs w1 → zR 68 0 [some (.inr (some 194)), some (.inl a), some (.inl x)] [] w1 (fun r2 w2 => ∃ v2, r2 = some (.inl v2) ∧ zN v = zN v2 ∧ (zBase L xs w2 → zPJ (B + 1400) w2)))) := by
  obtain ⟨own, s, h, hS⟩ := hP
  have r5 : 0 ≤ a → a < 8 → -1 ≤ s 195 a ∧ s 195 a ≤ 1 := fun p q => h.2.1.2.2.2.2 a p q
  by_cases hs : zSn s a
  · obtain ⟨d, hd0⟩ : ∃ d : Nat, a = (d : Int) := ⟨a.toNat, by rcases hs with q | q <;> omega⟩
    subst hd0
    have hd : 1 ≤ d ∧ d < 7 := by rcases hs with q | q <;> omega
    obtain ⟨n1, n2, n3, n4, n5, n6, n7, n8⟩ := zNd_all hb h.1 hd.1 hd.2
    have r195 := h.2.1.2.2.2.2 (d : Int) (by omega) (by omega)
    obtain ⟨g1, g2, g3, g4, g5, g6, g7, g8⟩ := h.2.2.2.2.2.2.1.1 d hd.1 hd.2
    by_cases x0 : x = 0
    · subst x0
      have hc1 : ∀ Q, zR 11 0 [some (.inr (some 1)), some (.inl (d : Int)), some (.inl 0), none] [] w Q = Q (some (.inl (s 207 (d : Int)))) w := fun Q => by
        rw [zr_11_0, zr_11_1, zr_11_2 (by exact Nat.le_of_ble_eq_true rfl) (by exact zk_at_1 hb), m_19_yes hb h hs, Option.toList_some, List.cons_append, List.nil_append, zr_11_5, zr_11_6, zr_11_7s, zr_11_12, zr_11_13k0 (by decide), zr_11_56, zr_11_57m (by exact n1), g1, zr_11_60]
      have hr1 : ∀ c Q, zKR c → zR 68 0 [some (.inr (some 194)), some (.inl (d : Int)), some (.inl 0)] [] (zmk c s) Q = Q (some (.inl (s 207 (d : Int)))) (zmk c s) := fun c Q hc => by
        rw [zr_68_0, zr_68_1, zr_68_2 (by exact Nat.le_of_ble_eq_true rfl) (rk_194 hc), m_28_yes hc hs r195, Option.toList_some, List.cons_append, List.nil_append, zr_68_5, show zN 1 = 1 by decide, if_pos (by omega), zr_68_10, zr_68_11k0 (by decide), zr_68_52, zr_68_53 (rk_194 hc), rp_85 hc, zr_68_56, zr_68_57 (ri_207 hc (by omega) (by omega)), ra (h := 207) (j := (d : Int)) (by decide) (by decide) (by omega) (by omega), zr_68_58]
      exact O_fin (G := fun w Q => zR 68 0 [some (.inr (some 194)), some (.inl (d : Int)), some (.inl 0)] [] w Q) hS hc1 hr1 rfl ⟨⟨own, zJ_mono h (by omega)⟩, hb, yRQ.rf⟩
    by_cases x1 : x = 1
    · subst x1
      have hc1 : ∀ Q, zR 11 0 [some (.inr (some 1)), some (.inl (d : Int)), some (.inl 1), none] [] w Q = Q (some (.inl (s 211 (d : Int)))) w := fun Q => by
        rw [zr_11_0, zr_11_1, zr_11_2 (by exact Nat.le_of_ble_eq_true rfl) (by exact zk_at_1 hb), m_19_yes hb h hs, Option.toList_some, List.cons_append, List.nil_append, zr_11_5, zr_11_6, zr_11_7s, zr_11_12, zr_11_13k1 (by decide), zr_11_61, zr_11_62m (by exact n1), g2, zr_11_65]
      have hr1 : ∀ c Q, zKR c → zR 68 0 [some (.inr (some 194)), some (.inl (d : Int)), some (.inl 1)] [] (zmk c s) Q = Q (some (.inl (s 211 (d : Int)))) (zmk c s) := fun c Q hc => by
        rw [zr_68_0, zr_68_1, zr_68_2 (by exact Nat.le_of_ble_eq_true rfl) (rk_194 hc), m_28_yes hc hs r195, Option.toList_some, List.cons_append, List.nil_append, zr_68_5, show zN 1 = 1 by decide, if_pos (by omega), zr_68_10, zr_68_11k1 (by decide), zr_68_59, zr_68_60 (rk_194 hc), rp_89 hc, zr_68_63, zr_68_64 (ri_211 hc (by omega) (by omega)), ra (h := 211) (j := (d : Int)) (by decide) (by decide) (by omega) (by omega), zr_68_65]
      exact O_fin (G := fun w Q => zR 68 0 [some (.inr (some 194)), some (.inl (d : Int)), some (.inl 1)] [] w Q) hS hc1 hr1 rfl ⟨⟨own, zJ_mono h (by omega)⟩, hb, yRQ.rf⟩
    by_cases x2 : x = 2
    · subst x2
      have hc1 : ∀ Q, zR 11 0 [some (.inr (some 1)), some (.inl (d : Int)), some (.inl 2), none] [] w Q = Q (some (.inl (s 208 (d : Int)))) w := fun Q => by
        rw [zr_11_0, zr_11_1, zr_11_2 (by exact Nat.le_of_ble_eq_true rfl) (by exact zk_at_1 hb), m_19_yes hb h hs, Option.toList_some, List.cons_append, List.nil_append, zr_11_5, zr_11_6, zr_11_7s, zr_11_12, zr_11_13k2 (by decide), zr_11_66, zr_11_67m (by exact n1), g3, zr_11_70]
      have hr1 : ∀ c Q, zKR c → zR 68 0 [some (.inr (some 194)), some (.inl (d : Int)), some (.inl 2)] [] (zmk c s) Q = Q (some (.inl (s 208 (d : Int)))) (zmk c s) := fun c Q hc => by
        rw [zr_68_0, zr_68_1, zr_68_2 (by exact Nat.le_of_ble_eq_true rfl) (rk_194 hc), m_28_yes hc hs r195, Option.toList_some, List.cons_append, List.nil_append, zr_68_5, show zN 1 = 1 by decide, if_pos (by omega), zr_68_10, zr_68_11k2 (by decide), zr_68_66, zr_68_67 (rk_194 hc), rp_86 hc, zr_68_70, zr_68_71 (ri_208 hc (by omega) (by omega)), ra (h := 208) (j := (d : Int)) (by decide) (by decide) (by omega) (by omega), zr_68_72]
      exact O_fin (G := fun w Q => zR 68 0 [some (.inr (some 194)), some (.inl (d : Int)), some (.inl 2)] [] w Q) hS hc1 hr1 rfl ⟨⟨own, zJ_mono h (by omega)⟩, hb, yRQ.rf⟩
    by_cases x3 : x = 3
    · subst x3
      have hc1 : ∀ Q, zR 11 0 [some (.inr (some 1)), some (.inl (d : Int)), some (.inl 3), none] [] w Q = Q (some (.inl (s 209 (d : Int)))) w := fun Q => by
        rw [zr_11_0, zr_11_1, zr_11_2 (by exact Nat.le_of_ble_eq_true rfl) (by exact zk_at_1 hb), m_19_yes hb h hs, Option.toList_some, List.cons_append, List.nil_append, zr_11_5, zr_11_6, zr_11_7s, zr_11_12, zr_11_13k3 (by decide), zr_11_71, zr_11_72m (by exact n1), g4, zr_11_75]
      have hr1 : ∀ c Q, zKR c → zR 68 0 [some (.inr (some 194)), some (.inl (d : Int)), some (.inl 3)] [] (zmk c s) Q = Q (some (.inl (s 209 (d : Int)))) (zmk c s) := fun c Q hc => by
        rw [zr_68_0, zr_68_1, zr_68_2 (by exact Nat.le_of_ble_eq_true rfl) (rk_194 hc), m_28_yes hc hs r195, Option.toList_some, List.cons_append, List.nil_append, zr_68_5, show zN 1 = 1 by decide, if_pos (by omega), zr_68_10, zr_68_11k3 (by decide), zr_68_73, zr_68_74 (rk_194 hc), rp_87 hc, zr_68_77, zr_68_78 (ri_209 hc (by omega) (by omega)), ra (h := 209) (j := (d : Int)) (by decide) (by decide) (by omega) (by omega), zr_68_79]
      exact O_fin (G := fun w Q => zR 68 0 [some (.inr (some 194)), some (.inl (d : Int)), some (.inl 3)] [] w Q) hS hc1 hr1 rfl ⟨⟨own, zJ_mono h (by omega)⟩, hb, yRQ.rf⟩
    by_cases x4 : x = 4
    · subst x4
      have hc1 : ∀ Q, zR 11 0 [some (.inr (some 1)), some (.inl (d : Int)), some (.inl 4), none] [] w Q = Q (some (.inl (s 210 (d : Int)))) w := fun Q => by
        rw [zr_11_0, zr_11_1, zr_11_2 (by exact Nat.le_of_ble_eq_true rfl) (by exact zk_at_1 hb), m_19_yes hb h hs, Option.toList_some, List.cons_append, List.nil_append, zr_11_5, zr_11_6, zr_11_7s, zr_11_12, zr_11_13k4 (by decide), zr_11_76, zr_11_77m (by exact n1), g5, zr_11_80]
      have hr1 : ∀ c Q, zKR c → zR 68 0 [some (.inr (some 194)), some (.inl (d : Int)), some (.inl 4)] [] (zmk c s) Q = Q (some (.inl (s 210 (d : Int)))) (zmk c s) := fun c Q hc => by
        rw [zr_68_0, zr_68_1, zr_68_2 (by exact Nat.le_of_ble_eq_true rfl) (rk_194 hc), m_28_yes hc hs r195, Option.toList_some, List.cons_append, List.nil_append, zr_68_5, show zN 1 = 1 by decide, if_pos (by omega), zr_68_10, zr_68_11k4 (by decide), zr_68_80, zr_68_81 (rk_194 hc), rp_88 hc, zr_68_84, zr_68_85 (ri_210 hc (by omega) (by omega)), ra (h := 210) (j := (d : Int)) (by decide) (by decide) (by omega) (by omega), zr_68_86]
      exact O_fin (G := fun w Q => zR 68 0 [some (.inr (some 194)), some (.inl (d : Int)), some (.inl 4)] [] w Q) hS hc1 hr1 rfl ⟨⟨own, zJ_mono h (by omega)⟩, hb, yRQ.rf⟩
    by_cases x5 : x = 5
    · subst x5
      have hc1 : ∀ Q, zR 11 0 [some (.inr (some 1)), some (.inl (d : Int)), some (.inl 5), none] [] w Q = Q (some (.inl (s 212 (d : Int)))) w := fun Q => by
        rw [zr_11_0, zr_11_1, zr_11_2 (by exact Nat.le_of_ble_eq_true rfl) (by exact zk_at_1 hb), m_19_yes hb h hs, Option.toList_some, List.cons_append, List.nil_append, zr_11_5, zr_11_6, zr_11_7s, zr_11_12, zr_11_13k5 (by decide), zr_11_81, zr_11_82m (by exact n1), g6, zr_11_85]
      have hr1 : ∀ c Q, zKR c → zR 68 0 [some (.inr (some 194)), some (.inl (d : Int)), some (.inl 5)] [] (zmk c s) Q = Q (some (.inl (s 212 (d : Int)))) (zmk c s) := fun c Q hc => by
        rw [zr_68_0, zr_68_1, zr_68_2 (by exact Nat.le_of_ble_eq_true rfl) (rk_194 hc), m_28_yes hc hs r195, Option.toList_some, List.cons_append, List.nil_append, zr_68_5, show zN 1 = 1 by decide, if_pos (by omega), zr_68_10, zr_68_11k5 (by decide), zr_68_87, zr_68_88 (rk_194 hc), rp_90 hc, zr_68_91, zr_68_92 (ri_212 hc (by omega) (by omega)), ra (h := 212) (j := (d : Int)) (by decide) (by decide) (by omega) (by omega), zr_68_93]
      exact O_fin (G := fun w Q => zR 68 0 [some (.inr (some 194)), some (.inl (d : Int)), some (.inl 5)] [] w Q) hS hc1 hr1 rfl ⟨⟨own, zJ_mono h (by omega)⟩, hb, yRQ.rf⟩
    by_cases x6 : x = 6
    · subst x6
      have hc1 : ∀ Q, zR 11 0 [some (.inr (some 1)), some (.inl (d : Int)), some (.inl 6), none] [] w Q = Q (some (.inl (s 213 (d : Int)))) w := fun Q => by
        rw [zr_11_0, zr_11_1, zr_11_2 (by exact Nat.le_of_ble_eq_true rfl) (by exact zk_at_1 hb), m_19_yes hb h hs, Option.toList_some, List.cons_append, List.nil_append, zr_11_5, zr_11_6, zr_11_7s, zr_11_12, zr_11_13k6 (by decide), zr_11_86, zr_11_87m (by exact n1), g7, zr_11_90]
      have hr1 : ∀ c Q, zKR c → zR 68 0 [some (.inr (some 194)), some (.inl (d : Int)), some (.inl 6)] [] (zmk c s) Q = Q (some (.inl (s 213 (d : Int)))) (zmk c s) := fun c Q hc => by
        rw [zr_68_0, zr_68_1, zr_68_2 (by exact Nat.le_of_ble_eq_true rfl) (rk_194 hc), m_28_yes hc hs r195, Option.toList_some, List.cons_append, List.nil_append, zr_68_5, show zN 1 = 1 by decide, if_pos (by omega), zr_68_10, zr_68_11k6 (by decide), zr_68_94, zr_68_95 (rk_194 hc), rp_91 hc, zr_68_98, zr_68_99 (ri_213 hc (by omega) (by omega)), ra (h := 213) (j := (d : Int)) (by decide) (by decide) (by omega) (by omega), zr_68_100]
      exact O_fin (G := fun w Q => zR 68 0 [some (.inr (some 194)), some (.inl (d : Int)), some (.inl 6)] [] w Q) hS hc1 hr1 rfl ⟨⟨own, zJ_mono h (by omega)⟩, hb, yRQ.rf⟩
    have hc1 : ∀ Q, zR 11 0 [some (.inr (some 1)), some (.inl (d : Int)), some (.inl x), none] [] w Q = Q (some (.inl 0)) w := fun Q => by
      rw [zr_11_0, zr_11_1, zr_11_2 (by exact Nat.le_of_ble_eq_true rfl) (by exact zk_at_1 hb), m_19_yes hb h hs, Option.toList_some, List.cons_append, List.nil_append, zr_11_5, zr_11_6, zr_11_7s, zr_11_12, zr_11_13d (by rw [zN_of (by omega) (by omega)]; omega), zr_11_91, zr_11_92]
    have hr1 : ∀ c Q, zKR c → zR 68 0 [some (.inr (some 194)), some (.inl (d : Int)), some (.inl x)] [] (zmk c s) Q = Q (some (.inl 0)) (zmk c s) := fun c Q hc => by
      rw [zr_68_0, zr_68_1, zr_68_2 (by exact Nat.le_of_ble_eq_true rfl) (rk_194 hc), m_28_yes hc hs r195, Option.toList_some, List.cons_append, List.nil_append, zr_68_5, show zN 1 = 1 by decide, if_pos (by omega), zr_68_10, zr_68_11d (by rw [zN_of (by omega) (by omega)]; omega), zr_68_101, zr_68_102]
    exact O_fin (G := fun w Q => zR 68 0 [some (.inr (some 194)), some (.inl (d : Int)), some (.inl x)] [] w Q) hS hc1 hr1 rfl ⟨⟨own, zJ_mono h (by omega)⟩, hb, yRQ.rf⟩
  · have hc1 : ∀ Q, zR 11 0 [some (.inr (some 1)), some (.inl a), some (.inl x), none] [] w Q = Q (some (.inl 0)) w := fun Q => by
      rw [zr_11_0, zr_11_1, zr_11_2 (by exact Nat.le_of_ble_eq_true rfl) (by exact zk_at_1 hb), m_19_no hb h rga hs, Option.toList_some, List.cons_append, List.nil_append, zr_11_5, zr_11_6, zr_11_7n, zr_11_10, zr_11_11]
    have hr1 : ∀ c Q, zKR c → zR 68 0 [some (.inr (some 194)), some (.inl a), some (.inl x)] [] (zmk c s) Q = Q (some (.inl 0)) (zmk c s) := fun c Q hc => by
      rw [zr_68_0, zr_68_1, zr_68_2 (by exact Nat.le_of_ble_eq_true rfl) (rk_194 hc), m_28_no hc rga hs r5, Option.toList_some, List.cons_append, List.nil_append, zr_68_5, show zN 0 = 0 by decide, if_neg (by omega), zr_68_8, zr_68_9]
    exact O_fin (G := fun w Q => zR 68 0 [some (.inr (some 194)), some (.inl a), some (.inl x)] [] w Q) hS hc1 hr1 rfl ⟨⟨own, zJ_mono h (by omega)⟩, hb, yRQ.rf⟩
set_option maxHeartbeats 1000000 in
theorem o_op_11 {L : Nat} {xs : Nat → Int} {B : Int} {w : zW} (hb : zBase L xs w) (hP : zPJ B w) (hB : B < 1000000000) (a : Int) (rga : -2147483648 ≤ a ∧ a < 2147483648) (x : Int) (rgx : -2147483648 ≤ x ∧ x < 2147483648) : zR 12 0 [some (.inr (some 1)), some (.inl a), some (.inl x), none] [] w (fun r w1 => ∃ v, r = some (.inl v) ∧ (zBase L xs w1 → zR 69 0 [some (.inr (some 194)), some (.inl a), some (.inl x)] [] w1 (fun r2 w2 => ∃ v2, r2 = some (.inl v2) ∧ zN v = zN v2 ∧ (zBase L xs w2 → zPJ (B + 1400) w2)))) := by
  obtain ⟨own, s, h, hS⟩ := hP
  have r5 : 0 ≤ a → a < 8 → -1 ≤ s 195 a ∧ s 195 a ≤ 1 := fun p q => h.2.1.2.2.2.2 a p q
  by_cases hs : zSn s a
  · obtain ⟨d, hd0⟩ : ∃ d : Nat, a = (d : Int) := ⟨a.toNat, by rcases hs with q | q <;> omega⟩
    subst hd0
    have hd : 1 ≤ d ∧ d < 7 := by rcases hs with q | q <;> omega
    obtain ⟨n1, n2, n3, n4, n5, n6, n7, n8⟩ := zNd_all hb h.1 hd.1 hd.2
    have r195 := h.2.1.2.2.2.2 (d : Int) (by omega) (by omega)
    obtain ⟨g1, g2, g3, g4, g5, g6, g7, g8⟩ := h.2.2.2.2.2.2.1.1 d hd.1 hd.2
    by_cases c4 : x < 0
    · have hc1 : ∀ Q, zR 12 0 [some (.inr (some 1)), some (.inl (d : Int)), some (.inl x), none] [] w Q = Q (some (.inl (-1))) w := fun Q => by
        rw [zr_12_0, zr_12_1, zr_12_2 (by exact Nat.le_of_ble_eq_true rfl) (by exact zk_at_1 hb), m_19_yes hb h hs, Option.toList_some, List.cons_append, List.nil_append, zr_12_5, zr_12_6, zr_12_7s, zr_12_10, zr_12_11, zN_of (x := x) (by omega) (by omega), if_pos (by omega), zr_12_20, zr_12_21]
      have hr1 : ∀ c Q, zKR c → zR 69 0 [some (.inr (some 194)), some (.inl (d : Int)), some (.inl x)] [] (zmk c s) Q = Q (some (.inl (-1))) (zmk c s) := fun c Q hc => by
        rw [zr_69_0, zr_69_1, zr_69_2 (by exact Nat.le_of_ble_eq_true rfl) (rk_194 hc), m_28_yes hc hs r195, Option.toList_some, List.cons_append, List.nil_append, zr_69_5, show zN 1 = 1 by decide, if_neg (by omega), zr_69_8, zr_69_9, zr_69_10, zr_69_12 (by exact Nat.le_of_ble_eq_true rfl), m_within0 (by decide) (by decide) (by decide) (by decide) (by rw [zN_of (by omega) (by omega)]; omega), Option.toList_some, List.cons_append, List.nil_append, zr_69_15, show zN 0 = 0 by decide, if_pos (by omega), zr_69_32, zr_69_33]
      exact O_fin (G := fun w Q => zR 69 0 [some (.inr (some 194)), some (.inl (d : Int)), some (.inl x)] [] w Q) hS hc1 hr1 rfl ⟨⟨own, zJ_mono h (by omega)⟩, hb, yRQ.rf⟩
    by_cases c6 : 24 ≤ x
    · have hc1 : ∀ Q, zR 12 0 [some (.inr (some 1)), some (.inl (d : Int)), some (.inl x), none] [] w Q = Q (some (.inl (-1))) w := fun Q => by
        rw [zr_12_0, zr_12_1, zr_12_2 (by exact Nat.le_of_ble_eq_true rfl) (by exact zk_at_1 hb), m_19_yes hb h hs, Option.toList_some, List.cons_append, List.nil_append, zr_12_5, zr_12_6, zr_12_7s, zr_12_10, zr_12_11, zN_of (x := x) (by omega) (by omega), if_neg (by omega), zr_12_14, zr_12_15, zr_12_17, zN_of (x := x) (by omega) (by omega), show zN 24 = 24 by decide, if_neg (by omega), zr_12_20, zr_12_21]
      have hr1 : ∀ c Q, zKR c → zR 69 0 [some (.inr (some 194)), some (.inl (d : Int)), some (.inl x)] [] (zmk c s) Q = Q (some (.inl (-1))) (zmk c s) := fun c Q hc => by
        rw [zr_69_0, zr_69_1, zr_69_2 (by exact Nat.le_of_ble_eq_true rfl) (rk_194 hc), m_28_yes hc hs r195, Option.toList_some, List.cons_append, List.nil_append, zr_69_5, show zN 1 = 1 by decide, if_neg (by omega), zr_69_8, zr_69_9, zr_69_10, zr_69_12 (by exact Nat.le_of_ble_eq_true rfl), m_within0 (by decide) (by decide) (by decide) (by decide) (by rw [zN_of (by omega) (by omega)]; omega), Option.toList_some, List.cons_append, List.nil_append, zr_69_15, show zN 0 = 0 by decide, if_pos (by omega), zr_69_32, zr_69_33]
      exact O_fin (G := fun w Q => zR 69 0 [some (.inr (some 194)), some (.inl (d : Int)), some (.inl x)] [] w Q) hS hc1 hr1 rfl ⟨⟨own, zJ_mono h (by omega)⟩, hb, yRQ.rf⟩
    obtain ⟨k, hk⟩ : ∃ k : Nat, x = (k : Int) := ⟨x.toNat, by omega⟩
    subst hk
    have tk : (zN (k : Int)).toNat = k := by rw [zN_of (by omega) (by omega), Int.toNat_natCast]
    have hv := g8 k (by omega)
    have hc1 : ∀ Q, zR 12 0 [some (.inr (some 1)), some (.inl (d : Int)), some (.inl (k : Int)), none] [] w Q = Q (some (.inl (s 214 (24 * (d : Int) + (k : Int))))) w := fun Q => by
      rw [zr_12_0, zr_12_1, zr_12_2 (by exact Nat.le_of_ble_eq_true rfl) (by exact zk_at_1 hb), m_19_yes hb h hs, Option.toList_some, List.cons_append, List.nil_append, zr_12_5, zr_12_6, zr_12_7s, zr_12_10, zr_12_11, zN_of (x := (k : Int)) (by omega) (by omega), if_neg (by omega), zr_12_14, zr_12_15, zr_12_17, zN_of (x := (k : Int)) (by omega) (by omega), show zN 24 = 24 by decide, if_pos (by omega), zr_12_22, zr_12_23m (by exact n1), n6, zr_12_26, zr_12_27 ⟨Or.inl (by exact n7), by rw [zN_of (x := (k : Int)) (by omega) (by omega)]; omega, by rw [zN_of (x := (k : Int)) (by omega) (by omega)]; show _ < ((zl w (zNd d + 20) : Nat) : Int); rw [n8]; omega⟩, tk, hv, zr_12_28]
    have hr1 : ∀ c Q, zKR c → zR 69 0 [some (.inr (some 194)), some (.inl (d : Int)), some (.inl (k : Int))] [] (zmk c s) Q = Q (some (.inl (s 214 (24 * (d : Int) + (k : Int))))) (zmk c s) := fun c Q hc => by
      rw [zr_69_0, zr_69_1, zr_69_2 (by exact Nat.le_of_ble_eq_true rfl) (rk_194 hc), m_28_yes hc hs r195, Option.toList_some, List.cons_append, List.nil_append, zr_69_5, show zN 1 = 1 by decide, if_neg (by omega), zr_69_8, zr_69_9, zr_69_10, zr_69_12 (by exact Nat.le_of_ble_eq_true rfl), m_within1 (by decide) (by decide) (by decide) (by decide) (by rw [zN_of (by omega) (by omega)]; omega), Option.toList_some, List.cons_append, List.nil_append, zr_69_15, show zN 1 = 1 by decide, if_neg (by omega), zr_69_18, zr_69_19 (rk_194 hc), rp_92 hc, zr_69_22, zr_69_24, zr_69_25, zr_69_26, zr_69_27, zr_69_28 (ri_214 hc (by omega) (by omega)), ra (h := 214) (j := ((24 * (d : Int)) + (k : Int))) (by decide) (by decide) (by omega) (by omega), zr_69_29, zr_69_33]
    exact O_fin (G := fun w Q => zR 69 0 [some (.inr (some 194)), some (.inl (d : Int)), some (.inl (k : Int))] [] w Q) hS hc1 hr1 rfl ⟨⟨own, zJ_mono h (by omega)⟩, hb, yRQ.rf⟩
  · have hc1 : ∀ Q, zR 12 0 [some (.inr (some 1)), some (.inl a), some (.inl x), none] [] w Q = Q (some (.inl (-1))) w := fun Q => by
      rw [zr_12_0, zr_12_1, zr_12_2 (by exact Nat.le_of_ble_eq_true rfl) (by exact zk_at_1 hb), m_19_no hb h rga hs, Option.toList_some, List.cons_append, List.nil_append, zr_12_5, zr_12_6, zr_12_7n, zr_12_20, zr_12_21]
    have hr1 : ∀ c Q, zKR c → zR 69 0 [some (.inr (some 194)), some (.inl a), some (.inl x)] [] (zmk c s) Q = Q (some (.inl (-1))) (zmk c s) := fun c Q hc => by
      rw [zr_69_0, zr_69_1, zr_69_2 (by exact Nat.le_of_ble_eq_true rfl) (rk_194 hc), m_28_no hc rga hs r5, Option.toList_some, List.cons_append, List.nil_append, zr_69_5, show zN 0 = 0 by decide, if_pos (by omega), zr_69_32, zr_69_33]
    exact O_fin (G := fun w Q => zR 69 0 [some (.inr (some 194)), some (.inl a), some (.inl x)] [] w Q) hS hc1 hr1 rfl ⟨⟨own, zJ_mono h (by omega)⟩, hb, yRQ.rf⟩
set_option maxHeartbeats 1000000 in
theorem o_op_12 {L : Nat} {xs : Nat → Int} {B : Int} {w : zW} (hb : zBase L xs w) (hP : zPJ B w) (hB : B < 1000000000) (a : Int) (rga : -2147483648 ≤ a ∧ a < 2147483648) (x : Int) (rgx : -2147483648 ≤ x ∧ x < 2147483648) : zR 13 0 [some (.inr (some 1)), some (.inl a), some (.inl x), none] [] w (fun r w1 => ∃ v, r = some (.inl v) ∧ (zBase L xs w1 → zR 70 0 [some (.inr (some 194)), some (.inl a), some (.inl x)] [] w1 (fun r2 w2 => ∃ v2, r2 = some (.inl v2) ∧ zN v = zN v2 ∧ (zBase L xs w2 → zPJ (B + 1400) w2)))) := by
  obtain ⟨own, s, h, hS⟩ := hP
  have f13 := h.2.2.2.2.2.1.1.1
  have h40 := h.2.2.2.2.2.1.2.1
  by_cases c32 : a < 0
  · have hc1 : ∀ Q, zR 13 0 [some (.inr (some 1)), some (.inl a), some (.inl x), none] [] w Q = Q (some (.inl (-1))) w := fun Q => by
      rw [zr_13_0, zr_13_1 (by exact zk_at_1 hb), zcq_3_1 h.1, zr_13_4, zr_13_5 (by exact Nat.le_of_ble_eq_true rfl) (by exact zk_at_5 hb), zr_103_0, zr_103_1, zN_of (x := a) (by omega) (by omega), if_pos (by omega), zr_103_21, zr_103_22, Option.toList_some, List.cons_append, List.nil_append, zr_13_8, zr_13_9, zr_13_10n, zr_13_13, zr_13_14]
    have hr1 : ∀ c Q, zKR c → zR 70 0 [some (.inr (some 194)), some (.inl a), some (.inl x)] [] (zmk c s) Q = Q (some (.inl (-1))) (zmk c s) := fun c Q hc => by
      rw [zr_70_0, zr_70_1, zN_of (x := a) (by omega) (by omega), if_pos (by omega), zr_70_12, zr_70_13]
    exact O_fin (G := fun w Q => zR 70 0 [some (.inr (some 194)), some (.inl a), some (.inl x)] [] w Q) hS hc1 hr1 rfl ⟨⟨own, zJ_mono h (by omega)⟩, hb, yRQ.rf⟩
  by_cases c34 : s 113 0 ≤ a
  · have hc1 : ∀ Q, zR 13 0 [some (.inr (some 1)), some (.inl a), some (.inl x), none] [] w Q = Q (some (.inl (-1))) w := fun Q => by
      rw [zr_13_0, zr_13_1 (by exact zk_at_1 hb), zcq_3_1 h.1, zr_13_4, zr_13_5 (by exact Nat.le_of_ble_eq_true rfl) (by exact zk_at_5 hb), zr_103_0, zr_103_1, zN_of (x := a) (by omega) (by omega), if_neg (by omega), zr_103_4, zr_103_5, zr_103_6 (by exact zk_at_5 hb), f13, zr_103_9, zN_of (x := a) (by omega) (by omega), zN_of (x := s 113 0) (by omega) (by omega), if_pos (by omega), zr_103_21, zr_103_22, Option.toList_some, List.cons_append, List.nil_append, zr_13_8, zr_13_9, zr_13_10n, zr_13_13, zr_13_14]
    have hr1 : ∀ c Q, zKR c → zR 70 0 [some (.inr (some 194)), some (.inl a), some (.inl x)] [] (zmk c s) Q = Q (some (.inl (-1))) (zmk c s) := fun c Q hc => by
      rw [zr_70_0, zr_70_1, zN_of (x := a) (by omega) (by omega), if_neg (by omega), zr_70_4, zr_70_5, zr_70_6 (rk_194 hc), v_f (f := 113) (by decide), zr_70_9, zN_of (x := a) (by omega) (by omega), zN_of (x := s 113 0) (by omega) (by omega), if_neg (by omega), zr_70_12, zr_70_13]
    exact O_fin (G := fun w Q => zR 70 0 [some (.inr (some 194)), some (.inl a), some (.inl x)] [] w Q) hS hc1 hr1 rfl ⟨⟨own, zJ_mono h (by omega)⟩, hb, yRQ.rf⟩
  obtain ⟨r, hr0⟩ : ∃ r : Nat, a = (r : Int) := ⟨a.toNat, by omega⟩
  subst hr0
  have tr : (zN (r : Int)).toNat = r := by rw [zN_of (by omega) (by omega), Int.toNat_natCast]
  obtain ⟨g, p1, p2⟩ := h.2.2.2.2.2.1.1.2 r (by omega)
  obtain ⟨c1, c2, c3, c4, c5, c6, c7, c8, c9, c10, c11, c12, c13, c14, c15, c16, c17, c18, c19, c20⟩ := p2
  obtain ⟨j1, j2, j3, j4, j5, j6, j7, j8⟩ := h.2.2.2.2.2.1.2.2 (r : Int) (by omega) (by omega)
  by_cases x0 : x = 0
  · subst x0
    have hc1 : ∀ Q, zR 13 0 [some (.inr (some 1)), some (.inl (r : Int)), some (.inl 0), none] [] w Q = Q (some (.inl (s 234 (r : Int)))) w := fun Q => by
      rw [zr_13_0, zr_13_1 (by exact zk_at_1 hb), zcq_3_1 h.1, zr_13_4, zr_13_5 (by exact Nat.le_of_ble_eq_true rfl) (by exact zk_at_5 hb), zr_103_0, zr_103_1, zN_of (x := (r : Int)) (by omega) (by omega), if_neg (by omega), zr_103_4, zr_103_5, zr_103_6 (by exact zk_at_5 hb), f13, zr_103_9, zN_of (x := (r : Int)) (by omega) (by omega), zN_of (x := s 113 0) (by omega) (by omega), if_neg (by omega), zr_103_12, zr_103_13 (by exact zk_at_5 hb), zcq_12_5 h.1, zr_103_16, zr_103_17 ⟨by show zNC + 2 < zk w 29; rw [zk_at_29 hb]; decide, by show zk w 29 < 1000; rw [zk_at_29 hb]; decide, by rw [zN_of (x := (r : Int)) (by omega) (by omega)]; omega, by rw [zN_of (x := (r : Int)) (by omega) (by omega)]; show _ < ((zl w 29 : Nat) : Int); rw [zl_at_29 hb]; omega⟩, tr, p1, zr_103_18, zr_103_22, Option.toList_some, List.cons_append, List.nil_append, zr_13_8, zr_13_9, zr_13_10s, zr_13_15, zr_13_16k0 (by decide), zr_13_52, zr_13_53 (by exact c2), c15, zr_13_56]
    have hr1 : ∀ c Q, zKR c → zR 70 0 [some (.inr (some 194)), some (.inl (r : Int)), some (.inl 0)] [] (zmk c s) Q = Q (some (.inl (s 234 (r : Int)))) (zmk c s) := fun c Q hc => by
      rw [zr_70_0, zr_70_1, zN_of (x := (r : Int)) (by omega) (by omega), if_neg (by omega), zr_70_4, zr_70_5, zr_70_6 (rk_194 hc), v_f (f := 113) (by decide), zr_70_9, zN_of (x := (r : Int)) (by omega) (by omega), zN_of (x := s 113 0) (by omega) (by omega), if_pos (by omega), zr_70_14, zr_70_15k0 (by decide), zr_70_48, zr_70_49 (rk_194 hc), rp_117 hc, zr_70_52, zr_70_53 (ri_234 hc (by omega) (by omega)), ra (h := 234) (j := (r : Int)) (by decide) (by decide) (by omega) (by omega), zr_70_54]
    exact O_fin (G := fun w Q => zR 70 0 [some (.inr (some 194)), some (.inl (r : Int)), some (.inl 0)] [] w Q) hS hc1 hr1 rfl ⟨⟨own, zJ_mono h (by omega)⟩, hb, yRQ.rf⟩
  by_cases x1 : x = 1
  · subst x1
    have hc1 : ∀ Q, zR 13 0 [some (.inr (some 1)), some (.inl (r : Int)), some (.inl 1), none] [] w Q = Q (some (.inl (s 231 (r : Int)))) w := fun Q => by
      rw [zr_13_0, zr_13_1 (by exact zk_at_1 hb), zcq_3_1 h.1, zr_13_4, zr_13_5 (by exact Nat.le_of_ble_eq_true rfl) (by exact zk_at_5 hb), zr_103_0, zr_103_1, zN_of (x := (r : Int)) (by omega) (by omega), if_neg (by omega), zr_103_4, zr_103_5, zr_103_6 (by exact zk_at_5 hb), f13, zr_103_9, zN_of (x := (r : Int)) (by omega) (by omega), zN_of (x := s 113 0) (by omega) (by omega), if_neg (by omega), zr_103_12, zr_103_13 (by exact zk_at_5 hb), zcq_12_5 h.1, zr_103_16, zr_103_17 ⟨by show zNC + 2 < zk w 29; rw [zk_at_29 hb]; decide, by show zk w 29 < 1000; rw [zk_at_29 hb]; decide, by rw [zN_of (x := (r : Int)) (by omega) (by omega)]; omega, by rw [zN_of (x := (r : Int)) (by omega) (by omega)]; show _ < ((zl w 29 : Nat) : Int); rw [zl_at_29 hb]; omega⟩, tr, p1, zr_103_18, zr_103_22, Option.toList_some, List.cons_append, List.nil_append, zr_13_8, zr_13_9, zr_13_10s, zr_13_15, zr_13_16k1 (by decide), zr_13_57, zr_13_58 (by exact c2), c12, zr_13_61]
    have hr1 : ∀ c Q, zKR c → zR 70 0 [some (.inr (some 194)), some (.inl (r : Int)), some (.inl 1)] [] (zmk c s) Q = Q (some (.inl (s 231 (r : Int)))) (zmk c s) := fun c Q hc => by
      rw [zr_70_0, zr_70_1, zN_of (x := (r : Int)) (by omega) (by omega), if_neg (by omega), zr_70_4, zr_70_5, zr_70_6 (rk_194 hc), v_f (f := 113) (by decide), zr_70_9, zN_of (x := (r : Int)) (by omega) (by omega), zN_of (x := s 113 0) (by omega) (by omega), if_pos (by omega), zr_70_14, zr_70_15k1 (by decide), zr_70_55, zr_70_56 (rk_194 hc), rp_114 hc, zr_70_59, zr_70_60 (ri_231 hc (by omega) (by omega)), ra (h := 231) (j := (r : Int)) (by decide) (by decide) (by omega) (by omega), zr_70_61]
    exact O_fin (G := fun w Q => zR 70 0 [some (.inr (some 194)), some (.inl (r : Int)), some (.inl 1)] [] w Q) hS hc1 hr1 rfl ⟨⟨own, zJ_mono h (by omega)⟩, hb, yRQ.rf⟩
  by_cases x2 : x = 2
  · subst x2
    have hc1 : ∀ Q, zR 13 0 [some (.inr (some 1)), some (.inl (r : Int)), some (.inl 2), none] [] w Q = Q (some (.inl (s 235 (r : Int)))) w := fun Q => by
      rw [zr_13_0, zr_13_1 (by exact zk_at_1 hb), zcq_3_1 h.1, zr_13_4, zr_13_5 (by exact Nat.le_of_ble_eq_true rfl) (by exact zk_at_5 hb), zr_103_0, zr_103_1, zN_of (x := (r : Int)) (by omega) (by omega), if_neg (by omega), zr_103_4, zr_103_5, zr_103_6 (by exact zk_at_5 hb), f13, zr_103_9, zN_of (x := (r : Int)) (by omega) (by omega), zN_of (x := s 113 0) (by omega) (by omega), if_neg (by omega), zr_103_12, zr_103_13 (by exact zk_at_5 hb), zcq_12_5 h.1, zr_103_16, zr_103_17 ⟨by show zNC + 2 < zk w 29; rw [zk_at_29 hb]; decide, by show zk w 29 < 1000; rw [zk_at_29 hb]; decide, by rw [zN_of (x := (r : Int)) (by omega) (by omega)]; omega, by rw [zN_of (x := (r : Int)) (by omega) (by omega)]; show _ < ((zl w 29 : Nat) : Int); rw [zl_at_29 hb]; omega⟩, tr, p1, zr_103_18, zr_103_22, Option.toList_some, List.cons_append, List.nil_append, zr_13_8, zr_13_9, zr_13_10s, zr_13_15, zr_13_16k2 (by decide), zr_13_62, zr_13_63 (by exact c2), c16, zr_13_66]
    have hr1 : ∀ c Q, zKR c → zR 70 0 [some (.inr (some 194)), some (.inl (r : Int)), some (.inl 2)] [] (zmk c s) Q = Q (some (.inl (s 235 (r : Int)))) (zmk c s) := fun c Q hc => by
      rw [zr_70_0, zr_70_1, zN_of (x := (r : Int)) (by omega) (by omega), if_neg (by omega), zr_70_4, zr_70_5, zr_70_6 (rk_194 hc), v_f (f := 113) (by decide), zr_70_9, zN_of (x := (r : Int)) (by omega) (by omega), zN_of (x := s 113 0) (by omega) (by omega), if_pos (by omega), zr_70_14, zr_70_15k2 (by decide), zr_70_62, zr_70_63 (rk_194 hc), rp_118 hc, zr_70_66, zr_70_67 (ri_235 hc (by omega) (by omega)), ra (h := 235) (j := (r : Int)) (by decide) (by decide) (by omega) (by omega), zr_70_68]
    exact O_fin (G := fun w Q => zR 70 0 [some (.inr (some 194)), some (.inl (r : Int)), some (.inl 2)] [] w Q) hS hc1 hr1 rfl ⟨⟨own, zJ_mono h (by omega)⟩, hb, yRQ.rf⟩
  by_cases x3 : x = 3
  · subst x3
    have hc1 : ∀ Q, zR 13 0 [some (.inr (some 1)), some (.inl (r : Int)), some (.inl 3), none] [] w Q = Q (some (.inl (s 236 (r : Int)))) w := fun Q => by
      rw [zr_13_0, zr_13_1 (by exact zk_at_1 hb), zcq_3_1 h.1, zr_13_4, zr_13_5 (by exact Nat.le_of_ble_eq_true rfl) (by exact zk_at_5 hb), zr_103_0, zr_103_1, zN_of (x := (r : Int)) (by omega) (by omega), if_neg (by omega), zr_103_4, zr_103_5, zr_103_6 (by exact zk_at_5 hb), f13, zr_103_9, zN_of (x := (r : Int)) (by omega) (by omega), zN_of (x := s 113 0) (by omega) (by omega), if_neg (by omega), zr_103_12, zr_103_13 (by exact zk_at_5 hb), zcq_12_5 h.1, zr_103_16, zr_103_17 ⟨by show zNC + 2 < zk w 29; rw [zk_at_29 hb]; decide, by show zk w 29 < 1000; rw [zk_at_29 hb]; decide, by rw [zN_of (x := (r : Int)) (by omega) (by omega)]; omega, by rw [zN_of (x := (r : Int)) (by omega) (by omega)]; show _ < ((zl w 29 : Nat) : Int); rw [zl_at_29 hb]; omega⟩, tr, p1, zr_103_18, zr_103_22, Option.toList_some, List.cons_append, List.nil_append, zr_13_8, zr_13_9, zr_13_10s, zr_13_15, zr_13_16k3 (by decide), zr_13_67, zr_13_68 (by exact c2), c17, zr_13_71]
    have hr1 : ∀ c Q, zKR c → zR 70 0 [some (.inr (some 194)), some (.inl (r : Int)), some (.inl 3)] [] (zmk c s) Q = Q (some (.inl (s 236 (r : Int)))) (zmk c s) := fun c Q hc => by
      rw [zr_70_0, zr_70_1, zN_of (x := (r : Int)) (by omega) (by omega), if_neg (by omega), zr_70_4, zr_70_5, zr_70_6 (rk_194 hc), v_f (f := 113) (by decide), zr_70_9, zN_of (x := (r : Int)) (by omega) (by omega), zN_of (x := s 113 0) (by omega) (by omega), if_pos (by omega), zr_70_14, zr_70_15k3 (by decide), zr_70_69, zr_70_70 (rk_194 hc), rp_119 hc, zr_70_73, zr_70_74 (ri_236 hc (by omega) (by omega)), ra (h := 236) (j := (r : Int)) (by decide) (by decide) (by omega) (by omega), zr_70_75]
    exact O_fin (G := fun w Q => zR 70 0 [some (.inr (some 194)), some (.inl (r : Int)), some (.inl 3)] [] w Q) hS hc1 hr1 rfl ⟨⟨own, zJ_mono h (by omega)⟩, hb, yRQ.rf⟩
  by_cases x4 : x = 4
  · subst x4
    have hc1 : ∀ Q, zR 13 0 [some (.inr (some 1)), some (.inl (r : Int)), some (.inl 4), none] [] w Q = Q (some (.inl (s 237 (r : Int)))) w := fun Q => by
      rw [zr_13_0, zr_13_1 (by exact zk_at_1 hb), zcq_3_1 h.1, zr_13_4, zr_13_5 (by exact Nat.le_of_ble_eq_true rfl) (by exact zk_at_5 hb), zr_103_0, zr_103_1, zN_of (x := (r : Int)) (by omega) (by omega), if_neg (by omega), zr_103_4, zr_103_5, zr_103_6 (by exact zk_at_5 hb), f13, zr_103_9, zN_of (x := (r : Int)) (by omega) (by omega), zN_of (x := s 113 0) (by omega) (by omega), if_neg (by omega), zr_103_12, zr_103_13 (by exact zk_at_5 hb), zcq_12_5 h.1, zr_103_16, zr_103_17 ⟨by show zNC + 2 < zk w 29; rw [zk_at_29 hb]; decide, by show zk w 29 < 1000; rw [zk_at_29 hb]; decide, by rw [zN_of (x := (r : Int)) (by omega) (by omega)]; omega, by rw [zN_of (x := (r : Int)) (by omega) (by omega)]; show _ < ((zl w 29 : Nat) : Int); rw [zl_at_29 hb]; omega⟩, tr, p1, zr_103_18, zr_103_22, Option.toList_some, List.cons_append, List.nil_append, zr_13_8, zr_13_9, zr_13_10s, zr_13_15, zr_13_16k4 (by decide), zr_13_72, zr_13_73 (by exact c2), c14, zr_13_76]
    have hr1 : ∀ c Q, zKR c → zR 70 0 [some (.inr (some 194)), some (.inl (r : Int)), some (.inl 4)] [] (zmk c s) Q = Q (some (.inl (s 237 (r : Int)))) (zmk c s) := fun c Q hc => by
      rw [zr_70_0, zr_70_1, zN_of (x := (r : Int)) (by omega) (by omega), if_neg (by omega), zr_70_4, zr_70_5, zr_70_6 (rk_194 hc), v_f (f := 113) (by decide), zr_70_9, zN_of (x := (r : Int)) (by omega) (by omega), zN_of (x := s 113 0) (by omega) (by omega), if_pos (by omega), zr_70_14, zr_70_15k4 (by decide), zr_70_76, zr_70_77 (rk_194 hc), rp_120 hc, zr_70_80, zr_70_81 (ri_237 hc (by omega) (by omega)), ra (h := 237) (j := (r : Int)) (by decide) (by decide) (by omega) (by omega), zr_70_82]
    exact O_fin (G := fun w Q => zR 70 0 [some (.inr (some 194)), some (.inl (r : Int)), some (.inl 4)] [] w Q) hS hc1 hr1 rfl ⟨⟨own, zJ_mono h (by omega)⟩, hb, yRQ.rf⟩
  have hc1 : ∀ Q, zR 13 0 [some (.inr (some 1)), some (.inl (r : Int)), some (.inl x), none] [] w Q = Q (some (.inl (-1))) w := fun Q => by
    rw [zr_13_0, zr_13_1 (by exact zk_at_1 hb), zcq_3_1 h.1, zr_13_4, zr_13_5 (by exact Nat.le_of_ble_eq_true rfl) (by exact zk_at_5 hb), zr_103_0, zr_103_1, zN_of (x := (r : Int)) (by omega) (by omega), if_neg (by omega), zr_103_4, zr_103_5, zr_103_6 (by exact zk_at_5 hb), f13, zr_103_9, zN_of (x := (r : Int)) (by omega) (by omega), zN_of (x := s 113 0) (by omega) (by omega), if_neg (by omega), zr_103_12, zr_103_13 (by exact zk_at_5 hb), zcq_12_5 h.1, zr_103_16, zr_103_17 ⟨by show zNC + 2 < zk w 29; rw [zk_at_29 hb]; decide, by show zk w 29 < 1000; rw [zk_at_29 hb]; decide, by rw [zN_of (x := (r : Int)) (by omega) (by omega)]; omega, by rw [zN_of (x := (r : Int)) (by omega) (by omega)]; show _ < ((zl w 29 : Nat) : Int); rw [zl_at_29 hb]; omega⟩, tr, p1, zr_103_18, zr_103_22, Option.toList_some, List.cons_append, List.nil_append, zr_13_8, zr_13_9, zr_13_10s, zr_13_15, zr_13_16d (by rw [zN_of (by omega) (by omega)]; omega), zr_13_77, zr_13_78]
  have hr1 : ∀ c Q, zKR c → zR 70 0 [some (.inr (some 194)), some (.inl (r : Int)), some (.inl x)] [] (zmk c s) Q = Q (some (.inl (-1))) (zmk c s) := fun c Q hc => by
    rw [zr_70_0, zr_70_1, zN_of (x := (r : Int)) (by omega) (by omega), if_neg (by omega), zr_70_4, zr_70_5, zr_70_6 (rk_194 hc), v_f (f := 113) (by decide), zr_70_9, zN_of (x := (r : Int)) (by omega) (by omega), zN_of (x := s 113 0) (by omega) (by omega), if_pos (by omega), zr_70_14, zr_70_15d (by rw [zN_of (by omega) (by omega)]; omega), zr_70_83, zr_70_84]
  exact O_fin (G := fun w Q => zR 70 0 [some (.inr (some 194)), some (.inl (r : Int)), some (.inl x)] [] w Q) hS hc1 hr1 rfl ⟨⟨own, zJ_mono h (by omega)⟩, hb, yRQ.rf⟩
set_option maxHeartbeats 1000000 in
theorem o_op_13 {L : Nat} {xs : Nat → Int} {B : Int} {w : zW} (hb : zBase L xs w) (hP : zPJ B w) (hB : B < 1000000000) (a : Int) (rga : -2147483648 ≤ a ∧ a < 2147483648) (x : Int) (rgx : -2147483648 ≤ x ∧ x < 2147483648) : zR 14 0 [some (.inr (some 1)), some (.inl a), some (.inl x), none] [] w (fun r w1 => ∃ v, r = some (.inl v) ∧ (zBase L xs w1 → zR 71 0 [some (.inr (some 194)), some (.inl a), some (.inl x)] [] w1 (fun r2 w2 => ∃ v2, r2 = some (.inl v2) ∧ zN v = zN v2 ∧ (zBase L xs w2 → zPJ (B + 1400) w2)))) := by
  obtain ⟨own, s, h, hS⟩ := hP
  have f13 := h.2.2.2.2.2.1.1.1
  have h40 := h.2.2.2.2.2.1.2.1
  by_cases c32 : a < 0
  · have hc1 : ∀ Q, zR 14 0 [some (.inr (some 1)), some (.inl a), some (.inl x), none] [] w Q = Q (some (.inl (-1))) w := fun Q => by
      rw [zr_14_0, zr_14_1 (by exact zk_at_1 hb), zcq_3_1 h.1, zr_14_4, zr_14_5 (by exact Nat.le_of_ble_eq_true rfl) (by exact zk_at_5 hb), zr_103_0, zr_103_1, zN_of (x := a) (by omega) (by omega), if_pos (by omega), zr_103_21, zr_103_22, Option.toList_some, List.cons_append, List.nil_append, zr_14_8, zr_14_9, zr_14_10n, zr_14_25, zr_14_26]
    have hr1 : ∀ c Q, zKR c → zR 71 0 [some (.inr (some 194)), some (.inl a), some (.inl x)] [] (zmk c s) Q = Q (some (.inl (-1))) (zmk c s) := fun c Q hc => by
      rw [zr_71_0, zr_71_1, zN_of (x := a) (by omega) (by omega), if_pos (by omega), zr_71_40, zr_71_41]
    exact O_fin (G := fun w Q => zR 71 0 [some (.inr (some 194)), some (.inl a), some (.inl x)] [] w Q) hS hc1 hr1 rfl ⟨⟨own, zJ_mono h (by omega)⟩, hb, yRQ.rf⟩
  by_cases c34 : s 113 0 ≤ a
  · have hc1 : ∀ Q, zR 14 0 [some (.inr (some 1)), some (.inl a), some (.inl x), none] [] w Q = Q (some (.inl (-1))) w := fun Q => by
      rw [zr_14_0, zr_14_1 (by exact zk_at_1 hb), zcq_3_1 h.1, zr_14_4, zr_14_5 (by exact Nat.le_of_ble_eq_true rfl) (by exact zk_at_5 hb), zr_103_0, zr_103_1, zN_of (x := a) (by omega) (by omega), if_neg (by omega), zr_103_4, zr_103_5, zr_103_6 (by exact zk_at_5 hb), f13, zr_103_9, zN_of (x := a) (by omega) (by omega), zN_of (x := s 113 0) (by omega) (by omega), if_pos (by omega), zr_103_21, zr_103_22, Option.toList_some, List.cons_append, List.nil_append, zr_14_8, zr_14_9, zr_14_10n, zr_14_25, zr_14_26]
    have hr1 : ∀ c Q, zKR c → zR 71 0 [some (.inr (some 194)), some (.inl a), some (.inl x)] [] (zmk c s) Q = Q (some (.inl (-1))) (zmk c s) := fun c Q hc => by
      rw [zr_71_0, zr_71_1, zN_of (x := a) (by omega) (by omega), if_neg (by omega), zr_71_4, zr_71_5, zr_71_6 (rk_194 hc), v_f (f := 113) (by decide), zr_71_9, zN_of (x := a) (by omega) (by omega), zN_of (x := s 113 0) (by omega) (by omega), if_pos (by omega), zr_71_40, zr_71_41]
    exact O_fin (G := fun w Q => zR 71 0 [some (.inr (some 194)), some (.inl a), some (.inl x)] [] w Q) hS hc1 hr1 rfl ⟨⟨own, zJ_mono h (by omega)⟩, hb, yRQ.rf⟩
  obtain ⟨r, hr0⟩ : ∃ r : Nat, a = (r : Int) := ⟨a.toNat, by omega⟩
  subst hr0
  have tr : (zN (r : Int)).toNat = r := by rw [zN_of (by omega) (by omega), Int.toNat_natCast]
  obtain ⟨g, p1, p2⟩ := h.2.2.2.2.2.1.1.2 r (by omega)
  obtain ⟨c1, c2, c3, c4, c5, c6, c7, c8, c9, c10, c11, c12, c13, c14, c15, c16, c17, c18, c19, c20⟩ := p2
  obtain ⟨j1, j2, j3, j4, j5, j6, j7, j8⟩ := h.2.2.2.2.2.1.2.2 (r : Int) (by omega) (by omega)
  by_cases c37 : x < 0
  · have hc1 : ∀ Q, zR 14 0 [some (.inr (some 1)), some (.inl (r : Int)), some (.inl x), none] [] w Q = Q (some (.inl (-1))) w := fun Q => by
      rw [zr_14_0, zr_14_1 (by exact zk_at_1 hb), zcq_3_1 h.1, zr_14_4, zr_14_5 (by exact Nat.le_of_ble_eq_true rfl) (by exact zk_at_5 hb), zr_103_0, zr_103_1, zN_of (x := (r : Int)) (by omega) (by omega), if_neg (by omega), zr_103_4, zr_103_5, zr_103_6 (by exact zk_at_5 hb), f13, zr_103_9, zN_of (x := (r : Int)) (by omega) (by omega), zN_of (x := s 113 0) (by omega) (by omega), if_neg (by omega), zr_103_12, zr_103_13 (by exact zk_at_5 hb), zcq_12_5 h.1, zr_103_16, zr_103_17 ⟨by show zNC + 2 < zk w 29; rw [zk_at_29 hb]; decide, by show zk w 29 < 1000; rw [zk_at_29 hb]; decide, by rw [zN_of (x := (r : Int)) (by omega) (by omega)]; omega, by rw [zN_of (x := (r : Int)) (by omega) (by omega)]; show _ < ((zl w 29 : Nat) : Int); rw [zl_at_29 hb]; omega⟩, tr, p1, zr_103_18, zr_103_22, Option.toList_some, List.cons_append, List.nil_append, zr_14_8, zr_14_9, zr_14_10s, zr_14_13, zr_14_14, zN_of (x := x) (by omega) (by omega), if_pos (by omega), zr_14_25, zr_14_26]
    have hr1 : ∀ c Q, zKR c → zR 71 0 [some (.inr (some 194)), some (.inl (r : Int)), some (.inl x)] [] (zmk c s) Q = Q (some (.inl (-1))) (zmk c s) := fun c Q hc => by
      rw [zr_71_0, zr_71_1, zN_of (x := (r : Int)) (by omega) (by omega), if_neg (by omega), zr_71_4, zr_71_5, zr_71_6 (rk_194 hc), v_f (f := 113) (by decide), zr_71_9, zN_of (x := (r : Int)) (by omega) (by omega), zN_of (x := s 113 0) (by omega) (by omega), if_neg (by omega), zr_71_12, zr_71_13, zN_of (x := x) (by omega) (by omega), if_pos (by omega), zr_71_40, zr_71_41]
    exact O_fin (G := fun w Q => zR 71 0 [some (.inr (some 194)), some (.inl (r : Int)), some (.inl x)] [] w Q) hS hc1 hr1 rfl ⟨⟨own, zJ_mono h (by omega)⟩, hb, yRQ.rf⟩
  by_cases c39 : s 237 (r : Int) ≤ x
  · have hc1 : ∀ Q, zR 14 0 [some (.inr (some 1)), some (.inl (r : Int)), some (.inl x), none] [] w Q = Q (some (.inl (-1))) w := fun Q => by
      rw [zr_14_0, zr_14_1 (by exact zk_at_1 hb), zcq_3_1 h.1, zr_14_4, zr_14_5 (by exact Nat.le_of_ble_eq_true rfl) (by exact zk_at_5 hb), zr_103_0, zr_103_1, zN_of (x := (r : Int)) (by omega) (by omega), if_neg (by omega), zr_103_4, zr_103_5, zr_103_6 (by exact zk_at_5 hb), f13, zr_103_9, zN_of (x := (r : Int)) (by omega) (by omega), zN_of (x := s 113 0) (by omega) (by omega), if_neg (by omega), zr_103_12, zr_103_13 (by exact zk_at_5 hb), zcq_12_5 h.1, zr_103_16, zr_103_17 ⟨by show zNC + 2 < zk w 29; rw [zk_at_29 hb]; decide, by show zk w 29 < 1000; rw [zk_at_29 hb]; decide, by rw [zN_of (x := (r : Int)) (by omega) (by omega)]; omega, by rw [zN_of (x := (r : Int)) (by omega) (by omega)]; show _ < ((zl w 29 : Nat) : Int); rw [zl_at_29 hb]; omega⟩, tr, p1, zr_103_18, zr_103_22, Option.toList_some, List.cons_append, List.nil_append, zr_14_8, zr_14_9, zr_14_10s, zr_14_13, zr_14_14, zN_of (x := x) (by omega) (by omega), if_neg (by omega), zr_14_17, zr_14_18, zr_14_19 (by exact c2), c14, zr_14_22, zN_of (x := x) (by omega) (by omega), zN_of (x := s 237 (r : Int)) (by omega) (by omega), if_neg (by omega), zr_14_25, zr_14_26]
    have hr1 : ∀ c Q, zKR c → zR 71 0 [some (.inr (some 194)), some (.inl (r : Int)), some (.inl x)] [] (zmk c s) Q = Q (some (.inl (-1))) (zmk c s) := fun c Q hc => by
      rw [zr_71_0, zr_71_1, zN_of (x := (r : Int)) (by omega) (by omega), if_neg (by omega), zr_71_4, zr_71_5, zr_71_6 (rk_194 hc), v_f (f := 113) (by decide), zr_71_9, zN_of (x := (r : Int)) (by omega) (by omega), zN_of (x := s 113 0) (by omega) (by omega), if_neg (by omega), zr_71_12, zr_71_13, zN_of (x := x) (by omega) (by omega), if_neg (by omega), zr_71_16, zr_71_17, zr_71_18 (rk_194 hc), rp_120 hc, zr_71_21, zr_71_22 (ri_237 hc (by omega) (by omega)), ra (h := 237) (j := (r : Int)) (by decide) (by decide) (by omega) (by omega), zr_71_23, zN_of (x := x) (by omega) (by omega), zN_of (x := s 237 (r : Int)) (by omega) (by omega), if_pos (by omega), zr_71_40, zr_71_41]
    exact O_fin (G := fun w Q => zR 71 0 [some (.inr (some 194)), some (.inl (r : Int)), some (.inl x)] [] w Q) hS hc1 hr1 rfl ⟨⟨own, zJ_mono h (by omega)⟩, hb, yRQ.rf⟩
  obtain ⟨k, hk⟩ : ∃ k : Nat, x = (k : Int) := ⟨x.toNat, by omega⟩
  subst hk
  have tk : (zN (k : Int)).toNat = k := by rw [zN_of (by omega) (by omega), Int.toNat_natCast]
  have hv := c20 k (by omega)
  have hc1 : ∀ Q, zR 14 0 [some (.inr (some 1)), some (.inl (r : Int)), some (.inl (k : Int)), none] [] w Q = Q (some (.inl (s 238 (32 * (r : Int) + (k : Int))))) w := fun Q => by
    rw [zr_14_0, zr_14_1 (by exact zk_at_1 hb), zcq_3_1 h.1, zr_14_4, zr_14_5 (by exact Nat.le_of_ble_eq_true rfl) (by exact zk_at_5 hb), zr_103_0, zr_103_1, zN_of (x := (r : Int)) (by omega) (by omega), if_neg (by omega), zr_103_4, zr_103_5, zr_103_6 (by exact zk_at_5 hb), f13, zr_103_9, zN_of (x := (r : Int)) (by omega) (by omega), zN_of (x := s 113 0) (by omega) (by omega), if_neg (by omega), zr_103_12, zr_103_13 (by exact zk_at_5 hb), zcq_12_5 h.1, zr_103_16, zr_103_17 ⟨by show zNC + 2 < zk w 29; rw [zk_at_29 hb]; decide, by show zk w 29 < 1000; rw [zk_at_29 hb]; decide, by rw [zN_of (x := (r : Int)) (by omega) (by omega)]; omega, by rw [zN_of (x := (r : Int)) (by omega) (by omega)]; show _ < ((zl w 29 : Nat) : Int); rw [zl_at_29 hb]; omega⟩, tr, p1, zr_103_18, zr_103_22, Option.toList_some, List.cons_append, List.nil_append, zr_14_8, zr_14_9, zr_14_10s, zr_14_13, zr_14_14, zN_of (x := (k : Int)) (by omega) (by omega), if_neg (by omega), zr_14_17, zr_14_18, zr_14_19 (by exact c2), c14, zr_14_22, zN_of (x := (k : Int)) (by omega) (by omega), zN_of (x := s 237 (r : Int)) (by omega) (by omega), if_pos (by omega), zr_14_27, zr_14_28 (by exact c2), c6, zr_14_31, zr_14_32 ⟨Or.inl (by exact c3), by rw [zN_of (x := (k : Int)) (by omega) (by omega)]; omega, by rw [zN_of (x := (k : Int)) (by omega) (by omega)]; show _ < ((zl w (g + 2) : Nat) : Int); rw [c4]; omega⟩, tk, hv, zr_14_33]
  have hr1 : ∀ c Q, zKR c → zR 71 0 [some (.inr (some 194)), some (.inl (r : Int)), some (.inl (k : Int))] [] (zmk c s) Q = Q (some (.inl (s 238 (32 * (r : Int) + (k : Int))))) (zmk c s) := fun c Q hc => by
    rw [zr_71_0, zr_71_1, zN_of (x := (r : Int)) (by omega) (by omega), if_neg (by omega), zr_71_4, zr_71_5, zr_71_6 (rk_194 hc), v_f (f := 113) (by decide), zr_71_9, zN_of (x := (r : Int)) (by omega) (by omega), zN_of (x := s 113 0) (by omega) (by omega), if_neg (by omega), zr_71_12, zr_71_13, zN_of (x := (k : Int)) (by omega) (by omega), if_neg (by omega), zr_71_16, zr_71_17, zr_71_18 (rk_194 hc), rp_120 hc, zr_71_21, zr_71_22 (ri_237 hc (by omega) (by omega)), ra (h := 237) (j := (r : Int)) (by decide) (by decide) (by omega) (by omega), zr_71_23, zN_of (x := (k : Int)) (by omega) (by omega), zN_of (x := s 237 (r : Int)) (by omega) (by omega), if_neg (by omega), zr_71_26, zr_71_27 (rk_194 hc), rp_121 hc, zr_71_30, zr_71_32, zr_71_33, zr_71_34, zr_71_35, zr_71_36 (ri_238 hc (by omega) (by omega)), ra (h := 238) (j := ((32 * (r : Int)) + (k : Int))) (by decide) (by decide) (by omega) (by omega), zr_71_37, zr_71_41]
  exact O_fin (G := fun w Q => zR 71 0 [some (.inr (some 194)), some (.inl (r : Int)), some (.inl (k : Int))] [] w Q) hS hc1 hr1 rfl ⟨⟨own, zJ_mono h (by omega)⟩, hb, yRQ.rf⟩
theorem z_rem16 : ∀ n, n < 48 → zo_rem ((n : Nat) : Int) 16 = ((n % 16 : Nat) : Int) := by decide +kernel
set_option maxHeartbeats 1000000 in
theorem o_op_14 {L : Nat} {xs : Nat → Int} {B : Int} {w : zW} (hb : zBase L xs w) (hP : zPJ B w) (hB : B < 1000000000) (a : Int) (rga : -2147483648 ≤ a ∧ a < 2147483648) (x : Int) (rgx : -2147483648 ≤ x ∧ x < 2147483648) : zR 15 0 [some (.inr (some 1)), some (.inl a), some (.inl x), none] [] w (fun r w1 => ∃ v, r = some (.inl v) ∧ (zBase L xs w1 → zR 72 0 [some (.inr (some 194)), some (.inl a), some (.inl x)] [] w1 (fun r2 w2 => ∃ v2, r2 = some (.inl v2) ∧ zN v = zN v2 ∧ (zBase L xs w2 → zPJ (B + 1400) w2)))) := by
  obtain ⟨own, s, h, hS⟩ := hP
  obtain ⟨n, y, n16, y16, f10, f11, s122, hl⟩ := h.2.2.2.2.2.2.2.2.2.2.1
  by_cases c32 : a < 0
  · have hc1 : ∀ Q, zR 15 0 [some (.inr (some 1)), some (.inl a), some (.inl x), none] [] w Q = Q (some (.inl (-40000))) w := fun Q => by
      rw [zr_15_0, zr_15_1, zN_of (x := a) (by omega) (by omega), if_pos (by omega), zr_15_15, zr_15_17]
    have hr1 : ∀ c Q, zKR c → zR 72 0 [some (.inr (some 194)), some (.inl a), some (.inl x)] [] (zmk c s) Q = Q (some (.inl (-40000))) (zmk c s) := fun c Q hc => by
      rw [zr_72_0, zr_72_1, zN_of (x := a) (by omega) (by omega), if_pos (by omega), zr_72_41, zr_72_44]
    exact O_fin (G := fun w Q => zR 72 0 [some (.inr (some 194)), some (.inl a), some (.inl x)] [] w Q) hS hc1 hr1 rfl ⟨⟨own, zJ_mono h (by omega)⟩, hb, yRQ.rf⟩
  by_cases c34 : (n : Int) ≤ a
  · have hc1 : ∀ Q, zR 15 0 [some (.inr (some 1)), some (.inl a), some (.inl x), none] [] w Q = Q (some (.inl (-40000))) w := fun Q => by
      rw [zr_15_0, zr_15_1, zN_of (x := a) (by omega) (by omega), if_neg (by omega), zr_15_4, zr_15_5, zr_15_6 (by exact zk_at_1 hb), zcq_3_1 h.1, zr_15_9 (by exact zk_at_5 hb), f10, zr_15_12, zN_of (x := a) (by omega) (by omega), zN_of (x := (n : Int)) (by omega) (by omega), if_neg (by omega), zr_15_15, zr_15_17]
    have hr1 : ∀ c Q, zKR c → zR 72 0 [some (.inr (some 194)), some (.inl a), some (.inl x)] [] (zmk c s) Q = Q (some (.inl (-40000))) (zmk c s) := fun c Q hc => by
      rw [zr_72_0, zr_72_1, zN_of (x := a) (by omega) (by omega), if_neg (by omega), zr_72_4, zr_72_5, zr_72_6 (rk_194 hc), v_f (f := 122) (by decide), s122, zr_72_9, zN_of (x := a) (by omega) (by omega), zN_of (x := (n : Int)) (by omega) (by omega), if_pos (by omega), zr_72_41, zr_72_44]
    exact O_fin (G := fun w Q => zR 72 0 [some (.inr (some 194)), some (.inl a), some (.inl x)] [] w Q) hS hc1 hr1 rfl ⟨⟨own, zJ_mono h (by omega)⟩, hb, yRQ.rf⟩
  obtain ⟨k, hk0⟩ : ∃ k : Nat, a = (k : Int) := ⟨a.toNat, by omega⟩
  subst hk0
  have hk : k < n := by omega
  obtain ⟨l1, l2, l3⟩ := hl k hk
  have em : zo_rem ((y : Int) - 1 - (k : Int) + 32) 16 = (((y + 31 - k) % 16 : Nat) : Int) := by
    rw [show (y : Int) - 1 - (k : Int) + 32 = ((y + 31 - k : Nat) : Int) by omega]
    exact z_rem16 (y + 31 - k) (by omega)
  have tk : (zN (((y + 31 - k) % 16 : Nat) : Int)).toNat = (y + 31 - k) % 16 := by rw [zN_of (by omega) (by omega), Int.toNat_natCast]
  generalize hm : (y + 31 - k) % 16 = m at em tk l1 l2 l3
  have m16 : m < 16 := by omega
  have h109 : ∀ Q, zR 109 0 [some (.inr (some 5)), some (.inl (k : Int))] [] w Q = Q (some (.inl (m : Int))) w := fun Q => by
    rw [zr_109_0, zr_109_1 (zk_at_5 hb), f11, zr_109_4, zr_109_5, zr_109_6, zr_109_7, zr_109_8, zr_109_10, zr_109_11, zr_109_13 (by decide), em, zr_109_14]
  by_cases x0 : x = 0
  · subst x0
    have hc1 : ∀ Q, zR 15 0 [some (.inr (some 1)), some (.inl (k : Int)), some (.inl 0), none] [] w Q = Q (some (.inl (s 239 (3 * ((n : Int) - 1 - (k : Int)))))) w := fun Q => by
      rw [zr_15_0, zr_15_1, zN_of (x := (k : Int)) (by omega) (by omega), if_neg (by omega), zr_15_4, zr_15_5, zr_15_6 (by exact zk_at_1 hb), zcq_3_1 h.1, zr_15_9 (by exact zk_at_5 hb), f10, zr_15_12, zN_of (x := (k : Int)) (by omega) (by omega), zN_of (x := (n : Int)) (by omega) (by omega), if_pos (by omega), zr_15_18, zr_15_19 (by exact zk_at_1 hb), zcq_3_1 h.1, zr_15_22, zr_15_23 (by exact Nat.le_of_ble_eq_true rfl) (by exact zk_at_5 hb), h109, Option.toList_some, List.cons_append, List.nil_append, zr_15_26, zr_15_27, zr_15_28k0 (by decide), zr_15_56, zr_15_57 (by exact zk_at_1 hb), zcq_3_1 h.1, zr_15_60 (by exact zk_at_5 hb), zcq_7_5 h.1, zr_15_63, zr_15_64 ⟨Or.inl (by exact zk_at_26 hb), by rw [zN_of (x := (m : Int)) (by omega) (by omega)]; omega, by rw [zN_of (x := (m : Int)) (by omega) (by omega)]; show _ < ((zl w 26 : Nat) : Int); rw [zl_at_26 hb]; omega⟩, tk, l1, zr_15_65]
    have hr1 : ∀ c Q, zKR c → zR 72 0 [some (.inr (some 194)), some (.inl (k : Int)), some (.inl 0)] [] (zmk c s) Q = Q (some (.inl (s 239 (3 * ((n : Int) - 1 - (k : Int)))))) (zmk c s) := fun c Q hc => by
      rw [zr_72_0, zr_72_1, zN_of (x := (k : Int)) (by omega) (by omega), if_neg (by omega), zr_72_4, zr_72_5, zr_72_6 (rk_194 hc), v_f (f := 122) (by decide), s122, zr_72_9, zN_of (x := (k : Int)) (by omega) (by omega), zN_of (x := (n : Int)) (by omega) (by omega), if_neg (by omega), zr_72_12, zr_72_13, zr_72_14, zr_72_15 (by exact Nat.le_of_ble_eq_true rfl), m_within1 (by decide) (by decide) (by decide) (by decide) (by rw [zN_of (by omega) (by omega)]; omega), Option.toList_some, List.cons_append, List.nil_append, zr_72_18, show zN 1 = 1 by decide, if_neg (by omega), zr_72_21, zr_72_22 (rk_194 hc), rp_123 hc, zr_72_25, zr_72_26, zr_72_27 (rk_194 hc), v_f (f := 122) (by decide), s122, zr_72_30, zr_72_31, zr_72_32, zr_72_33, zr_72_34, zr_72_35, zr_72_36, zr_72_37 (ri_239 hc (by omega) (by omega)), ra (h := 239) (j := (((3 * (((n : Int) - 1) - (k : Int)))) + 0)) (by decide) (by decide) (by omega) (by omega), zr_72_38, zr_72_44]
      rw [Int.add_zero]
    exact O_fin (G := fun w Q => zR 72 0 [some (.inr (some 194)), some (.inl (k : Int)), some (.inl 0)] [] w Q) hS hc1 hr1 rfl ⟨⟨own, zJ_mono h (by omega)⟩, hb, yRQ.rf⟩
  by_cases x1 : x = 1
  · subst x1
    have hc1 : ∀ Q, zR 15 0 [some (.inr (some 1)), some (.inl (k : Int)), some (.inl 1), none] [] w Q = Q (some (.inl (s 239 (3 * ((n : Int) - 1 - (k : Int)) + 1)))) w := fun Q => by
      rw [zr_15_0, zr_15_1, zN_of (x := (k : Int)) (by omega) (by omega), if_neg (by omega), zr_15_4, zr_15_5, zr_15_6 (by exact zk_at_1 hb), zcq_3_1 h.1, zr_15_9 (by exact zk_at_5 hb), f10, zr_15_12, zN_of (x := (k : Int)) (by omega) (by omega), zN_of (x := (n : Int)) (by omega) (by omega), if_pos (by omega), zr_15_18, zr_15_19 (by exact zk_at_1 hb), zcq_3_1 h.1, zr_15_22, zr_15_23 (by exact Nat.le_of_ble_eq_true rfl) (by exact zk_at_5 hb), h109, Option.toList_some, List.cons_append, List.nil_append, zr_15_26, zr_15_27, zr_15_28k1 (by decide), zr_15_66, zr_15_67 (by exact zk_at_1 hb), zcq_3_1 h.1, zr_15_70 (by exact zk_at_5 hb), zcq_8_5 h.1, zr_15_73, zr_15_74 ⟨Or.inl (by exact zk_at_27 hb), by rw [zN_of (x := (m : Int)) (by omega) (by omega)]; omega, by rw [zN_of (x := (m : Int)) (by omega) (by omega)]; show _ < ((zl w 27 : Nat) : Int); rw [zl_at_27 hb]; omega⟩, tk, l2, zr_15_75]
    have hr1 : ∀ c Q, zKR c → zR 72 0 [some (.inr (some 194)), some (.inl (k : Int)), some (.inl 1)] [] (zmk c s) Q = Q (some (.inl (s 239 (3 * ((n : Int) - 1 - (k : Int)) + 1)))) (zmk c s) := fun c Q hc => by
      rw [zr_72_0, zr_72_1, zN_of (x := (k : Int)) (by omega) (by omega), if_neg (by omega), zr_72_4, zr_72_5, zr_72_6 (rk_194 hc), v_f (f := 122) (by decide), s122, zr_72_9, zN_of (x := (k : Int)) (by omega) (by omega), zN_of (x := (n : Int)) (by omega) (by omega), if_neg (by omega), zr_72_12, zr_72_13, zr_72_14, zr_72_15 (by exact Nat.le_of_ble_eq_true rfl), m_within1 (by decide) (by decide) (by decide) (by decide) (by rw [zN_of (by omega) (by omega)]; omega), Option.toList_some, List.cons_append, List.nil_append, zr_72_18, show zN 1 = 1 by decide, if_neg (by omega), zr_72_21, zr_72_22 (rk_194 hc), rp_123 hc, zr_72_25, zr_72_26, zr_72_27 (rk_194 hc), v_f (f := 122) (by decide), s122, zr_72_30, zr_72_31, zr_72_32, zr_72_33, zr_72_34, zr_72_35, zr_72_36, zr_72_37 (ri_239 hc (by omega) (by omega)), ra (h := 239) (j := (((3 * (((n : Int) - 1) - (k : Int)))) + 1)) (by decide) (by decide) (by omega) (by omega), zr_72_38, zr_72_44]
    exact O_fin (G := fun w Q => zR 72 0 [some (.inr (some 194)), some (.inl (k : Int)), some (.inl 1)] [] w Q) hS hc1 hr1 rfl ⟨⟨own, zJ_mono h (by omega)⟩, hb, yRQ.rf⟩
  by_cases x2 : x = 2
  · subst x2
    have hc1 : ∀ Q, zR 15 0 [some (.inr (some 1)), some (.inl (k : Int)), some (.inl 2), none] [] w Q = Q (some (.inl (s 239 (3 * ((n : Int) - 1 - (k : Int)) + 2)))) w := fun Q => by
      rw [zr_15_0, zr_15_1, zN_of (x := (k : Int)) (by omega) (by omega), if_neg (by omega), zr_15_4, zr_15_5, zr_15_6 (by exact zk_at_1 hb), zcq_3_1 h.1, zr_15_9 (by exact zk_at_5 hb), f10, zr_15_12, zN_of (x := (k : Int)) (by omega) (by omega), zN_of (x := (n : Int)) (by omega) (by omega), if_pos (by omega), zr_15_18, zr_15_19 (by exact zk_at_1 hb), zcq_3_1 h.1, zr_15_22, zr_15_23 (by exact Nat.le_of_ble_eq_true rfl) (by exact zk_at_5 hb), h109, Option.toList_some, List.cons_append, List.nil_append, zr_15_26, zr_15_27, zr_15_28k2 (by decide), zr_15_76, zr_15_77 (by exact zk_at_1 hb), zcq_3_1 h.1, zr_15_80 (by exact zk_at_5 hb), zcq_9_5 h.1, zr_15_83, zr_15_84 ⟨Or.inl (by exact zk_at_28 hb), by rw [zN_of (x := (m : Int)) (by omega) (by omega)]; omega, by rw [zN_of (x := (m : Int)) (by omega) (by omega)]; show _ < ((zl w 28 : Nat) : Int); rw [zl_at_28 hb]; omega⟩, tk, l3, zr_15_85]
    have hr1 : ∀ c Q, zKR c → zR 72 0 [some (.inr (some 194)), some (.inl (k : Int)), some (.inl 2)] [] (zmk c s) Q = Q (some (.inl (s 239 (3 * ((n : Int) - 1 - (k : Int)) + 2)))) (zmk c s) := fun c Q hc => by
      rw [zr_72_0, zr_72_1, zN_of (x := (k : Int)) (by omega) (by omega), if_neg (by omega), zr_72_4, zr_72_5, zr_72_6 (rk_194 hc), v_f (f := 122) (by decide), s122, zr_72_9, zN_of (x := (k : Int)) (by omega) (by omega), zN_of (x := (n : Int)) (by omega) (by omega), if_neg (by omega), zr_72_12, zr_72_13, zr_72_14, zr_72_15 (by exact Nat.le_of_ble_eq_true rfl), m_within1 (by decide) (by decide) (by decide) (by decide) (by rw [zN_of (by omega) (by omega)]; omega), Option.toList_some, List.cons_append, List.nil_append, zr_72_18, show zN 1 = 1 by decide, if_neg (by omega), zr_72_21, zr_72_22 (rk_194 hc), rp_123 hc, zr_72_25, zr_72_26, zr_72_27 (rk_194 hc), v_f (f := 122) (by decide), s122, zr_72_30, zr_72_31, zr_72_32, zr_72_33, zr_72_34, zr_72_35, zr_72_36, zr_72_37 (ri_239 hc (by omega) (by omega)), ra (h := 239) (j := (((3 * (((n : Int) - 1) - (k : Int)))) + 2)) (by decide) (by decide) (by omega) (by omega), zr_72_38, zr_72_44]
    exact O_fin (G := fun w Q => zR 72 0 [some (.inr (some 194)), some (.inl (k : Int)), some (.inl 2)] [] w Q) hS hc1 hr1 rfl ⟨⟨own, zJ_mono h (by omega)⟩, hb, yRQ.rf⟩
  have hc1 : ∀ Q, zR 15 0 [some (.inr (some 1)), some (.inl (k : Int)), some (.inl x), none] [] w Q = Q (some (.inl (-40000))) w := fun Q => by
    rw [zr_15_0, zr_15_1, zN_of (x := (k : Int)) (by omega) (by omega), if_neg (by omega), zr_15_4, zr_15_5, zr_15_6 (by exact zk_at_1 hb), zcq_3_1 h.1, zr_15_9 (by exact zk_at_5 hb), f10, zr_15_12, zN_of (x := (k : Int)) (by omega) (by omega), zN_of (x := (n : Int)) (by omega) (by omega), if_pos (by omega), zr_15_18, zr_15_19 (by exact zk_at_1 hb), zcq_3_1 h.1, zr_15_22, zr_15_23 (by exact Nat.le_of_ble_eq_true rfl) (by exact zk_at_5 hb), h109, Option.toList_some, List.cons_append, List.nil_append, zr_15_26, zr_15_27, zr_15_28d (by rw [zN_of (by omega) (by omega)]; omega), zr_15_86, zr_15_88]
  have hr1 : ∀ c Q, zKR c → zR 72 0 [some (.inr (some 194)), some (.inl (k : Int)), some (.inl x)] [] (zmk c s) Q = Q (some (.inl (-40000))) (zmk c s) := fun c Q hc => by
    rw [zr_72_0, zr_72_1, zN_of (x := (k : Int)) (by omega) (by omega), if_neg (by omega), zr_72_4, zr_72_5, zr_72_6 (rk_194 hc), v_f (f := 122) (by decide), s122, zr_72_9, zN_of (x := (k : Int)) (by omega) (by omega), zN_of (x := (n : Int)) (by omega) (by omega), if_neg (by omega), zr_72_12, zr_72_13, zr_72_14, zr_72_15 (by exact Nat.le_of_ble_eq_true rfl), m_within0 (by decide) (by decide) (by decide) (by decide) (by rw [zN_of (by omega) (by omega)]; omega), Option.toList_some, List.cons_append, List.nil_append, zr_72_18, show zN 0 = 0 by decide, if_pos (by omega), zr_72_41, zr_72_44]
  exact O_fin (G := fun w Q => zR 72 0 [some (.inr (some 194)), some (.inl (k : Int)), some (.inl x)] [] w Q) hS hc1 hr1 rfl ⟨⟨own, zJ_mono h (by omega)⟩, hb, yRQ.rf⟩
