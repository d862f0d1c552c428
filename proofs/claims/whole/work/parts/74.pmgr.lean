-- both sides together: the manager takes a message
theorem m_107_ans {w : zW} {Q : Option zV → zW → Prop} {h kd : Nat} (k5 : zk w 5 = 1) (hh : zk w h = 9) (hkd : zf w 59 h = (kd : Int)) (hk15 : kd < 16) (h8 : kd < 8) {v : zW} (hcall : ∀ Q, zR 110 0 [some (.inr (some 5)), some (.inr (some h)), none] [] w Q = Q none v) : zR 107 0 [some (.inr (some 5)), some (.inr (some h))] [] w Q = Q none v := by
  rw [zr_107_0, zr_107_1 (by exact Nat.le_of_ble_eq_true rfl) (by exact hh), m_124y hh hkd hk15 h8, Option.toList_some, List.cons_append, List.nil_append, zr_107_4, show zN 1 = 1 by decide, if_neg (by omega), zr_107_7, zr_107_8, zr_107_9 (by exact Nat.le_of_ble_eq_true rfl) (by exact k5), hcall, Option.toList_none, List.nil_append, zr_107_12, zr_107_39]
theorem m_107_log {w : zW} {Q : Option zV → zW → Prop} {h kd : Nat} (k5 : zk w 5 = 1) (hh : zk w h = 9) (hkd : zf w 59 h = (kd : Int)) (hk15 : kd < 16) (h8 : 8 ≤ kd) (hhp : zp w 61 h = some (h + 1)) (hhb : zk w (h + 1) = 12) (hhl : zl w (h + 1) = 32) (hn : zf w 60 h = 4) (hx0 : za w (h + 1) 0 = 64) {v : zW} (hcall : ∀ Q, zR 108 0 [some (.inr (some 5)), some (.inr (some h))] [] w Q = Q none v) : zR 107 0 [some (.inr (some 5)), some (.inr (some h))] [] w Q = Q none v := by
  rw [zr_107_0, zr_107_1 (by exact Nat.le_of_ble_eq_true rfl) (by exact hh), m_124n hh hkd hk15 h8, Option.toList_some, List.cons_append, List.nil_append, zr_107_4, show zN 0 = 0 by decide, if_pos (by omega), zr_107_15, zr_107_16 (by exact hh), hn, zr_107_19, zr_107_20, show zN 4 = 4 by decide, if_neg (by omega), zr_107_23, zr_107_24 (by exact hh), hhp, zr_107_27, zr_107_28 ⟨Or.inl (by exact hhb), by rw [show zN 0 = 0 by decide]; omega, by rw [show zN 0 = 0 by decide]; show _ < ((zl w (h + 1) : Nat) : Int); rw [hhl]; omega⟩, show (zN 0).toNat = 0 by decide, hx0, zr_107_29, zr_107_31, show zN 64 = 64 by decide, if_neg (by omega), zr_107_34, zr_107_35, zr_107_36 (by exact Nat.le_of_ble_eq_true rfl) (by exact k5), hcall, Option.toList_none, List.nil_append, zr_107_39]
theorem m_107_no {w : zW} {Q : Option zV → zW → Prop} {h kd : Nat} (k5 : zk w 5 = 1) (hh : zk w h = 9) (hkd : zf w 59 h = (kd : Int)) (hk15 : kd < 16) (h8 : 8 ≤ kd) (hhp : zp w 61 h = some (h + 1)) (hhb : zk w (h + 1) = 12) (hhl : zl w (h + 1) = 32) {n x0 : Int} (hn : zf w 60 h = n) (hx0 : za w (h + 1) 0 = x0) (rn : 0 ≤ n ∧ n ≤ 32) (rx : 0 ≤ x0 ∧ x0 ≤ 255) (hno : ¬ (n = 4 ∧ x0 = 64)) : zR 107 0 [some (.inr (some 5)), some (.inr (some h))] [] w Q = Q none w := by
  rw [zr_107_0, zr_107_1 (by exact Nat.le_of_ble_eq_true rfl) (by exact hh), m_124n hh hkd hk15 h8, Option.toList_some, List.cons_append, List.nil_append, zr_107_4, show zN 0 = 0 by decide, if_pos (by omega), zr_107_15, zr_107_16 (by exact hh), hn, zr_107_19, zr_107_20]
  by_cases hb0 : n ≠ 4
  · rw [zN_of (x := n) (by omega) (by omega), show zN 4 = 4 by decide, if_pos hb0, zr_107_39]
  · rw [zN_of (x := n) (by omega) (by omega), show zN 4 = 4 by decide, if_neg hb0, zr_107_23, zr_107_24 (by exact hh), hhp, zr_107_27, zr_107_28 ⟨Or.inl (by exact hhb), by rw [show zN 0 = 0 by decide]; omega, by rw [show zN 0 = 0 by decide]; show _ < ((zl w (h + 1) : Nat) : Int); rw [hhl]; omega⟩, show (zN 0).toNat = 0 by decide, hx0, zr_107_29, zr_107_31]
    by_cases hb1 : x0 ≠ 64
    · rw [zN_of (x := x0) (by omega) (by omega), show zN 64 = 64 by decide, if_pos hb1, zr_107_39]
    · rw [zN_of (x := x0) (by omega) (by omega), show zN 64 = 64 by decide, if_neg hb1]
      exfalso; omega
theorem m_110_skip {w : zW} {Q : Option zV → zW → Prop} {h r n g : Nat} (k5 : zk w 5 = 1) (p12 : zp w 12 5 = some 29) (k29 : zk w 29 = 20) (l29 : zl w 29 = 40) (hn : zf w 13 5 = (n : Int)) (hn40 : n ≤ 40) (hr : r < n) (hbr : zb w 29 r = some (g + 1)) (hg : zk w (g + 1) = 10) (hby : ∀ Q, zR 136 0 [some (.inr (some (g + 1))), some (.inr (some h))] [] w Q = Q (some (.inl 0)) w) : zR 110 2 [some (.inr (some 5)), some (.inr (some h)), some (.inl (r : Int))] [] w Q = zR 110 2 [some (.inr (some 5)), some (.inr (some h)), some (.inl ((r + 1 : Nat) : Int))] [] w Q := by
  have tr : (zN (r : Int)).toNat = r := by rw [zN_of (by omega) (by omega), Int.toNat_natCast]
  rw [zr_110_2, zr_110_3, zr_110_4 (by exact k5), hn, zr_110_7, zN_of (x := (r : Int)) (by omega) (by omega), zN_of (x := (n : Int)) (by omega) (by omega), if_neg (by omega), zr_110_10, zr_110_11 (by exact k5), p12, zr_110_14, zr_110_15 ⟨by show zNC + 2 < zk w 29; rw [k29]; decide, by show zk w 29 < 1000; rw [k29]; decide, by rw [zN_of (x := (r : Int)) (by omega) (by omega)]; omega, by rw [zN_of (x := (r : Int)) (by omega) (by omega)]; show _ < ((zl w 29 : Nat) : Int); rw [l29]; omega⟩, tr, hbr, zr_110_16, zr_110_17 (by exact Nat.le_of_ble_eq_true rfl) (by exact hg), hby, Option.toList_some, List.cons_append, List.nil_append, zr_110_20, show zN 0 = 0 by decide, if_pos (by omega), zr_110_34, zr_110_37]
  rfl
theorem m_110_hit {w : zW} {Q : Option zV → zW → Prop} {h r n g : Nat} (k5 : zk w 5 = 1) (p12 : zp w 12 5 = some 29) (k29 : zk w 29 = 20) (l29 : zl w 29 = 40) (hn : zf w 13 5 = (n : Int)) (hn40 : n ≤ 40) (hr : r < n) (hbr : zb w 29 r = some (g + 1)) (hg : zk w (g + 1) = 10) (hby : ∀ Q, zR 136 0 [some (.inr (some (g + 1))), some (.inr (some h))] [] w Q = Q (some (.inl 1)) w) {v : zW} (hset : ∀ Q, zR 137 0 [some (.inr (some (g + 1))), some (.inr (some h))] [] w Q = Q none v) : zR 110 2 [some (.inr (some 5)), some (.inr (some h)), some (.inl (r : Int))] [] w Q = Q none v := by
  have tr : (zN (r : Int)).toNat = r := by rw [zN_of (by omega) (by omega), Int.toNat_natCast]
  rw [zr_110_2, zr_110_3, zr_110_4 (by exact k5), hn, zr_110_7, zN_of (x := (r : Int)) (by omega) (by omega), zN_of (x := (n : Int)) (by omega) (by omega), if_neg (by omega), zr_110_10, zr_110_11 (by exact k5), p12, zr_110_14, zr_110_15 ⟨by show zNC + 2 < zk w 29; rw [k29]; decide, by show zk w 29 < 1000; rw [k29]; decide, by rw [zN_of (x := (r : Int)) (by omega) (by omega)]; omega, by rw [zN_of (x := (r : Int)) (by omega) (by omega)]; show _ < ((zl w 29 : Nat) : Int); rw [l29]; omega⟩, tr, hbr, zr_110_16, zr_110_17 (by exact Nat.le_of_ble_eq_true rfl) (by exact hg), hby, Option.toList_some, List.cons_append, List.nil_append, zr_110_20, show zN 1 = 1 by decide, if_neg (by omega), zr_110_23, zr_110_24 (by exact k5), p12, zr_110_27, zr_110_28 ⟨by show zNC + 2 < zk w 29; rw [k29]; decide, by show zk w 29 < 1000; rw [k29]; decide, by rw [zN_of (x := (r : Int)) (by omega) (by omega)]; omega, by rw [zN_of (x := (r : Int)) (by omega) (by omega)]; show _ < ((zl w 29 : Nat) : Int); rw [l29]; omega⟩, tr, hbr, zr_110_29, zr_110_30 (by exact Nat.le_of_ble_eq_true rfl) (by exact hg), hset, Option.toList_none, List.nil_append, zr_110_33]
theorem m_110_end {w : zW} {Q : Option zV → zW → Prop} {h n : Nat} (k5 : zk w 5 = 1) (hn : zf w 13 5 = (n : Int)) (hn40 : n ≤ 40) : zR 110 2 [some (.inr (some 5)), some (.inr (some h)), some (.inl (n : Int))] [] w Q = Q none w := by
  rw [zr_110_2, zr_110_3, zr_110_4 (by exact k5), hn, zr_110_7, zN_of (x := (n : Int)) (by omega) (by omega), if_pos (by omega), zr_110_40]
-- frames of the manager's doing: requests and log alone
def yFm (own : Nat → Nat) (w v : zW) : Prop := zSF w v ∧ (∀ f h, fg f ≠ 5 → fg f ≠ 10 → zf v f h = zf w f h) ∧ (∀ h, ag own h ≠ 5 → ag own h ≠ 10 → ∀ j, za v h j = za w h j)
def yFt (s t : zSt) : Prop := ∀ a, sg a ≠ 5 → sg a ≠ 10 → ∀ x, t a x = s a x
theorem gR_settle {own : Nat → Nat} {s : zSt} {w : zW} {r g hh n : Nat} (hR : gR own s w) (hi : iR s) (hn32 : n ≤ 32) (hr : (r : Int) < s 113 0) (hb : zb w 29 r = some (g + 1)) (hq : zReq own s w r g) (hown : own (hh + 1) < 448) (h239 : 239 < hh) (hc : ∀ j : Nat, j < n → za w (hh + 1) j = s 229 (j : Int)) : gR own (zan s (r : Int) (n : Int)) (zcp (zsf (zsf w 69 (g + 1) 2) 68 (g + 1) (n : Int)) (hh + 1) 0 (g + 2) 0 n) := by
  have hq0 := hq
  obtain ⟨a1, a2, a3, a4, a5, a6, a7, a8, a9, a10, a11, a12, a13, a14, a15, a16, a17, a18, a19, a20⟩ := hq
  refine ⟨?_, fun r2 hr2 => ?_⟩
  · show zf (zsf (zsf w 69 (g + 1) 2) 68 (g + 1) (n : Int)) 13 5 = _
    rw [u_f_ne (by decide), u_f_ne (by decide), zan, zpt_ne (by decide), zv_ne (by decide), zv_ne (by decide)]
    exact hR.1
  · rw [zan, zpt_ne (by decide), zv_ne (by decide), zv_ne (by decide)] at hr2
    obtain ⟨g2, b1, b2⟩ := hR.2 r2 hr2
    refine ⟨g2, b1, ?_⟩
    by_cases e : r2 = r
    · subst e
      have eg : g2 = g := by
        have : some (g2 + 1) = some (g + 1) := b1.symm.trans hb
        have := Option.some.inj this
        omega
      subst eg
      refine ⟨a1, a2, a3, a4, a5, a6, a7, a8, a9, a10, a11, ?_, ?_, ?_, ?_, ?_, ?_, ?_, fun j hj => ?_, fun j hj => ?_⟩
      · show zf (zsf (zsf w 69 (g2 + 1) 2) 68 (g2 + 1) (n : Int)) 64 (g2 + 1) = _
        rw [u_f_ne (by decide), u_f_ne (by decide), zan, zpt_ne (by decide), zv_ne (by decide), zv_ne (by decide)]
        exact a12
      · show zf (zsf (zsf w 69 (g2 + 1) 2) 68 (g2 + 1) (n : Int)) 65 (g2 + 1) = _
        rw [u_f_ne (by decide), u_f_ne (by decide)]
        exact a13
      · show zf (zsf (zsf w 69 (g2 + 1) 2) 68 (g2 + 1) (n : Int)) 68 (g2 + 1) = _
        rw [u_f_eq, zan, zpt_ne (by decide), zv_eq]
      · show zf (zsf (zsf w 69 (g2 + 1) 2) 68 (g2 + 1) (n : Int)) 69 (g2 + 1) = _
        rw [u_f_ne (by decide), u_f_eq, zan, zpt_ne (by decide), zv_ne (by decide), zv_eq]
      · show zf (zsf (zsf w 69 (g2 + 1) 2) 68 (g2 + 1) (n : Int)) 70 (g2 + 1) = _
        rw [u_f_ne (by decide), u_f_ne (by decide), zan, zpt_ne (by decide), zv_ne (by decide), zv_ne (by decide)]
        exact a16
      · show zf (zsf (zsf w 69 (g2 + 1) 2) 68 (g2 + 1) (n : Int)) 71 (g2 + 1) = _
        rw [u_f_ne (by decide), u_f_ne (by decide), zan, zpt_ne (by decide), zv_ne (by decide), zv_ne (by decide)]
        exact a17
      · rw [zan, zpt_ne (by decide), zv_ne (by decide), zv_ne (by decide)]
        exact a18
      · rw [zan, zpt_ne (by decide), zv_ne (by decide), zv_ne (by decide)] at hj ⊢
        rw [u_a_cp (by omega)]
        exact a19 j hj
      · have hj : (j : Int) < (n : Int) := by
          rw [zan, zpt_ne (by decide), zv_eq] at hj
          exact hj
        rw [u_a_cpi ⟨by omega, by omega⟩, zan, zpt_i (by omega) (by omega), Nat.sub_zero, Nat.zero_add, show 32 * (r2 : Int) + (j : Int) - 32 * (r2 : Int) = (j : Int) by omega]
        exact hc j (by omega)
    · obtain ⟨c1, c2, c3, c4, c5, c6, c7, c8, c9, c10, c11, c12, c13, c14, c15, c16, c17, c18, c19, c20⟩ := b2
      have n1 : g2 + 1 ≠ g + 1 := fun q => by rw [q] at c8; omega
      have n2 : g2 ≠ g + 2 := fun q => by rw [q] at c7; omega
      have n3 : g2 + 2 ≠ g + 2 := fun q => by rw [q] at c9; omega
      have hf : ∀ f, zf (zcp (zsf (zsf w 69 (g + 1) 2) 68 (g + 1) (n : Int)) (hh + 1) 0 (g + 2) 0 n) f (g2 + 1) = zf w f (g2 + 1) := fun f => by
        show zf (zsf (zsf w 69 (g + 1) 2) 68 (g + 1) (n : Int)) f (g2 + 1) = _
        rw [u_f_nh n1, u_f_nh n1]
      have hz : ∀ a, zan s (r : Int) (n : Int) a (r2 : Int) = s a (r2 : Int) ∨ a = 238 := fun a => by
        by_cases e1 : a = 238
        · exact Or.inr e1
        · refine Or.inl ?_
          rw [zan, zpt_ne e1, zv_nj (by omega), zv_nj (by omega)]
      have hz1 : ∀ a, a ≠ 238 → zan s (r : Int) (n : Int) a (r2 : Int) = s a (r2 : Int) := fun a ha => (hz a).resolve_right ha
      refine ⟨c1, c2, c3, c4, c5, c6, c7, c8, c9, c10, c11, by rw [hf, hz1 231 (by decide)]; exact c12, by rw [hf]; exact c13, by rw [hf, hz1 237 (by decide)]; exact c14, by rw [hf, hz1 234 (by decide)]; exact c15, by rw [hf, hz1 235 (by decide)]; exact c16, by rw [hf, hz1 236 (by decide)]; exact c17, by rw [hz1 232 (by decide)]; exact c18, fun j hj => ?_, fun j hj => ?_⟩
      · rw [hz1 232 (by decide)] at hj
        rw [u_a_cp n2, zan, zpt_ne (by decide), zv_ne (by decide), zv_ne (by decide)]
        exact c19 j hj
      · rw [hz1 237 (by decide)] at hj
        have hb37 := (hi.2 (r2 : Int) (by omega) hr2).2.2.2.2.2.2.1
        rw [u_a_cp n3, zan, zpt_o (by omega), zv_ne (by decide), zv_ne (by decide)]
        exact c20 j hj
theorem P_settle {L : Nat} {xs : Nat → Int} {B : Int} {e : Nat} {own : Nat → Nat} {s : zSt} {w : zW} (hb : zBase L xs w) (h : zJ0 B e own s w) {hh kd n : Nat} {f : Int} (k9 : zk w hh = 9) (p61 : zp w 61 hh = some (hh + 1)) (kb : zk w (hh + 1) = 12) (lb : zl w (hh + 1) = 32) (f58 : zf w 58 hh = f) (f59 : zf w 59 hh = (kd : Int)) (hk8 : kd < 8) (f60 : zf w 60 hh = (n : Int)) (hn32 : n ≤ 32) (hown : own (hh + 1) < 448) (h239 : 239 < hh) (rf : 0 ≤ f ∧ f ≤ 63) (hs : s 111 0 = (n : Int)) (hcn : ∀ j : Nat, j < n → za w (hh + 1) j = s 229 (j : Int)) :
    ∃ v t, (∀ Q, zR 110 0 [some (.inr (some 5)), some (.inr (some hh)), none] [] w Q = Q none v) ∧ (∀ c Q, zKR c → zR 43 0 [some (.inr (some 194)), some (.inl f), some (.inl (kd : Int)), none, none] [] (zmk c s) Q = Q none (zmk c t)) ∧ zJ0 B e own t v ∧ yFm own w v ∧ yFt s t := by
  have hR := h.2.2.2.2.2.1.1
  have hi := h.2.2.2.2.2.1.2
  obtain ⟨N, hN⟩ : ∃ N : Nat, s 113 0 = (N : Int) := ⟨(s 113 0).toNat, by have := hi.1; omega⟩
  have hN40 : N ≤ 40 := by have := hi.1; omega
  have f13 : zf w 13 5 = (N : Int) := hR.1.trans hN
  have key : ∀ m r : Nat, m + r = N → ∃ v t, (∀ Q, zR 110 2 [some (.inr (some 5)), some (.inr (some hh)), some (.inl (r : Int))] [] w Q = Q none v) ∧ (∀ c Q l4, zKR c → zR 43 2 [some (.inr (some 194)), some (.inl f), some (.inl (kd : Int)), some (.inl (r : Int)), l4] [] (zmk c s) Q = Q none (zmk c t)) ∧ zJ0 B e own t v ∧ yFm own w v ∧ yFt s t := by
    intro m
    induction m with
    | zero =>
      intro r hr
      have hr : r = N := by omega
      subst hr
      exact ⟨w, s, fun Q => m_110_end (zk_at_5 hb) f13 hN40, fun c Q l4 hc => m_43_end hc hN hN40, h, ⟨zSF.rf, fun _ _ _ _ => rfl, fun _ _ _ _ => rfl⟩, fun _ _ _ _ => rfl⟩
    | succ m ih =>
      intro r hr
      obtain ⟨g, b1, b2⟩ := hR.2 r (by omega)
      have hq := b2
      obtain ⟨a1, a2, a3, a4, a5, a6, a7, a8, a9, a10, a11, a12, a13, a14, a15, a16, a17, a18, a19, a20⟩ := b2
      obtain ⟨i1, i2, i3, i4, i5, i6, i7, i8⟩ := hi.2 (r : Int) (by omega) (by omega)
      by_cases hm : s 234 (r : Int) = 1 ∧ s 231 (r : Int) = f ∧ ((r % 8 : Nat) : Int) = (kd : Int)
      · have J : zJ0 B e own (zan s (r : Int) (n : Int)) (zcp (zsf (zsf w 69 (g + 1) 2) 68 (g + 1) (n : Int)) (hh + 1) 0 (g + 2) 0 n) := by
          refine zJ_R h ⟨rfl, fun f2 hf2 k => ?_, rfl, fun k hk j => u_a_cp (fun q => hk (by rw [q]; exact ag_R (by omega) (by omega))), rfl, fun a ha x => ?_⟩ ⟨gR_settle hR hi hn32 (by omega) b1 hq hown h239 hcn, ?_⟩ ?_
          · show zf (zsf (zsf w 69 (g + 1) 2) 68 (g + 1) (n : Int)) f2 k = _
            rw [u_f_ne (fun q => hf2 (by rw [q]; rfl)), u_f_ne (fun q => hf2 (by rw [q]; rfl))]
          · rw [zan, zpt_ne (fun q => ha (by rw [q]; rfl)), zv_ne (fun q => ha (by rw [q]; rfl)), zv_ne (fun q => ha (by rw [q]; rfl))]
          · have hz : ∀ a, a ≠ 238 → a ≠ 234 → a ≠ 237 → ∀ x, zan s (r : Int) (n : Int) a x = s a x := fun a q1 q2 q3 x => by rw [zan, zpt_ne q1, zv_ne q3, zv_ne q2]
            refine ⟨by rw [hz 113 (by decide) (by decide) (by decide)]; exact ⟨hi.1.1, hi.1.2.1, fun x x1 x2 => by rw [zan, zpt_ne (by decide), zv_nj (by omega), zv_ne (by decide)]; exact hi.1.2.2 x x1 x2⟩, fun x x1 x2 => ?_⟩
            rw [hz 113 (by decide) (by decide) (by decide)] at x2
            obtain ⟨j1, j2, j3, j4, j5, j6, j7, j8⟩ := hi.2 x x1 x2
            rw [hz 231 (by decide) (by decide) (by decide), hz 232 (by decide) (by decide) (by decide), hz 235 (by decide) (by decide) (by decide), hz 236 (by decide) (by decide) (by decide)]
            have e234 : zan s (r : Int) (n : Int) 234 x = if x = (r : Int) then 2 else s 234 x := by
              rw [zan, zpt_ne (by decide), zv_ne (by decide)]
              by_cases q : x = (r : Int)
              · rw [if_pos q, q, zv_eq]
              · rw [if_neg q, zv_nj q]
            have e237 : zan s (r : Int) (n : Int) 237 x = if x = (r : Int) then (n : Int) else s 237 x := by
              rw [zan, zpt_ne (by decide)]
              by_cases q : x = (r : Int)
              · rw [if_pos q, q, zv_eq]
              · rw [if_neg q, zv_nj q, zv_ne (by decide)]
            rw [e234, e237]
            refine ⟨j1, j2, ?_, j4, ?_, j6, ?_, fun j jj1 jj2 => ?_⟩
            · split <;> omega
            · split
              · intro q
                omega
              · exact j5
            · split <;> omega
            · rw [hz 233 (by decide) (by decide) (by decide)]
              exact j8 j jj1 jj2
          · have hh0 := h.2.2.2.2.2.2.2.2.2.2.2
            unfold gH at hh0 ⊢
            rw [show zan s (r : Int) (n : Int) 113 0 = s 113 0 by rw [zan, zpt_ne (by decide), zv_ne (by decide), zv_ne (by decide)], zcnt_df (w := w) (v := zcp (zsf (zsf w 69 (g + 1) 2) 68 (g + 1) (n : Int)) (hh + 1) 0 (g + 2) 0 n) (fun _ _ => rfl)]
            exact hh0
        refine ⟨_, _, fun Q => m_110_hit (zk_at_5 hb) (zcq_12_5 h.1) (zk_at_29 hb) (zl_at_29 hb) f13 hN40 (by omega) b1 a2 (fun Q => m_136y a2 k9 f59 (by omega) a15 a12 a13 f58 i3 (by omega) (by omega) rf ⟨hm.1, hm.2.1, by omega⟩) (fun Q => m_137 a2 k9 p61 kb lb a6 a3 a4 f60 hn32), fun c Q l4 hc => m_43_hit hc hN hN40 (by omega) (by omega) (by omega) (by omega) (by omega) hs (by omega) hm, J, ⟨⟨rfl, rfl, rfl⟩, fun f2 k h5 _ => ?_, fun k h5 _ j => u_a_cp (fun q => h5 (by rw [q]; exact ag_R (by omega) (by omega)))⟩, fun a h5 _ x => ?_⟩
        · show zf (zsf (zsf w 69 (g + 1) 2) 68 (g + 1) (n : Int)) f2 k = _
          rw [u_f_ne (fun q => h5 (by rw [q]; rfl)), u_f_ne (fun q => h5 (by rw [q]; rfl))]
        · rw [zan, zpt_ne (fun q => h5 (by rw [q]; rfl)), zv_ne (fun q => h5 (by rw [q]; rfl)), zv_ne (fun q => h5 (by rw [q]; rfl))]
      · obtain ⟨v, t, c1, c2, c3, c4, c5⟩ := ih (r + 1) (by omega)
        refine ⟨v, t, fun Q => ?_, fun c Q l4 hc => ?_, c3, c4, c5⟩
        · rw [m_110_skip (zk_at_5 hb) (zcq_12_5 h.1) (zk_at_29 hb) (zl_at_29 hb) f13 hN40 (by omega) b1 a2 (fun Q => m_136n a2 k9 f59 (by omega) a15 a12 a13 f58 i3 (by omega) (by omega) rf (fun q => hm ⟨q.1, q.2.1, by omega⟩))]
          exact c1 Q
        · rw [m_43_skip hc hN hN40 (by omega) (by omega) (by omega) (by omega) (by omega) hm]
          exact c2 c Q l4 hc
  obtain ⟨v, t, c1, c2, c3, c4, c5⟩ := key N 0 (by omega)
  refine ⟨v, t, fun Q => ?_, fun c Q hc => ?_, c3, c4, c5⟩
  · rw [zr_110_0, zr_110_1]
    exact c1 Q
  · rw [zr_43_0, zr_43_1]
    exact c2 c Q none hc
theorem P_log {L : Nat} {xs : Nat → Int} {B : Int} {e : Nat} {own : Nat → Nat} {s : zSt} {w : zW} (hb : zBase L xs w) (h : zJ0 B e own s w) {hh : Nat} {f : Int} (k9 : zk w hh = 9) (p61 : zp w 61 hh = some (hh + 1)) (kb : zk w (hh + 1) = 12) (lb : zl w (hh + 1) = 32) (f58 : zf w 58 hh = f) (h239 : 239 < hh) (hcn : ∀ j : Nat, j < 4 → za w (hh + 1) j = s 229 (j : Int)) (rb : ∀ j : Int, 0 ≤ j → j < 4 → 0 ≤ s 229 j ∧ s 229 j ≤ 255) :
    ∃ v t, (∀ Q, zR 108 0 [some (.inr (some 5)), some (.inr (some hh))] [] w Q = Q none v) ∧ (∀ c Q, zKR c → zR 42 0 [some (.inr (some 194)), some (.inl f), none] [] (zmk c s) Q = Q none (zmk c t)) ∧ zJ0 B e own t v ∧ yFm own w v ∧ yFt s t := by
  obtain ⟨n, x, g1, g2, g3, g4, g5, g6⟩ := h.2.2.2.2.2.2.2.2.2.2.1
  have b2 := rb 2 (by omega) (by omega)
  have b3 := rb 3 (by omega) (by omega)
  have ev := z_tw b2 b3
  have hcl : ∀ Q, zR 108 0 [some (.inr (some 5)), some (.inr (some hh))] [] w Q = Q none _ := fun Q => m_108 (zk_at_5 hb) (zcq_7_5 h.1) (zcq_8_5 h.1) (zcq_9_5 h.1) (zk_at_26 hb) (zl_at_26 hb) (zk_at_27 hb) (zl_at_27 hb) (zk_at_28 hb) (zl_at_28 hb) k9 p61 kb lb h239 g4 g2 g3 g1 f58 (hcn 1 (by omega)) (hcn 2 (by omega)) (hcn 3 (by omega))
  have hv : ∃ v, (∀ Q, zR 108 0 [some (.inr (some 5)), some (.inr (some hh))] [] w Q = Q none v) ∧ zSF w v ∧ (∀ f2 k, f2 ≠ 10 → f2 ≠ 11 → zf v f2 k = zf w f2 k) ∧ zf v 10 5 = ((min (n + 1) 16 : Nat) : Int) ∧ zf v 11 5 = (((x + 1) % 16 : Nat) : Int) ∧ (∀ k, k ≠ 26 → k ≠ 27 → k ≠ 28 → ∀ j, za v k j = za w k j) ∧ (za v 26 x = f ∧ za v 27 x = s 229 1 ∧ za v 28 x = ztw (s 229 2) (s 229 3)) ∧ (∀ j, j ≠ x → za v 26 j = za w 26 j ∧ za v 27 j = za w 27 j ∧ za v 28 j = za w 28 j) := by
    refine ⟨_, hcl, ⟨rfl, rfl, rfl⟩, fun f2 k q1 q2 => ?_, ?_, ?_, fun k q1 q2 q3 j => ?_, ⟨?_, ?_, ?_⟩, fun j hj => ⟨?_, ?_, ?_⟩⟩
    · rw [u_f_ne q1, u_f_ne q2, u_f_sa, u_f_sa, u_f_sa]
    · rw [u_f_eq]
    · rw [u_f_ne (by decide), u_f_eq]
    · rw [u_a_sf, u_a_sf, u_a_ne q3, u_a_ne q2, u_a_ne q1]
    · rw [u_a_sf, u_a_sf, u_a_ne (by decide), u_a_ne (by decide), u_a_eq]
    · rw [u_a_sf, u_a_sf, u_a_ne (by decide), u_a_eq]
      rfl
    · rw [u_a_sf, u_a_sf, u_a_eq]
      exact ev
    · rw [u_a_sf, u_a_sf, u_a_ne (by decide), u_a_ne (by decide), u_a_nj hj]
    · rw [u_a_sf, u_a_sf, u_a_ne (by decide), u_a_nj hj, u_a_ne (by decide)]
    · rw [u_a_sf, u_a_sf, u_a_nj hj, u_a_ne (by decide), u_a_ne (by decide)]
  obtain ⟨v, v1, v2, v3, v4, v5, v6, v7, v8⟩ := hv
  have ht : ∃ t : zSt, (∀ c Q, zKR c → zR 42 0 [some (.inr (some 194)), some (.inl f), none] [] (zmk c s) Q = Q none (zmk c t)) ∧ (∀ a, a ≠ 239 → a ≠ 122 → ∀ y, t a y = s a y) ∧ t 122 0 = ((min (n + 1) 16 : Nat) : Int) ∧ (t 239 (3 * ((min (n + 1) 16 : Nat) : Int) - 3) = f ∧ t 239 (3 * ((min (n + 1) 16 : Nat) : Int) - 2) = s 229 1 ∧ t 239 (3 * ((min (n + 1) 16 : Nat) : Int) - 1) = ztw (s 229 2) (s 229 3)) ∧ ∀ k : Nat, 1 ≤ k → k < min (n + 1) 16 → ∀ i : Int, 0 ≤ i → i ≤ 2 → t 239 (3 * (((min (n + 1) 16 : Nat) : Int) - 1 - (k : Int)) + i) = s 239 (3 * ((n : Int) - 1 - ((k - 1 : Nat) : Int)) + i) := by
    by_cases c16 : n = 16
    · refine ⟨_, fun c Q hc => m_42f hc (by rw [g5, c16]; rfl) rfl rfl rfl b2 b3, fun a q1 q2 y => ?_, ?_, ⟨?_, ?_, ?_⟩, fun k k1 k2 i i1 i2 => ?_⟩
      · rw [zlg, zv_ne q2, zv_ne q1, zv_ne q1, zv_ne q1, zv_ne q2, zpt_ne q1]
      · rw [zlg, zv_eq]
        omega
      · rw [show 3 * ((min (n + 1) 16 : Nat) : Int) - 3 = 3 * 15 by omega, zlg, zv_ne (by decide), zv_nj (by decide), zv_nj (by decide), zv_eq]
      · rw [show 3 * ((min (n + 1) 16 : Nat) : Int) - 2 = 3 * 15 + 1 by omega, zlg, zv_ne (by decide), zv_nj (by decide), zv_eq]
      · rw [show 3 * ((min (n + 1) 16 : Nat) : Int) - 1 = 3 * 15 + 2 by omega, zlg, zv_ne (by decide), zv_eq]
      · rw [zlg, zv_ne (by decide), zv_nj (by omega), zv_nj (by omega), zv_nj (by omega), zv_ne (by decide), zpt_i (by omega) (by omega)]
        congr 1
        omega
    · refine ⟨_, fun c Q hc => m_42 hc g5 (by omega) rfl rfl rfl b2 b3, fun a q1 q2 y => ?_, ?_, ⟨?_, ?_, ?_⟩, fun k k1 k2 i i1 i2 => ?_⟩
      · rw [zlg, zv_ne q2, zv_ne q1, zv_ne q1, zv_ne q1]
      · rw [zlg, zv_eq]
        omega
      · rw [show 3 * ((min (n + 1) 16 : Nat) : Int) - 3 = 3 * (n : Int) by omega, zlg, zv_ne (by decide), zv_nj (by omega), zv_nj (by omega), zv_eq]
      · rw [show 3 * ((min (n + 1) 16 : Nat) : Int) - 2 = 3 * (n : Int) + 1 by omega, zlg, zv_ne (by decide), zv_nj (by omega), zv_eq]
      · rw [show 3 * ((min (n + 1) 16 : Nat) : Int) - 1 = 3 * (n : Int) + 2 by omega, zlg, zv_ne (by decide), zv_eq]
      · rw [zlg, zv_ne (by decide), zv_nj (by omega), zv_nj (by omega), zv_nj (by omega)]
        congr 1
        omega
  obtain ⟨t, t1, t2, t3, t4, t5⟩ := ht
  have hD : zDf 10 own w v s t := ⟨v2.1, fun f2 hf2 k => v3 f2 k (fun q => hf2 (by rw [q]; rfl)) (fun q => hf2 (by rw [q]; rfl)), v2.2.1, fun k hk j => v6 k (fun q => hk (by rw [q]; rfl)) (fun q => hk (by rw [q]; rfl)) (fun q => hk (by rw [q]; rfl)) j, v2.2.2, fun a ha y => t2 a (fun q => ha (by rw [q]; rfl)) (fun q => ha (by rw [q]; rfl)) y⟩
  refine ⟨v, t, v1, t1, zJ_L h hD ⟨min (n + 1) 16, (x + 1) % 16, by omega, by omega, v4, v5, t3, fun k hk => ?_⟩, ⟨v2, fun f2 k _ h10 => v3 f2 k (fun q => h10 (by rw [q]; rfl)) (fun q => h10 (by rw [q]; rfl)), fun k _ h10 j => v6 k (fun q => h10 (by rw [q]; rfl)) (fun q => h10 (by rw [q]; rfl)) (fun q => h10 (by rw [q]; rfl)) j⟩, fun a _ h10 y => t2 a (fun q => h10 (by rw [q]; rfl)) (fun q => h10 (by rw [q]; rfl)) y⟩
  by_cases k0 : k = 0
  · subst k0
    rw [show ((x + 1) % 16 + 31 - 0) % 16 = x by omega]
    refine ⟨v7.1.trans ?_, v7.2.1.trans ?_, v7.2.2.trans ?_⟩
    · rw [← t4.1]
      congr 1
      omega
    · rw [← t4.2.1]
      congr 1
      omega
    · rw [← t4.2.2]
      congr 1
      omega
  · have hp := g6 (k - 1) (by omega)
    have ep : ((x + 1) % 16 + 31 - k) % 16 = (x + 31 - (k - 1)) % 16 := by omega
    have en : (x + 31 - (k - 1)) % 16 ≠ x := by omega
    have hv8 := v8 _ en
    rw [ep, hv8.1, hv8.2.1, hv8.2.2]
    have q0 := t5 k (by omega) hk 0 (by omega) (by omega)
    have q1 := t5 k (by omega) hk 1 (by omega) (by omega)
    have q2 := t5 k (by omega) hk 2 (by omega) (by omega)
    rw [Int.add_zero, Int.add_zero] at q0
    exact ⟨hp.1.trans q0.symm, hp.2.1.trans q1.symm, hp.2.2.trans q2.symm⟩
theorem P_mgr {L : Nat} {xs : Nat → Int} {B : Int} {e : Nat} {own : Nat → Nat} {s : zSt} {w : zW} (hb : zBase L xs w) (h : zJ0 B e own s w) {hh kd n : Nat} {f : Int} (k9 : zk w hh = 9) (p61 : zp w 61 hh = some (hh + 1)) (kb : zk w (hh + 1) = 12) (lb : zl w (hh + 1) = 32) (f58 : zf w 58 hh = f) (f59 : zf w 59 hh = (kd : Int)) (hk15 : kd < 16) (f60 : zf w 60 hh = (n : Int)) (hn1 : 1 ≤ n) (hn32 : n ≤ 32) (hown : own (hh + 1) < 448) (h239 : 239 < hh) (rf : 0 ≤ f ∧ f ≤ 63) (hs : s 111 0 = (n : Int)) (hcn : ∀ j : Nat, j < n → za w (hh + 1) j = s 229 (j : Int)) (rb : ∀ j : Int, 0 ≤ j → j < n → 0 ≤ s 229 j ∧ s 229 j ≤ 255) :
    ∃ v t, (∀ Q, zR 107 0 [some (.inr (some 5)), some (.inr (some hh))] [] w Q = Q none v) ∧ (∀ c Q, zKR c → zR 41 0 [some (.inr (some 194)), some (.inl 0), some (.inl f), some (.inl (kd : Int)), none] [] (zmk c s) Q = Q none (zmk c t)) ∧ zJ0 B e own t v ∧ yFm own w v ∧ yFt s t := by
  by_cases h8 : kd < 8
  · obtain ⟨v, t, c1, c2, c3, c4, c5⟩ := P_settle hb h k9 p61 kb lb f58 f59 h8 f60 hn32 hown h239 rf hs hcn
    exact ⟨v, t, fun Q => m_107_ans (zk_at_5 hb) k9 f59 hk15 h8 c1, fun c Q hc => m_41_ans hc (by omega) (by omega) (fun Q => c2 c Q hc), c3, c4, c5⟩
  · have h8 : 8 ≤ kd := by omega
    have x0e : za w (hh + 1) 0 = s 229 0 := hcn 0 (by omega)
    have rx := rb 0 (by omega) (by omega)
    by_cases c : n = 4 ∧ s 229 0 = 64
    · obtain ⟨n4, x64⟩ := c
      subst n4
      obtain ⟨v, t, c1, c2, c3, c4, c5⟩ := P_log hb h k9 p61 kb lb f58 h239 hcn rb
      exact ⟨v, t, fun Q => m_107_log (zk_at_5 hb) k9 f59 hk15 h8 p61 kb lb f60 (x0e.trans x64) c1, fun c Q hc => m_41_note hc (by omega) (by omega) hs x64 (fun Q => c2 c Q hc), c3, c4, c5⟩
    · exact ⟨w, s, fun Q => m_107_no (zk_at_5 hb) k9 f59 hk15 h8 p61 kb lb f60 x0e (by omega) rx (fun q => c ⟨by omega, q.2⟩), fun c2 Q hc => m_41_noten hc (by omega) (by omega) hs rfl (by omega) rx (fun q => c ⟨by omega, q.2⟩), h, ⟨zSF.rf, fun _ _ _ _ => rfl, fun _ _ _ _ => rfl⟩, fun _ _ _ _ => rfl⟩
