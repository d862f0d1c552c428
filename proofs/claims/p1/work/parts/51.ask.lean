-- the manager opens a request, in general; ask on a fresh world; the law for scripts of at most four ints
set_option maxHeartbeats 1000000 in
theorem m_104 {w : zW} {Q : Option zV → zW → Prop} {a : Int} {n r hd b : Nat} (k5 : zk w 5 = 1) (f13 : zf w 13 5 = (r : Int)) (hr : r < 40) (p6 : zp w 6 5 = some 25) (p12 : zp w 12 5 = some 29) (p14 : zp w 14 5 = some 7) (hp : zPO w 7) (k25 : zk w 25 = 12) (l25 : zl w 25 = 32) (k29 : zk w 29 = 20) (l29 : zl w 29 = 40) (h239 : 239 ≤ zn w) (ha : zf w 25 7 = (hd : Int)) (hb : zf w 23 7 = (b : Int)) (h1 : hd < 8) (h2 : b ≤ 8) (hn : n ≤ 32)
    (hq : ∀ v, zCO w v 25 n → Q (some (.inl (r : Int))) (if b + (n + 7) / 8 ≤ 8 then zsnd (zOpen v r a) 7 hd b a (8 + ((r % 8 : Nat) : Int)) (zn v) n ((n + 7) / 8) ((n + 7) / 8) else zOpen v r a)) :
    zR 104 0 [some (.inr (some 5)), some (.inl a), some (.inl (n : Int)), none, none] [] w Q := by
  have hNC : zNC = 12 := rfl
  have er : zN (r : Int) = r := zN_of (by omega) (by omega)
  have tr : (zN (r : Int)).toNat = r := by rw [er, Int.toNat_natCast]
  rw [zr_104_0, zr_104_1 k5, f13, zr_104_4, zr_104_6, er, show zN 40 = 40 by decide, if_pos (by omega), zr_104_11, zr_104_12 k5, f13, zr_104_15, zr_104_16, zr_104_17 k5, p6, zr_104_20, zr_104_21 (by exact Nat.le_of_ble_eq_true rfl)]
  refine m_156 k25 (by omega) (by rw [l25]; exact hn) (by rw [l25]; omega) (fun v hv => ?_)
  have hvn := hv.n
  have vk : ∀ h, h ≤ 239 → zk v h = zk w h := fun h hh => (hv.k h).trans (u_k_nw (by omega))
  have vl : ∀ h, h ≤ 239 → zl v h = zl w h := fun h hh => (hv.l h).trans (u_l_nw (by omega))
  have vp : ∀ f h, h ≤ 239 → zp v f h = zp w f h := fun f h hh => (hv.p f h).trans (u_p_nw (by omega))
  have vb : ∀ h j, h ≤ 239 → zb v h j = zb w h j := fun h j hh => (hv.b h j).trans (u_b_nw (by omega))
  have vf : ∀ f h, h ≤ 239 → zf v f h = zf w f h := fun f h hh => (hv.f f h).trans (u_f_nw (by omega))
  have vkn : zk v (zn v) = zNC := by rw [hv.k, hvn]; exact u_k_nwn
  have vln : zl v (zn v) = n := by rw [hv.l, hvn]; exact u_l_nwn
  have qv := hq v hv
  show zR 104 24 [some (.inr (some 5)), some (.inl a), some (.inl (n : Int)), some (.inl (r : Int)), none] [.inr (some (zn w + 1))] v Q
  rw [← hvn]
  generalize hN : zn v = N at *
  have k5v : zk v 5 = 1 := by rw [vk 5 (by omega)]; exact k5
  have k5u : zk (znew (znew v 10 8) zNC 32) 5 = 1 := by rw [u_k_nw (by show 5 ≠ zn v + 1 + 1; omega), u_k_nw (by omega)]; exact k5v
  have k29u : zk (znew (znew v 10 8) zNC 32) 29 = 20 := by rw [u_k_nw (by show 29 ≠ zn v + 1 + 1; omega), u_k_nw (by omega), vk 29 (by omega)]; exact k29
  have l29u : zl (znew (znew v 10 8) zNC 32) 29 = 40 := by rw [u_l_nw (by show 29 ≠ zn v + 1 + 1; omega), u_l_nw (by omega), vl 29 (by omega)]; exact l29
  have kn1 : zk (znew v 10 8) (N + 1) = 10 := by rw [← hN]; exact u_k_nwn
  have k10u : zk (znew (znew v 10 8) zNC 32) (N + 1) = 10 := by rw [u_k_nw (by show N + 1 ≠ zn v + 1 + 1; omega)]; exact kn1
  have has : zAS (zk (znew (znew v 10 8) zNC 32) 29) (zk (znew (znew v 10 8) zNC 32) (N + 1)) = true := by rw [k29u, k10u]; decide
  have f13u : zf (zRq (znew v 10 8) (N + 1) a ((r % 8 : Nat) : Int) (some N)) 13 5 = (r : Int) := by
    show zf (zsf (zsf (zsf (zsf (zsf (znew (znew v 10 8) zNC 32) 69 (N + 1) 1) 70 (N + 1) 30) 71 (N + 1) 1) 64 (N + 1) a) 65 (N + 1) ((r % 8 : Nat) : Int)) 13 5 = (r : Int)
    rw [u_f_ne (by decide), u_f_ne (by decide), u_f_ne (by decide), u_f_ne (by decide), u_f_ne (by decide), u_f_nw (by show 5 ≠ zn v + 1 + 1; omega), u_f_nw (by omega), vf 13 5 (by omega)]
    exact f13
  rw [zr_104_24, zr_104_26, zr_104_27 k5v, vp 12 5 (by omega), p12, zr_104_30, zr_104_31, hN, zr_104_34, zr_104_35, zr_104_36, zr_104_37, zr_104_39 (by decide), z_rem8 r (by omega), zr_104_40, zr_104_42 (by exact Nat.le_of_ble_eq_true rfl) (by rw [kn1]; decide), m_134 kn1 (by show N + 1 ≠ zn v + 1 + 1; omega), Option.toList_none, List.nil_append,
    zr_104_45s ⟨by show zNC + 2 < zk (znew (znew v 10 8) zNC 32) 29; rw [k29u]; decide, by show zk (znew (znew v 10 8) zNC 32) 29 < 1000; rw [k29u]; decide, by omega, by show zN (r : Int) < zl (znew (znew v 10 8) zNC 32) 29; rw [l29u, er]; omega, by exact has⟩, tr, zr_104_46, zr_104_47, zr_104_48 (by exact k5u), u_f_sb, f13u, zr_104_51, zr_104_52, zr_104_53 (by exact k5u)]
  have hO : zsf (zsb (zRq (znew v 10 8) (N + 1) a ((r % 8 : Nat) : Int) (some N)) 29 r (some (N + 1))) 13 5 ((r : Int) + 1) = zOpen v r a := by rw [← hN]; rfl
  rw [hO]
  have ok : ∀ h, h ≤ 239 → zk (zOpen v r a) h = zk w h := fun h hh => (zOpen_k (by omega)).trans (vk h hh)
  have ol : ∀ h, h ≤ 239 → zl (zOpen v r a) h = zl w h := fun h hh => (zOpen_l (by omega)).trans (vl h hh)
  have op : ∀ f h, h ≤ 239 → zp (zOpen v r a) f h = zp w f h := fun f h hh => (zOpen_p (by omega)).trans (vp f h hh)
  have ob : ∀ h j, h ≤ 239 → h ≠ 29 → zb (zOpen v r a) h j = zb w h j := fun h j hh h29 => (zOpen_b (by omega) h29).trans (vb h j hh)
  have of : ∀ f h, h ≤ 239 → f ≠ 13 → zf (zOpen v r a) f h = zf w f h := fun f h hh h13 => (zOpen_f (by omega) h13).trans (vf f h hh)
  have ob29 : zb (zOpen v r a) 29 r = some (N + 1) := by rw [← hN]; exact u_b_eq
  have ofr := zOpen_fr (v := v) (r := r) (a := a)
  rw [hN] at ofr
  have okn : zk (zOpen v r a) N = zNC := (zOpen_k (by omega)).trans vkn
  have oln : zl (zOpen v r a) N = n := (zOpen_l (by omega)).trans vln
  have hpo : zPO (zOpen v r a) 7 := by
    refine ⟨by rw [ok 7 (by omega)]; exact hp.1, by rw [op 24 7 (by omega)]; exact hp.2.1, ⟨by rw [ok _ (by omega)]; exact hp.2.2.1.1, by rw [ok _ (by omega)]; exact hp.2.2.1.2⟩, by rw [ol _ (by omega)]; exact hp.2.2.2.1, fun k hk => ?_⟩
    have hh := hp.2.2.2.2 k hk
    exact ⟨by rw [ob _ _ (by omega) (by omega)]; exact hh.1, by rw [ok _ (by omega)]; exact hh.2.1, by rw [op _ _ (by omega)]; exact hh.2.2.1, by rw [ok _ (by omega)]; exact hh.2.2.2.1, by rw [ol _ (by omega)]; exact hh.2.2.2.2⟩
  rw [zr_104_56, zr_104_57, zr_104_58 ((ok 5 (by omega)).trans k5), op 12 5 (by omega), p12, zr_104_61, zr_104_62 ⟨by rw [ok 29 (by omega), k29]; decide, by rw [ok 29 (by omega), k29]; decide, by omega, by rw [ol 29 (by omega), l29, er]; omega⟩, tr, ob29, zr_104_63 (by exact Nat.le_of_ble_eq_true rfl) ((ok 5 (by omega)).trans k5),
    zr_106_0, zr_106_1, zr_106_2 ofr.2.2.2, ofr.1, zr_106_5, zr_106_7, zr_106_8 ofr.2.2.2, ofr.2.1, zr_106_11, zr_106_12, zr_106_13 ofr.2.2.2, ofr.2.2.1, zr_106_16, zr_106_17 ofr.2.2.2, ofr.2.2.1, zr_106_20 ⟨by rw [okn]; exact Nat.le_refl _, by rw [okn]; decide⟩, oln, zr_106_21 (by exact Nat.le_of_ble_eq_true rfl) ((ok 5 (by omega)).trans k5),
    m_114 (Or.inl ((ok 5 (by omega)).trans k5)) ((op 14 5 (by omega)).trans p14) hpo ((of 25 7 (by omega) (by decide)).trans ha) ((of 23 7 (by omega) (by decide)).trans hb) h1 h2 okn (by rw [oln]; exact Nat.le_refl _) hn, Option.toList_none, List.nil_append, zr_106_24, Option.toList_none, List.nil_append, zr_104_66, zr_104_67]
  exact qv
theorem m_7r {w : zW} {Q : Option zV → zW → Prop} {a b : Int} {l0 : Option zV} (ra : -2147483648 ≤ a ∧ a < 2147483648) (rb : -2147483648 ≤ b ∧ b < 2147483648) (h : ¬ ((1 ≤ b ∧ b ≤ 32) ∧ 9 ≤ a ∧ a ≤ 63)) : zR 7 0 [l0, some (.inl a), some (.inl b)] [] w Q = Q (some (.inl (-1))) w := by
  have ea : zN a = a := zN_of ra.1 ra.2
  have eb : zN b = b := zN_of rb.1 rb.2
  rw [zr_7_0, zr_7_1, zr_7_2, eb, show zN 1 = 1 by decide]
  by_cases c1 : b < 1
  · rw [if_pos c1, zr_7_11, zr_7_12]
  · rw [if_neg c1, zr_7_5, zr_7_6, zr_7_8, eb, show zN 32 = 32 by decide]
    by_cases c2 : b ≤ 32
    · rw [if_pos c2, zr_7_13, zr_7_14, zr_7_16, ea, show zN 9 = 9 by decide]
      by_cases c3 : a < 9
      · rw [if_pos c3, zr_7_25, zr_7_26]
      · rw [if_neg c3, zr_7_19, zr_7_20, zr_7_22, ea, show zN 64 = 64 by decide, if_neg (by omega), zr_7_25, zr_7_26]
    · rw [if_neg c2, zr_7_11, zr_7_12]
theorem m_34r {w : zW} {Q : Option zV → zW → Prop} {a b : Int} {l0 : Option zV} (ra : -2147483648 ≤ a ∧ a < 2147483648) (rb : -2147483648 ≤ b ∧ b < 2147483648) (h : ¬ ((1 ≤ b ∧ b ≤ 32) ∧ 9 ≤ a ∧ a ≤ 63)) : zR 34 0 [l0, some (.inl a), some (.inl b), none, none] [] w Q = Q (some (.inl (-1))) w := by
  have ea : zN a = a := zN_of ra.1 ra.2
  have eb : zN b = b := zN_of rb.1 rb.2
  rw [zr_34_0, zr_34_1, zr_34_2, zr_34_4 (by exact Nat.le_of_ble_eq_true rfl)]
  by_cases c1 : 1 ≤ b ∧ b ≤ 32
  · rw [m_within1 (by decide) (by decide) (by decide) (by decide) (by rw [eb]; exact c1), Option.toList_some, List.cons_append, List.nil_append, zr_34_7, if_neg (by decide), zr_34_10, zr_34_11, zr_34_13, zr_34_15 (by exact Nat.le_of_ble_eq_true rfl), m_within0 (by decide) (by decide) (by decide) (by decide) (by rw [ea]; omega), Option.toList_some, List.cons_append, List.nil_append, zr_34_18, if_pos (by decide), zr_34_30, zr_34_31]
  · rw [m_within0 (by decide) (by decide) (by decide) (by decide) (by rw [eb]; exact c1), Option.toList_some, List.cons_append, List.nil_append, zr_34_7, if_pos (by decide), zr_34_30, zr_34_31]
theorem zPO_7 {L : Nat} {xs : Nat → Int} {w : zW} (hb : zBase L xs w) (hf : zFresh w) : zPO w 7 := by
  refine ⟨zk_at_7 hb, zfp_24_7 hf, ⟨by rw [zk_at_8 hb]; decide, by rw [zk_at_8 hb]; decide⟩, zl_at_8 hb, fun k hk => ?_⟩
  have hk8 : k = 0 ∨ k = 1 ∨ k = 2 ∨ k = 3 ∨ k = 4 ∨ k = 5 ∨ k = 6 ∨ k = 7 := by omega
  rcases hk8 with rfl | rfl | rfl | rfl | rfl | rfl | rfl | rfl
  · exact ⟨zfb_8_0 hf, zk_at_9 hb, (zRowP_of (hf.2.2.1 _ (List.mem_of_getElem? (i := 8) rfl))).2.2.2.1 (30, some 10) (List.mem_of_getElem? (i := 0) rfl), zk_at_10 hb, zl_at_10 hb⟩
  · exact ⟨zfb_8_1 hf, zk_at_11 hb, (zRowP_of (hf.2.2.1 _ (List.mem_of_getElem? (i := 10) rfl))).2.2.2.1 (30, some 12) (List.mem_of_getElem? (i := 0) rfl), zk_at_12 hb, zl_at_12 hb⟩
  · exact ⟨zfb_8_2 hf, zk_at_13 hb, (zRowP_of (hf.2.2.1 _ (List.mem_of_getElem? (i := 12) rfl))).2.2.2.1 (30, some 14) (List.mem_of_getElem? (i := 0) rfl), zk_at_14 hb, zl_at_14 hb⟩
  · exact ⟨zfb_8_3 hf, zk_at_15 hb, (zRowP_of (hf.2.2.1 _ (List.mem_of_getElem? (i := 14) rfl))).2.2.2.1 (30, some 16) (List.mem_of_getElem? (i := 0) rfl), zk_at_16 hb, zl_at_16 hb⟩
  · exact ⟨zfb_8_4 hf, zk_at_17 hb, (zRowP_of (hf.2.2.1 _ (List.mem_of_getElem? (i := 16) rfl))).2.2.2.1 (30, some 18) (List.mem_of_getElem? (i := 0) rfl), zk_at_18 hb, zl_at_18 hb⟩
  · exact ⟨zfb_8_5 hf, zk_at_19 hb, (zRowP_of (hf.2.2.1 _ (List.mem_of_getElem? (i := 18) rfl))).2.2.2.1 (30, some 20) (List.mem_of_getElem? (i := 0) rfl), zk_at_20 hb, zl_at_20 hb⟩
  · exact ⟨zfb_8_6 hf, zk_at_21 hb, (zRowP_of (hf.2.2.1 _ (List.mem_of_getElem? (i := 20) rfl))).2.2.2.1 (30, some 22) (List.mem_of_getElem? (i := 0) rfl), zk_at_22 hb, zl_at_22 hb⟩
  · exact ⟨zfb_8_7 hf, zk_at_23 hb, (zRowP_of (hf.2.2.1 _ (List.mem_of_getElem? (i := 22) rfl))).2.2.2.1 (30, some 24) (List.mem_of_getElem? (i := 0) rfl), zk_at_24 hb, zl_at_24 hb⟩
theorem f_op_6 {L : Nat} {xs : Nat → Int} {w : zW} (hb : zBase L xs w) (hf : zFresh w) (a b : Int) (ra : -2147483648 ≤ a ∧ a < 2147483648) (rb : -2147483648 ≤ b ∧ b < 2147483648) (Q : Option zV → zW → Prop) (hQ : Q = fun r w1 => ∃ v, r = some (.inl v) ∧ (zBase L xs w1 → zR 34 0 [some (.inr (some 194)), some (.inl a), some (.inl b), none, none] [] w1 (fun r2 w2 => ∃ v2, r2 = some (.inl v2) ∧ zN v = zN v2 ∧ (zBase L xs w2 → zEnd L xs w2)))) : zR 7 0 [some (.inr (some 1)), some (.inl a), some (.inl b)] [] w Q := by
  have hn := hf.1
  have hs := hf.2.1
  by_cases hv : (1 ≤ b ∧ b ≤ 32) ∧ 9 ≤ a ∧ a ≤ 63
  · obtain ⟨n, hn0⟩ : ∃ n : Nat, b = (n : Int) := ⟨b.toNat, by omega⟩
    subst hn0
    have ea : zN a = a := zN_of ra.1 ra.2
    have en : zN (n : Int) = n := zN_of rb.1 rb.2
    rw [zr_7_0, zr_7_1, zr_7_2, en, show zN 1 = 1 by decide, if_neg (by omega), zr_7_5, zr_7_6, zr_7_8, en, show zN 32 = 32 by decide, if_pos (by omega), zr_7_13, zr_7_14, zr_7_16, ea, show zN 9 = 9 by decide, if_neg (by omega), zr_7_19, zr_7_20, zr_7_22, ea, show zN 64 = 64 by decide, if_pos (by omega), zr_7_27, zr_7_28 (zk_at_1 hb), zfp_3_1 hf, zr_7_31, zr_7_32, zr_7_33 (by exact Nat.le_of_ble_eq_true rfl) (zk_at_5 hb)]
    refine m_104 (r := 0) (hd := 0) (b := 0) (zk_at_5 hb) (zff_13_5 hf) (by omega) (zfp_6_5 hf) (zfp_12_5 hf) (zfp_14_5 hf) (zPO_7 hb hf) (zk_at_25 hb) (zl_at_25 hb) (zk_at_29 hb) (zl_at_29 hb) (by omega) (zff_25_7 hf) (zff_23_7 hf) (by omega) (by omega) (by omega) (fun v hv => ?_)
    show zR 7 36 [some (.inr (some 1)), some (.inl a), some (.inl (n : Int))] [.inl ((0 : Nat) : Int)] (if 0 + (n + 7) / 8 ≤ 8 then zsnd (zOpen v 0 a) 7 0 0 a (8 + ((0 % 8 : Nat) : Int)) (zn v) n ((n + 7) / 8) ((n + 7) / 8) else zOpen v 0 a) Q
    rw [zr_7_36, if_pos (by omega), hQ]
    refine ⟨_, rfl, fun hb1 => ?_⟩
    have hvn := hv.n
    have r0 : zRP w (zOpen v 0 a) := zRP.sf (zRP.sb (zRP.rq (zRP.nw (hv.rp (by omega)) (by omega)) (by show 239 ≤ zn v + 1; omega) (by omega)) (by omega)) (by omega)
    have r1 : zRP w (zsnd (zOpen v 0 a) 7 0 0 a (8 + ((0 % 8 : Nat) : Int)) (zn v) n ((n + 7) / 8) ((n + 7) / 8)) := zRP.tr r0 (zRP.snd (by omega) _)
    have sF := zsnd_sf (w := zOpen v 0 a) (p := 7) (a := 0) (b := 0) (t := a) (kd := 8 + ((0 % 8 : Nat) : Int)) (src := zn v) (n := n) (q := (n + 7) / 8) ((n + 7) / 8)
    have nn : zn (zsnd (zOpen v 0 a) 7 0 0 a (8 + ((0 % 8 : Nat) : Int)) (zn v) n ((n + 7) / 8) ((n + 7) / 8)) = zn v + 1 + 1 := sF.n
    have ss : zsl (zsnd (zOpen v 0 a) 7 0 0 a (8 + ((0 % 8 : Nat) : Int)) (zn v) n ((n + 7) / 8) ((n + 7) / 8)) = zsl v + 8 + 32 := sF.s
    have hvs := hv.s
    have q := r1 194 (by omega) (by omega)
    refine m_34 hb1 (by omega) (by omega) ((q.2.1 78).trans (zfp_78_194 hf)) ((q.2.1 79).trans (zfp_79_194 hf)) ((q.2.1 80).trans (zfp_80_194 hf)) ((q.2.1 110).trans (zfp_110_194 hf)) ((q.2.1 112).trans (zfp_112_194 hf)) ((q.2.1 114).trans (zfp_114_194 hf)) ((q.2.1 115).trans (zfp_115_194 hf)) ((q.2.1 116).trans (zfp_116_194 hf)) ((q.2.1 117).trans (zfp_117_194 hf)) ((q.2.1 118).trans (zfp_118_194 hf)) ((q.2.1 119).trans (zfp_119_194 hf)) ((q.1 113).trans (zff_113_194 hf)) (((r1 200 (by omega) (by omega)).2.2.1 0).trans (zfa_200_0 hf)) (fun w' h1 h2 => ⟨0, rfl, rfl, fun hb2 => ⟨hb2, by rw [h1, nn]; omega, by rw [h2, ss]; omega⟩⟩)
  · rw [m_7r ra rb hv, hQ]
    refine ⟨_, rfl, fun hb1 => ?_⟩
    rw [m_34r ra rb hv]
    exact ⟨_, rfl, rfl, fun hb2 => ⟨hb2, by omega, by omega⟩⟩
theorem z_run4 {L : Nat} (hL : L ≤ 4) (xs : Nat → Int) (hx : ∀ j, -2147483648 ≤ xs j ∧ xs j < 2147483648) : ∃ (n : Nat) (w' : zW), zx n zLaw 0 (zent zLaw [.inr (some 0)]) [] (zw0 L xs) = some (some (.inl 1), w') ∧ zn w' ≤ 600000 ∧ zsl w' ≤ 7302250 :=
  z_run4_open hL xs hx (fun hb hf a b ra rb Q hQ => f_op_6 hb hf a b ra rb Q hQ)
