-- ask: both sides together
theorem zcnt_x {w v : zW} (h : ∀ d f, d < 7 → zb v (zNd d + 1) f = zb w (zNd d + 1) f) : ∀ n, n ≤ 448 → zcnt v n = zcnt w n
  | 0, _ => rfl
  | n + 1, hn => by
    rw [zcnt, zcnt, zcnt_x h n (by omega), h (n / 64) (n % 64) (by omega)]
-- the state after the reference opens request r
def zopb (s : zSt) (r a n : Int) : zSt := zv (zv (zv s 113 0 (r + 1)) 231 r a) 232 r n
def zopn (s : zSt) (r a n : Int) : zSt := zv (zv (zv (zpt (zopb s r a n) 233 (32 * r) n (fun x => zopb s r a n 230 (x - 32 * r))) 234 r 1) 235 r 30) 236 r 1
theorem zopn_o {s : zSt} {r a n : Int} {b : Nat} {x : Int} (h : b ∉ [113, 231, 232, 233, 234, 235, 236]) : zopn s r a n b x = s b x := by
  unfold zopn
  rw [zv_ne (fun q => h (by rw [q]; decide)), zv_ne (fun q => h (by rw [q]; decide)), zv_ne (fun q => h (by rw [q]; decide)), zpt_ne (fun q => h (by rw [q]; decide))]
  unfold zopb
  rw [zv_ne (fun q => h (by rw [q]; decide)), zv_ne (fun q => h (by rw [q]; decide)), zv_ne (fun q => h (by rw [q]; decide))]
theorem zopn_n {s : zSt} {r a n : Int} {b : Nat} {x : Int} (h : x ≠ r) (h1 : b ≠ 113) (h2 : b ≠ 233) : zopn s r a n b x = s b x := by
  unfold zopn
  rw [zv_nj h, zv_nj h, zv_nj h, zpt_ne h2]
  unfold zopb
  rw [zv_nj h, zv_nj h, zv_ne h1]
theorem zopn_113 {s : zSt} {r a n : Int} : zopn s r a n 113 0 = r + 1 := by
  unfold zopn
  rw [zv_ne (by decide), zv_ne (by decide), zv_ne (by decide), zpt_ne (by decide)]
  unfold zopb
  rw [zv_ne (by decide), zv_ne (by decide), zv_eq]
theorem zopn_231 {s : zSt} {r a n : Int} : zopn s r a n 231 r = a := by
  unfold zopn
  rw [zv_ne (by decide), zv_ne (by decide), zv_ne (by decide), zpt_ne (by decide)]
  unfold zopb
  rw [zv_ne (by decide), zv_eq]
theorem zopn_232 {s : zSt} {r a n : Int} : zopn s r a n 232 r = n := by
  unfold zopn
  rw [zv_ne (by decide), zv_ne (by decide), zv_ne (by decide), zpt_ne (by decide)]
  unfold zopb
  rw [zv_eq]
theorem zopn_234 {s : zSt} {r a n : Int} : zopn s r a n 234 r = 1 := by
  unfold zopn
  rw [zv_ne (by decide), zv_ne (by decide), zv_eq]
theorem zopn_235 {s : zSt} {r a n : Int} : zopn s r a n 235 r = 30 := by
  unfold zopn
  rw [zv_ne (by decide), zv_eq]
theorem zopn_236 {s : zSt} {r a n : Int} : zopn s r a n 236 r = 1 := by
  unfold zopn
  rw [zv_eq]
theorem zopn_233i {s : zSt} {r a n : Int} {j : Int} (h1 : 0 ≤ j) (h2 : j < n) : zopn s r a n 233 (32 * r + j) = s 230 j := by
  unfold zopn
  rw [zv_ne (by decide), zv_ne (by decide), zv_ne (by decide), zpt_i (by omega) (by omega), show 32 * r + j - 32 * r = j by omega]
  unfold zopb
  rw [zv_ne (by decide), zv_ne (by decide), zv_ne (by decide)]
theorem zopn_233o {s : zSt} {r a n : Int} {x : Int} (h : x < 32 * r ∨ 32 * r + n ≤ x) : zopn s r a n 233 x = s 233 x := by
  unfold zopn
  rw [zv_ne (by decide), zv_ne (by decide), zv_ne (by decide), zpt_o h]
  unfold zopb
  rw [zv_ne (by decide), zv_ne (by decide), zv_ne (by decide)]
theorem m_34_64s_k {c : zW} {s : zSt} {Q : Option zV → zW → Prop} (hc : zKR c) {l1 : Option zV} {n r : Int} (hr : 0 ≤ r ∧ r ≤ 39) (hn : 1 ≤ n ∧ n ≤ 32) (h0 : 0 ≤ n) : ∀ (jj : Nat) (k : Int), 0 ≤ k → k + (jj : Int) = n → zR 34 64 [some (.inr (some 194)), l1, some (.inl n), some (.inl r), some (.inl k)] [] (zmk c (zpt s 233 (32 * r) k (fun x => s 230 (x - 32 * r)))) Q = zR 34 95 [some (.inr (some 194)), l1, some (.inl n), some (.inl r), some (.inl n)] [] (zmk c (zpt s 233 (32 * r) n (fun x => s 230 (x - 32 * r)))) Q := by
  intro jj
  induction jj with
  | zero =>
    intro k hk0 hj_
    rw [show k = n by omega]
    rw [zr_34_64, zr_34_66, zr_34_67, zN_of (x := n) (by omega) (by omega), if_pos (by omega)]
  | succ jj ih =>
    intro k hk0 hj_
    rw [zr_34_64, zr_34_66, zr_34_67, zN_of (x := k) (by omega) (by omega), zN_of (x := n) (by omega) (by omega), if_neg (by omega), zr_34_70, zr_34_71 (rk_194 hc), rp_116 hc, zr_34_74, zr_34_76, zr_34_77, zr_34_78, zr_34_80, zr_34_81, zr_34_82 (rk_194 hc), rp_112 hc, zr_34_85, zr_34_87 (ri_230 hc (by omega) (by omega)), ra (h := 230) (j := k) (by decide) (by decide) (by omega) (by omega), zpt_ne (b := 230) (by decide), zr_34_88 (rs_233 hc (by omega) (by omega)), rsa (h := 233) (j := ((32 * r) + k)) (by decide) (by decide) (by omega) (by omega), zr_34_89, zr_34_92]
    rw [show s 230 k = s 230 (32 * r + k - 32 * r) by rw [show 32 * r + k - 32 * r = k by omega], zpt_s (g := fun x => s 230 (x - 32 * r)) hk0]
    exact ih (k + 1) (by omega) (by omega)
theorem m_34_64s {c : zW} {s : zSt} {Q : Option zV → zW → Prop} (hc : zKR c) {l1 : Option zV} {n r : Int} (hr : 0 ≤ r ∧ r ≤ 39) (hn : 1 ≤ n ∧ n ≤ 32) (h0 : 0 ≤ n) : zR 34 64 [some (.inr (some 194)), l1, some (.inl n), some (.inl r), some (.inl 0)] [] (zmk c s) Q = zR 34 95 [some (.inr (some 194)), l1, some (.inl n), some (.inl r), some (.inl n)] [] (zmk c (zpt s 233 (32 * r) n (fun x => s 230 (x - 32 * r)))) Q := by
  have h := m_34_64s_k (s := s) (Q := Q) (l1 := l1) (n := n) (r := r) hc hr hn h0 (Int.toNat (n)) 0 (by omega) (by omega)
  rw [zpt_0] at h
  exact h
theorem m_34_go {c : zW} {s : zSt} {Q : Option zV → zW → Prop} (hc : zKR c) {a n r : Int} (h13 : s 113 0 = r) (hr : 0 ≤ r ∧ r ≤ 39) (ha : 9 ≤ a ∧ a ≤ 63) (hn : 1 ≤ n ∧ n ≤ 32) {t : zSt} (h35 : ∀ Q, zR 35 0 [some (.inr (some 194)), some (.inl r), none] [] (zmk c (zopn s r a n)) Q = Q none (zmk c t)) : zR 34 0 [some (.inr (some 194)), some (.inl a), some (.inl n), none, none] [] (zmk c s) Q = Q (some (.inl r)) (zmk c t) := by
  have h35b : ∀ Q, zR 35 0 [some (.inr (some 194)), some (.inl r), none] [] (zmk c (zv (zv (zv (zpt (zv (zv (zv s 113 0 (r + 1)) 231 r a) 232 r n) 233 (32 * r) n (fun x => (zv (zv (zv s 113 0 (r + 1)) 231 r a) 232 r n) 230 (x - 32 * r))) 234 r 1) 235 r 30) 236 r 1)) Q = Q none (zmk c t) := h35
  rw [zr_34_0, zr_34_1, zr_34_2, zr_34_4 (by exact Nat.le_of_ble_eq_true rfl), m_within1 (by decide) (by decide) (by decide) (by decide) (by rw [zN_of (by omega) (by omega)]; omega), Option.toList_some, List.cons_append, List.nil_append, zr_34_7, show zN 1 = 1 by decide, if_neg (by omega), zr_34_10, zr_34_11, zr_34_13, zr_34_15 (by exact Nat.le_of_ble_eq_true rfl), m_within1 (by decide) (by decide) (by decide) (by decide) (by rw [zN_of (by omega) (by omega)]; omega), Option.toList_some, List.cons_append, List.nil_append, zr_34_18, show zN 1 = 1 by decide, if_neg (by omega), zr_34_21, zr_34_22 (rk_194 hc), v_f (f := 113) (by decide), h13, zr_34_25, zr_34_27, zN_of (x := r) (by omega) (by omega), show zN 40 = 40 by decide, if_pos (by omega), zr_34_32, zr_34_33 (rk_194 hc), v_f (f := 113) (by decide), h13, zr_34_36, zr_34_37, zr_34_38, zr_34_39 (rk_194 hc), v_f (f := 113) (by decide), h13, zr_34_42, zr_34_43, zr_34_44 (rk_194 hc), v_sf (f := 113) (by decide), zr_34_47, zr_34_48 (rk_194 hc), rp_114 hc, zr_34_51, zr_34_52, zr_34_53 (rs_231 hc (by omega) (by omega)), rsa (h := 231) (j := r) (by decide) (by decide) (by omega) (by omega), zr_34_54, zr_34_55 (rk_194 hc), rp_115 hc, zr_34_58, zr_34_59, zr_34_60 (rs_232 hc (by omega) (by omega)), rsa (h := 232) (j := r) (by decide) (by decide) (by omega) (by omega), zr_34_61, zr_34_62]
  rw [m_34_64s (s := (zv (zv (zv s 113 0 (r + 1)) 231 r a) 232 r n)) hc hr hn (by omega)]
  rw [zr_34_95, zr_34_96 (rk_194 hc), rp_117 hc, zr_34_99, zr_34_100, zr_34_101 (rs_234 hc (by omega) (by omega)), rsa (h := 234) (j := r) (by decide) (by decide) (by omega) (by omega), zr_34_102, zr_34_103 (rk_194 hc), rp_118 hc, zr_34_106, zr_34_107, zr_34_109 (rs_235 hc (by omega) (by omega)), rsa (h := 235) (j := r) (by decide) (by decide) (by omega) (by omega), zr_34_110, zr_34_111 (rk_194 hc), rp_119 hc, zr_34_114, zr_34_115, zr_34_116 (rs_236 hc (by omega) (by omega)), rsa (h := 236) (j := r) (by decide) (by decide) (by omega) (by omega), zr_34_117, zr_34_118, zr_34_119 (by exact Nat.le_of_ble_eq_true rfl) (rk_194 hc), h35b, Option.toList_none, List.nil_append, zr_34_122, zr_34_123]
-- the class: the world with the new cells
def zOp1 (v : zW) (r : Nat) (a : Int) : zW := zRq (znew v 10 8) (zn v + 1) a ((r % 8 : Nat) : Int) (some (zn v))
theorem zOp1_old {v : zW} {r : Nat} {a : Int} {h : Nat} (hh : h ≤ zn v) : zk (zOp1 v r a) h = zk v h ∧ zl (zOp1 v r a) h = zl v h ∧ (∀ g, zf (zOp1 v r a) g h = zf v g h) ∧ (∀ g, zp (zOp1 v r a) g h = zp v g h) ∧ (∀ j, za (zOp1 v r a) h j = za v h j) ∧ (∀ j, zb (zOp1 v r a) h j = zb v h j) := by
  refine ⟨?_, ?_, fun g => ?_, fun g => ?_, fun j => ?_, fun j => ?_⟩
  · show zk (znew (znew v 10 8) zNC 32) h = _
    rw [u_k_nw (by show h ≠ zn v + 1 + 1; omega), u_k_nw (by omega)]
  · show zl (znew (znew v 10 8) zNC 32) h = _
    rw [u_l_nw (by show h ≠ zn v + 1 + 1; omega), u_l_nw (by omega)]
  · show zf (zsf (zsf (zsf (zsf (zsf (znew (znew v 10 8) zNC 32) 69 (zn v + 1) 1) 70 (zn v + 1) 30) 71 (zn v + 1) 1) 64 (zn v + 1) a) 65 (zn v + 1) ((r % 8 : Nat) : Int)) g h = _
    rw [u_f_nh (by omega), u_f_nh (by omega), u_f_nh (by omega), u_f_nh (by omega), u_f_nh (by omega), u_f_nw (by show h ≠ zn v + 1 + 1; omega), u_f_nw (by omega)]
  · show zp (zsp (zsp (znew (znew v 10 8) zNC 32) 67 (zn v + 1) (some (zn v + 1 + 1))) 66 (zn v + 1) (some (zn v))) g h = _
    rw [u_p_nh (by omega), u_p_nh (by omega), u_p_nw (by show h ≠ zn v + 1 + 1; omega), u_p_nw (by omega)]
  · show za (znew (znew v 10 8) zNC 32) h j = _
    rw [u_a_nw (by show h ≠ zn v + 1 + 1; omega), u_a_nw (by omega)]
  · show zb (znew (znew v 10 8) zNC 32) h j = _
    rw [u_b_nw (by show h ≠ zn v + 1 + 1; omega), u_b_nw (by omega)]
theorem zOpen_new {v : zW} {r : Nat} {a : Int} : zk (zOpen v r a) (zn v + 2) = 12 ∧ zl (zOpen v r a) (zn v + 2) = 32 ∧ zp (zOpen v r a) 67 (zn v + 1) = some (zn v + 2) ∧ zf (zOpen v r a) 68 (zn v + 1) = 0 ∧ zf (zOpen v r a) 69 (zn v + 1) = 1 ∧ zf (zOpen v r a) 70 (zn v + 1) = 30 ∧ zf (zOpen v r a) 71 (zn v + 1) = 1 := by
  have hf : ∀ f, zf (zOpen v r a) f (zn v + 1) = zf (zsf (zsf (zsf (zsf (zsf (zsf (znew (znew v 10 8) zNC 32) 69 (zn v + 1) 1) 70 (zn v + 1) 30) 71 (zn v + 1) 1) 64 (zn v + 1) a) 65 (zn v + 1) ((r % 8 : Nat) : Int)) 13 5 ((r : Int) + 1)) f (zn v + 1) := fun f => rfl
  refine ⟨?_, ?_, ?_, ?_, ?_, ?_, ?_⟩
  · show zk (znew (znew v 10 8) zNC 32) (zn (znew v 10 8) + 1) = _
    exact u_k_nwn
  · show zl (znew (znew v 10 8) zNC 32) (zn (znew v 10 8) + 1) = _
    exact u_l_nwn
  · show zp (zsp (zsp (znew (znew v 10 8) zNC 32) 67 (zn v + 1) (some (zn v + 1 + 1))) 66 (zn v + 1) (some (zn v))) 67 (zn v + 1) = _
    rw [u_p_ne (by decide), u_p_eq]
  · rw [hf, u_f_ne (by decide), u_f_ne (by decide), u_f_ne (by decide), u_f_ne (by decide), u_f_ne (by decide), u_f_ne (by decide), u_f_nw (by show zn v + 1 ≠ zn v + 1 + 1; omega)]
    exact if_pos rfl
  · rw [hf, u_f_ne (by decide), u_f_ne (by decide), u_f_ne (by decide), u_f_ne (by decide), u_f_ne (by decide), u_f_eq]
  · rw [hf, u_f_ne (by decide), u_f_ne (by decide), u_f_ne (by decide), u_f_ne (by decide), u_f_eq]
  · rw [hf, u_f_ne (by decide), u_f_ne (by decide), u_f_ne (by decide), u_f_eq]
set_option maxHeartbeats 1000000 in
theorem J_open {L : Nat} {xs : Nat → Int} {B : Int} {own : Nat → Nat} {s : zSt} {w v : zW} {a : Int} {n r : Nat} (hb : zBase L xs w) (h : zJ0 B 8 own s w) (h13 : s 113 0 = (r : Int)) (hr : r < 40) (ha : 9 ≤ a ∧ a ≤ 63) (hn : 1 ≤ n ∧ n ≤ 32) (hv : zCO w v 25 n) : zJ0 B 8 (zOW own w (448 + r)) (zopn s (r : Int) a (n : Int)) (zOpen v r a) ∧ zBase L xs (zOpen v r a) ∧ zRP w (zOpen v r a) ∧ zReq (zOW own w (448 + r)) (zopn s (r : Int) a (n : Int)) (zOpen v r a) r (zn v) := by
  have h239 := hb.2.1
  have hvn := hv.n
  have vk : ∀ k, k ≤ zn w → zk v k = zk w k := fun k hk => (hv.k k).trans (u_k_nw (by omega))
  have vl : ∀ k, k ≤ zn w → zl v k = zl w k := fun k hk => (hv.l k).trans (u_l_nw (by omega))
  have vp : ∀ f k, k ≤ zn w → zp v f k = zp w f k := fun f k hk => (hv.p f k).trans (u_p_nw (by omega))
  have vb : ∀ k j, k ≤ zn w → zb v k j = zb w k j := fun k j hk => (hv.b k j).trans (u_b_nw (by omega))
  have vf : ∀ f k, k ≤ zn w → zf v f k = zf w f k := fun f k hk => (hv.f f k).trans (u_f_nw (by omega))
  have va : ∀ k j, k ≤ zn w → za v k j = za w k j := fun k j hk => hv.2.2.2.2.2 k (by omega) j
  have vkn : zk v (zn v) = 12 := by rw [hv.k, hvn]; exact u_k_nwn
  have vln : zl v (zn v) = n := by rw [hv.l, hvn]; exact u_l_nwn
  have van : ∀ j, j < n → za v (zn v) j = za w 25 j := fun j hj => by rw [hvn]; exact hv.2.2.2.2.1 j hj
  have al : yAl (fun g j => g = 29 ∧ j = r) own (zOW own w (448 + r)) w (zsb (zOp1 v r a) 29 r (some (zn v + 1))) := by
    refine ⟨by show zn w ≤ zn v + 1 + 1; omega, fun g hg => ?_, fun g hg => if_pos hg⟩
    obtain ⟨o1, o2, o3, o4, o5, o6⟩ := zOp1_old (v := v) (r := r) (a := a) (show g ≤ zn v by omega)
    refine ⟨o1.trans (vk g hg), o2.trans (vl g hg), fun f => (o3 f).trans (vf f g hg), fun f => (o4 f).trans (vp f g hg), fun j => (o5 j).trans (va g j hg), fun j hx => ?_⟩
    by_cases e1 : g = 29
    · rw [u_b_nj (fun q => hx ⟨e1, q⟩)]
      exact (o6 j).trans (vb g j hg)
    · rw [u_b_ne e1]
      exact (o6 j).trans (vb g j hg)
  have hOd : zOpen v r a = zsf (zsb (zOp1 v r a) 29 r (some (zn v + 1))) 13 5 ((r : Int) + 1) := rfl
  have d : zDv [5] (zOW own w (448 + r)) (zsb (zOp1 v r a) 29 r (some (zn v + 1))) (zOpen v r a) s (zopn s (r : Int) a (n : Int)) := by
    refine ⟨rfl, fun f hf k => ?_, rfl, fun _ _ _ => rfl, rfl, fun b hb2 x => ?_⟩
    · rw [hOd]
      exact u_f_ne (fun q => hf (by rw [q]; decide))
    · refine zopn_o (fun q => hb2 ?_)
      simp only [List.mem_cons, List.not_mem_nil, or_false] at q
      rcases q with e | e | e | e | e | e | e <;> rw [e] <;> decide
  obtain ⟨j0, j1, j2, j3, j4, j5, j6, j7, j8, j9, j10, j11⟩ := h
  have hN := zOpen_new (v := v) (r := r) (a := a)
  have hF := zOpen_fr (v := v) (r := r) (a := a)
  have ok : ∀ k, k ≤ zn w → zk (zOpen v r a) k = zk w k := fun k hk => al.k hk
  have ol : ∀ k, k ≤ zn w → zl (zOpen v r a) k = zl w k := fun k hk => al.l hk
  have oa : ∀ k j, k ≤ zn w → za (zOpen v r a) k j = za w k j := fun k j hk => al.a (j := j) hk
  have ob : ∀ k j, k ≤ zn w → ¬ (k = 29 ∧ j = r) → zb (zOpen v r a) k j = zb w k j := fun k j hk hx => al.b (h := k) (j := j) hk hx
  have of : ∀ f k, f ≠ 13 → k ≤ zn w → zf (zOpen v r a) f k = zf w f k := fun f k hf hk => by
    rw [hOd, u_f_ne hf]
    exact al.f hk
  have on : zn (zOpen v r a) = zn w + 3 := by
    show zn v + 1 + 1 = _
    omega
  have osl : zsl (zOpen v r a) = zsl w + n + 40 := by
    show zsl v + 8 + 32 = _
    rw [hv.s]
  have hbO : zBase L xs (zOpen v r a) := by
    obtain ⟨⟨s1, s2, s3⟩, s4, s5⟩ := hb
    exact ⟨⟨by rw [ok 0 (by omega)]; exact s1, by rw [ol 0 (by omega)]; exact s2, fun j => by rw [oa 0 j (by omega)]; exact s3 j⟩, by omega, fun e he => by have := zKT_le e he; rw [ok e.1 (by omega), ol e.1 (by omega)]; exact s5 e he⟩
  have hQ : zReq (zOW own w (448 + r)) (zopn s (r : Int) a (n : Int)) (zOpen v r a) r (zn v) := by
    have ow : ∀ k, zn w < k → zOW own w (448 + r) k = 448 + r := fun k hk => if_neg (by omega)
    have z237 : zopn s (r : Int) a (n : Int) 237 (r : Int) = 0 := by
      rw [zopn_o (by decide)]
      exact j5.2.1.2.2 (r : Int) (by omega) (by omega)
    unfold zReq
    rw [zopn_231, zopn_232, zopn_234, zopn_235, zopn_236, z237]
    refine ⟨(zOpen_k (Nat.le_refl _)).trans vkn, hF.2.2.2, hN.1, hN.2.1, hF.2.2.1, hN.2.2.1, ow _ (by omega), ow _ (by omega), ow _ (by omega), by omega, by omega, hF.1, hF.2.1, hN.2.2.2.1, hN.2.2.2.2.1, hN.2.2.2.2.2.1, hN.2.2.2.2.2.2, ?_, fun j hj => ?_, fun j hj => ?_⟩
    · rw [zOpen_l (Nat.le_refl _), vln]
    · rw [zopn_233i (by omega) hj]
      refine Eq.trans ?_ ((van j (by omega)).trans (j9.1.2 j (by omega)))
      exact (zOp1_old (v := v) (r := r) (a := a) (Nat.le_refl _)).2.2.2.2.1 j
    · omega
  refine ⟨⟨zCon_g d (by decide) (zCon_al (s := s) al h239 (fun g j q => Or.inr (by rw [q.1]; exact zk_at_29 hb)) j0), ⟨gN_g d (by decide) (gN_al al h239 (fun j q => by omega) (fun j q => by omega) j1.1), iN_g d (by decide) j1.2⟩, ⟨gP_g d (by decide) (gP_al al h239 j2.1), iP_g d (by decide) j2.2⟩, ⟨gQ_g d (by decide) (by decide) (gQ_al al h239 j3.1), iQ_g d (by decide) (by decide) j3.2⟩, ⟨gT_g d (by decide) (fun i f hi hf => gT_al al h239 hi (fun q => by have := zNd_c hi; omega) (j4.1 i f hi hf)), iT_g d (by decide) j4.2⟩, ⟨⟨?_, fun r2 hr2 => ?_⟩, ?_⟩, ⟨gS_g d (by decide) (gS_al al h239 j6.1), iS_g d (by decide) j6.2⟩, ⟨gE_g d (by decide) (gE_al al h239 j7.1), iE_g d (by decide) j7.2⟩, ⟨gB_g d (by decide) (gB_al al h239 j8.1), iB_g d (by decide) j8.2⟩, ⟨gM_g d (by decide) (gM_al al h239 j9.1), iM_g d (by decide) j9.2⟩, gL_g d (by decide) (gL_al al h239 j10), ?_⟩, hbO, ?_, hQ⟩
  · rw [zopn_113, hOd, u_f_eq]
  · rw [zopn_113] at hr2
    by_cases e : r2 = r
    · subst e
      refine ⟨zn v, ?_, hQ⟩
      show zb (zsb (zOp1 v r2 a) 29 r2 (some (zn v + 1))) 29 r2 = _
      rw [u_b_eq]
    · obtain ⟨g, p1, p2⟩ := j5.1.2 r2 (by omega)
      have i32 := (j5.2.2 (r2 : Int) (by omega) (by omega)).2.1
      refine ⟨g, by rw [ob 29 r2 (by omega) (fun q => e q.2)]; exact p1, ?_⟩
      obtain ⟨c1, c2, c3, c4, c5, c6, c7, c8, c9, c10, c11, c12, c13, c14, c15, c16, c17, c18, c19, c20⟩ := zReq_al al h239 p2
      have of2 : ∀ f, f ≠ 13 → zf (zOpen v r a) f (g + 1) = zf (zsb (zOp1 v r a) 29 r (some (zn v + 1))) f (g + 1) := fun f hf => by rw [hOd, u_f_ne hf]
      have zo : ∀ b, b ≠ 113 → b ≠ 233 → zopn s (r : Int) a (n : Int) b (r2 : Int) = s b (r2 : Int) := fun b b1 b2 => zopn_n (by omega) b1 b2
      refine ⟨c1, c2, c3, c4, c5, c6, c7, c8, c9, c10, c11, by rw [of2 64 (by decide), zo 231 (by decide) (by decide)]; exact c12, by rw [of2 65 (by decide)]; exact c13, by rw [of2 68 (by decide), zo 237 (by decide) (by decide)]; exact c14, by rw [of2 69 (by decide), zo 234 (by decide) (by decide)]; exact c15, by rw [of2 70 (by decide), zo 235 (by decide) (by decide)]; exact c16, by rw [of2 71 (by decide), zo 236 (by decide) (by decide)]; exact c17, by rw [zo 232 (by decide) (by decide)]; exact c18, fun j hj => ?_, fun j hj => ?_⟩
      · rw [zo 232 (by decide) (by decide)] at hj
        rw [zopn_233o (by omega)]
        exact c19 j hj
      · rw [zo 237 (by decide) (by decide)] at hj
        rw [zopn_o (by decide)]
        exact c20 j hj
  · refine ⟨⟨by rw [zopn_113]; omega, by rw [zopn_113]; omega, fun x x1 x2 => ?_⟩, fun x x1 x2 => ?_⟩
    · rw [zopn_113] at x1
      rw [zopn_o (by decide)]
      exact j5.2.1.2.2 x (by omega) x2
    · rw [zopn_113] at x2
      by_cases e : x = (r : Int)
      · subst e
        rw [zopn_231, zopn_232, zopn_234, zopn_235, zopn_236]
        have z237 : zopn s (r : Int) a (n : Int) 237 (r : Int) = 0 := by
          rw [zopn_o (by decide)]
          exact j5.2.1.2.2 (r : Int) (by omega) (by omega)
        rw [z237]
        exact ⟨by omega, by omega, by omega, by omega, fun _ => by omega, by omega, by omega, fun j q1 q2 => by rw [zopn_233i q1 q2]; exact j9.2 j q1 (by omega)⟩
      · have zo : ∀ b, b ≠ 113 → b ≠ 233 → zopn s (r : Int) a (n : Int) b x = s b x := fun b b1 b2 => zopn_n e b1 b2
        obtain ⟨i1, i2, i3, i4, i5, i6, i7, i8⟩ := j5.2.2 x x1 (by omega)
        rw [zo 231 (by decide) (by decide), zo 232 (by decide) (by decide), zo 234 (by decide) (by decide), zo 235 (by decide) (by decide), zo 236 (by decide) (by decide), zo 237 (by decide) (by decide)]
        exact ⟨i1, i2, i3, i4, i5, i6, i7, fun j q1 q2 => by rw [zopn_233o (by omega)]; exact i8 j q1 q2⟩
  · unfold gH at j11 ⊢
    rw [zopn_113, on, osl, zcnt_x (w := w) (v := zOpen v r a) (fun i f hi => ob _ _ (by have := zNd_c hi; omega) (fun q => by have := zNd_c hi; omega)) 448 (Nat.le_refl _)]
    omega
  · intro k k1 k2
    refine ⟨fun f => ?_, fun f => al.p (f := f) (h := k) (by omega), fun j => oa k j (by omega), fun j => ob k j (by omega) (fun q => by omega)⟩
    rw [hOd, u_f_nh (by omega)]
    exact al.f (by omega)
set_option maxHeartbeats 1000000 in
theorem o_op_6 {L : Nat} {xs : Nat → Int} {B : Int} {w : zW} (hb : zBase L xs w) (hP : zPJ B w) (hB : B < 1000000000) (a : Int) (rga : -2147483648 ≤ a ∧ a < 2147483648) (b : Int) (rgb : -2147483648 ≤ b ∧ b < 2147483648) : zR 7 0 [some (.inr (some 1)), some (.inl a), some (.inl b)] [] w (fun r w1 => ∃ v, r = some (.inl v) ∧ (zBase L xs w1 → zR 34 0 [some (.inr (some 194)), some (.inl a), some (.inl b), none, none] [] w1 (fun r2 w2 => ∃ v2, r2 = some (.inl v2) ∧ zN v = zN v2 ∧ (zBase L xs w2 → zPJ (B + 1400) w2)))) := by
  obtain ⟨own, s, h, hS⟩ := hP
  by_cases hv : (1 ≤ b ∧ b ≤ 32) ∧ 9 ≤ a ∧ a ≤ 63
  · obtain ⟨n, hn0⟩ : ∃ n : Nat, b = (n : Int) := ⟨b.toNat, by omega⟩
    subst hn0
    have f13 := h.2.2.2.2.2.1.1.1
    have h40 := h.2.2.2.2.2.1.2.1
    by_cases c : s 113 0 = 40
    · have hc1 : ∀ Q, zR 7 0 [some (.inr (some 1)), some (.inl a), some (.inl (n : Int))] [] w Q = Q (some (.inl (-1))) w := fun Q => by
        rw [zr_7_0, zr_7_1, zr_7_2, zN_of (x := (n : Int)) (by omega) (by omega), show zN 1 = 1 by decide, if_neg (by omega), zr_7_5, zr_7_6, zr_7_8, zN_of (x := (n : Int)) (by omega) (by omega), show zN 32 = 32 by decide, if_pos (by omega), zr_7_13, zr_7_14, zr_7_16, zN_of (x := a) (by omega) (by omega), show zN 9 = 9 by decide, if_neg (by omega), zr_7_19, zr_7_20, zr_7_22, zN_of (x := a) (by omega) (by omega), show zN 64 = 64 by decide, if_pos (by omega), zr_7_27, zr_7_28 (by exact zk_at_1 hb), zcq_3_1 h.1, zr_7_31, zr_7_32, zr_7_33 (by exact Nat.le_of_ble_eq_true rfl) (by exact zk_at_5 hb), zr_104_0, zr_104_1 (by exact zk_at_5 hb), f13, zr_104_4, zr_104_6, zN_of (x := s 113 0) (by omega) (by omega), show zN 40 = 40 by decide, if_neg (by omega), zr_104_9, zr_104_10, Option.toList_some, List.cons_append, List.nil_append, zr_7_36]
      have hr1 : ∀ c Q, zKR c → zR 34 0 [some (.inr (some 194)), some (.inl a), some (.inl (n : Int)), none, none] [] (zmk c s) Q = Q (some (.inl (-1))) (zmk c s) := fun c Q hc => by
        rw [zr_34_0, zr_34_1, zr_34_2, zr_34_4 (by exact Nat.le_of_ble_eq_true rfl), m_within1 (by decide) (by decide) (by decide) (by decide) (by rw [zN_of (by omega) (by omega)]; omega), Option.toList_some, List.cons_append, List.nil_append, zr_34_7, show zN 1 = 1 by decide, if_neg (by omega), zr_34_10, zr_34_11, zr_34_13, zr_34_15 (by exact Nat.le_of_ble_eq_true rfl), m_within1 (by decide) (by decide) (by decide) (by decide) (by rw [zN_of (by omega) (by omega)]; omega), Option.toList_some, List.cons_append, List.nil_append, zr_34_18, show zN 1 = 1 by decide, if_neg (by omega), zr_34_21, zr_34_22 (rk_194 hc), v_f (f := 113) (by decide), zr_34_25, zr_34_27, zN_of (x := s 113 0) (by omega) (by omega), show zN 40 = 40 by decide, if_neg (by omega), zr_34_30, zr_34_31]
      exact O_fin (G := fun w Q => zR 34 0 [some (.inr (some 194)), some (.inl a), some (.inl (n : Int)), none, none] [] w Q) hS hc1 hr1 rfl ⟨⟨own, zJ_mono h (by omega)⟩, hb, yRQ.rf⟩
    · obtain ⟨r, hr0⟩ : ∃ r : Nat, s 113 0 = (r : Int) := ⟨(s 113 0).toNat, by omega⟩
      have hr : r < 40 := by omega
      have z0 := h.2.1.2.1
      have e0 : s 195 ((0 : Nat) : Int) = s 195 0 := rfl
      obtain ⟨hd, q, q1, q2, q3, q4, q5, q6⟩ := h.2.2.2.1.1.1 0 (by omega) (by omega)
      rw [if_neg (by decide)] at q2 q4
      have q3 : zf w 25 7 = (hd : Int) := q3
      have q4 : zf w 23 7 = (q : Int) := q4
      rw [zr_7_0, zr_7_1, zr_7_2, zN_of (x := (n : Int)) (by omega) (by omega), show zN 1 = 1 by decide, if_neg (by omega), zr_7_5, zr_7_6, zr_7_8, zN_of (x := (n : Int)) (by omega) (by omega), show zN 32 = 32 by decide, if_pos (by omega), zr_7_13, zr_7_14, zr_7_16, zN_of (x := a) (by omega) (by omega), show zN 9 = 9 by decide, if_neg (by omega), zr_7_19, zr_7_20, zr_7_22, zN_of (x := a) (by omega) (by omega), show zN 64 = 64 by decide, if_pos (by omega), zr_7_27, zr_7_28 (by exact zk_at_1 hb), zcq_3_1 h.1, zr_7_31, zr_7_32, zr_7_33 (by exact Nat.le_of_ble_eq_true rfl) (by exact zk_at_5 hb)]
      refine m_104 (r := r) (hd := hd) (b := q) (zk_at_5 hb) (f13.trans hr0) hr (zcq_6_5 h.1) (zcq_12_5 h.1) (zcq_14_5 h.1) (zPO_at_7 hb h.1) (zk_at_25 hb) (zl_at_25 hb) (zk_at_29 hb) (zl_at_29 hb) hb.2.1 q3 q4 q1 (by omega) (by omega) (fun v hv2 => ?_)
      obtain ⟨J1, hbO, rpO, hQ⟩ := J_open hb h hr0 hr hv.2 (n := n) (by omega) hv2
      have e113 := zopn_113 (s := s) (r := (r : Int)) (a := a) (n := (n : Int))
      obtain ⟨v2, t, a1, a2, a3, a4, a5, a6⟩ := P_sendReq hbO J1 (r := r) (by rw [e113]; omega) hQ
      have gn : zl (zOpen v r a) (zn v) = n := by
        have := hQ.2.2.2.2.2.2.2.2.2.2.2.2.2.2.2.2.2.1
        rw [zopn_232] at this
        omega
      have g64 := hQ.2.2.2.2.2.2.2.2.2.2.2.1
      rw [zopn_231] at g64
      have oq3 : zf (zOpen v r a) 25 7 = (hd : Int) := by
        have hvn := hv2.n
        have h239 := hb.2.1
        rw [zOpen_f (by omega) (by decide), hv2.f, u_f_nw (by omega)]
        exact q3
      have oq4 : zf (zOpen v r a) 23 7 = (q : Int) := by
        have hvn := hv2.n
        have h239 := hb.2.1
        rw [zOpen_f (by omega) (by decide), hv2.f, u_f_nw (by omega)]
        exact q4
      have e1 := m_106 (w := zOpen v r a) (Q := fun _ u => u = v2) (g := zn v) (hd := hd) (b := q) (n := n) (ep := a) (tg := ((r % 8 : Nat) : Int)) (zk_at_5 hbO) (zcq_14_5 J1.1) (zPO_at_7 hbO J1.1) oq3 oq4 q1 (by omega) hQ.2.1 g64 hQ.2.2.2.2.2.2.2.2.2.2.2.2.1 hQ.2.2.2.2.1 hQ.1 gn (by omega)
      rw [a1] at e1
      have e2 : (if q + (n + 7) / 8 ≤ 8 then zsnd (zOpen v r a) 7 hd q a (8 + ((r % 8 : Nat) : Int)) (zn v) n ((n + 7) / 8) ((n + 7) / 8) else zOpen v r a) = v2 := e1.mp rfl
      rw [e2]
      show zR 7 36 [some (.inr (some 1)), some (.inl a), some (.inl (n : Int))] [.inl (r : Int)] v2 _
      rw [zr_7_36]
      have hr1 : ∀ c Q, zKR c → zR 34 0 [some (.inr (some 194)), some (.inl a), some (.inl (n : Int)), none, none] [] (zmk c s) Q = Q (some (.inl (r : Int))) (zmk c t) := fun c2 Q hc => m_34_go hc hr0 (by omega) hv.2 hv.1 (fun Q => a2 c2 Q hc)
      exact O_fin (F := fun Q => Q (some (.inl (r : Int))) v2) (G := fun w Q => zR 34 0 [some (.inr (some 194)), some (.inl a), some (.inl (n : Int)), none, none] [] w Q) hS (fun Q => rfl) hr1 rfl ⟨⟨_, zJ_mono a3 (by omega)⟩, a4, yRQ.tr (zRP_rq rpO) a5⟩
  · have hc1 : ∀ Q, zR 7 0 [some (.inr (some 1)), some (.inl a), some (.inl b)] [] w Q = Q (some (.inl (-1))) w := fun Q => m_7r rga rgb hv
    have hr1 : ∀ c Q, zKR c → zR 34 0 [some (.inr (some 194)), some (.inl a), some (.inl b), none, none] [] (zmk c s) Q = Q (some (.inl (-1))) (zmk c s) := fun c Q hc => m_34r rga rgb hv
    exact O_fin (G := fun w Q => zR 34 0 [some (.inr (some 194)), some (.inl a), some (.inl b), none, none] [] w Q) hS hc1 hr1 rfl ⟨⟨own, zJ_mono h (by omega)⟩, hb, yRQ.rf⟩
