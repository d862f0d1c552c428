-- both sides together: sensors
theorem z_and255 (x : Int) : 0 ≤ zo_and x 255 ∧ zo_and x 255 ≤ 255 := by
  unfold zo_and
  have h1 : (zI x &&& zI 255) = Int32.ofNat ((zI x).toBitVec.toNat % 256) := by
    apply Int32.toBitVec_inj.mp
    apply BitVec.eq_of_toNat_eq
    rw [Int32.toBitVec_and, BitVec.toNat_and, show (Int32.ofNat ((zI x).toBitVec.toNat % 256)).toBitVec = BitVec.ofNat 32 ((zI x).toBitVec.toNat % 256) from rfl, BitVec.toNat_ofNat]
    rw [show (zI 255).toBitVec.toNat = 2 ^ 8 - 1 by decide, Nat.and_two_pow_sub_one_eq_mod]
    omega
  rw [h1, Int32.toInt_ofNat_of_lt (by omega)]
  omega
theorem z_rem8i {x : Int} (h1 : 0 ≤ x) (h2 : x < 2147483648) : 0 ≤ zo_rem x 8 ∧ zo_rem x 8 ≤ 7 := by
  obtain ⟨n, hn⟩ : ∃ n : Nat, x = (n : Int) := ⟨x.toNat, by omega⟩
  subst hn
  unfold zo_rem
  have e1 : (zI (n : Int)).toInt = (n : Int) := zN_of (by omega) (by omega)
  have e8 : (zI 8).toInt = 8 := by decide
  have hd : (zI (n : Int) / zI 8).toInt = (n : Int) / 8 := by
    rw [Int32.toInt_div, e1, e8]
    have : (n : Int).tdiv 8 = (n : Int) / 8 := by
      rw [Int.tdiv_eq_ediv_of_nonneg (by omega)]
    rw [this]
    exact Int.bmod_eq_of_le (by omega) (by omega)
  rw [Int32.toInt_sub, Int32.toInt_mul, hd, e1, e8]
  have hb1 : ((n : Int) / 8 * 8).bmod (2 ^ 32) = (n : Int) / 8 * 8 := Int.bmod_eq_of_le (by omega) (by omega)
  rw [hb1]
  have hb2 : ((n : Int) - (n : Int) / 8 * 8).bmod (2 ^ 32) = (n : Int) - (n : Int) / 8 * 8 := Int.bmod_eq_of_le (by omega) (by omega)
  rw [hb2]
  omega
-- a node that senses: its kind, pointers, letter
theorem zNd_all {L : Nat} {xs : Nat → Int} {w : zW} (hb : zBase L xs w) (h : zCon w) {d : Nat} (h1 : 1 ≤ d) (h7 : d < 7) : (zk w (zNd d) = 4 ∨ zk w (zNd d) = 8) ∧ zp w 40 (zNd d) = some (zNd d + 21) ∧ zk w (zNd d + 21) = 12 ∧ zl w (zNd d + 21) = 32 ∧ zp w 14 (zNd d) = some (zPt d) ∧ zp w 37 (zNd d) = some (zNd d + 20) ∧ zk w (zNd d + 20) = 12 ∧ zl w (zNd d + 20) = 24 := by
  have hd : d = 1 ∨ d = 2 ∨ d = 3 ∨ d = 4 ∨ d = 5 ∨ d = 6 := by omega
  rcases hd with rfl | rfl | rfl | rfl | rfl | rfl
  · exact ⟨Or.inl (zk_at_30 hb), zcq_40_30 h, zk_at_51 hb, zl_at_51 hb, zcq_14_30 h, zcq_37_30 h, zk_at_50 hb, zl_at_50 hb⟩
  · exact ⟨Or.inr (zk_at_84 hb), zcq_40_84 h, zk_at_105 hb, zl_at_105 hb, zcq_14_84 h, zcq_37_84 h, zk_at_104 hb, zl_at_104 hb⟩
  · exact ⟨Or.inr (zk_at_106 hb), zcq_40_106 h, zk_at_127 hb, zl_at_127 hb, zcq_14_106 h, zcq_37_106 h, zk_at_126 hb, zl_at_126 hb⟩
  · exact ⟨Or.inr (zk_at_128 hb), zcq_40_128 h, zk_at_149 hb, zl_at_149 hb, zcq_14_128 h, zcq_37_128 h, zk_at_148 hb, zl_at_148 hb⟩
  · exact ⟨Or.inr (zk_at_150 hb), zcq_40_150 h, zk_at_171 hb, zl_at_171 hb, zcq_14_150 h, zcq_37_150 h, zk_at_170 hb, zl_at_170 hb⟩
  · exact ⟨Or.inr (zk_at_172 hb), zcq_40_172 h, zk_at_193 hb, zl_at_193 hb, zcq_14_172 h, zcq_37_172 h, zk_at_192 hb, zl_at_192 hb⟩
theorem ag_let {own : Nat → Nat} : ∀ d, 1 ≤ d → d < 7 → ag own (zNd d + 21) = 0 := by
  intro d hd hd2
  have h1 : ∀ d, d < 7 → 1 ≤ d → zNd d + 21 ∉ zBlL := by decide
  have h3 : ∀ d, d < 7 → 1 ≤ d → zNd d + 21 ∉ zPkL := by decide
  have h2 := zNd_c hd2
  unfold ag
  rw [if_pos (by omega), if_neg (h3 d hd2 hd), if_neg (h1 d hd2 hd), if_neg (by omega), if_neg (by omega), if_neg (by omega)]
theorem iS_mono {B B2 : Int} {s : zSt} (h : iS B s) (hB : B ≤ B2) : iS B2 s := fun d h1 h2 => by
  obtain ⟨a1, a2, a3, a4, a5, a6, a7, a8⟩ := h d h1 h2
  exact ⟨a1, a2, a3, a4, a5, a6, ⟨a7.1, by omega⟩, a8⟩
theorem zJ_mono {B B2 : Int} {e : Nat} {own : Nat → Nat} {s : zSt} {w : zW} (h : zJ0 B e own s w) (hB : B ≤ B2) : zJ0 B2 e own s w :=
  ⟨h.1, h.2.1, h.2.2.1, h.2.2.2.1, h.2.2.2.2.1, h.2.2.2.2.2.1, ⟨h.2.2.2.2.2.2.1.1, iS_mono h.2.2.2.2.2.2.1.2 hB⟩, h.2.2.2.2.2.2.2⟩
-- what a node's own doing leaves alone
def yFr (own : Nat → Nat) (d : Nat) (w v : zW) : Prop := zSF w v ∧ (∀ f h, fg f ≠ 6 → (fg f ≠ 3 ∨ h < zPt d ∨ zPt d + 17 < h) → zf v f h = zf w f h) ∧ (∀ h, ag own h ≠ 6 → (ag own h ≠ 3 ∨ h < zPt d ∨ zPt d + 17 < h) → h ≠ zNd d + 21 → ∀ j, za v h j = za w h j)
theorem yFr.rf {own : Nat → Nat} {d : Nat} {w : zW} : yFr own d w w := ⟨zSF.rf, fun _ _ _ _ => rfl, fun _ _ _ _ _ => rfl⟩
theorem yFr.tr {own : Nat → Nat} {d : Nat} {w v u : zW} (h1 : yFr own d w v) (h2 : yFr own d v u) : yFr own d w u :=
  ⟨zSF.tr h1.1 h2.1, fun f h a b => (h2.2.1 f h a b).trans (h1.2.1 f h a b), fun h a b c j => (h2.2.2 h a b c j).trans (h1.2.2 h a b c j)⟩
-- changes of the state: groups 3 and 6, the message and its length
def yFs (s t : zSt) : Prop := ∀ a, sg a ≠ 3 → sg a ≠ 6 → a ≠ 111 → a ≠ 229 → ∀ x, t a x = s a x
theorem yFs.tr {s t u : zSt} (h1 : yFs s t) (h2 : yFs t u) : yFs s u := fun a a3 a6 a1 a9 x => (h2 a a3 a6 a1 a9 x).trans (h1 a a3 a6 a1 a9 x)
theorem zsnd_fr {own : Nat → Nat} {w : zW} {d hd b : Nat} {t kd : Int} {src n q : Nat} (h7 : d < 7) : ∀ i, yFr own d w (zsnd w (zPt d) hd b t kd src n q i)
  | 0 => yFr.rf
  | i + 1 => yFr.tr (zsnd_fr h7 i) ⟨⟨rfl, rfl, rfl⟩, fun f h _ hor => by
      rcases hor with h3 | h3
      · exact zsnd1_f (fun e => h3 (by rw [e]; rfl)) (fun e => h3 (by rw [e]; rfl)) (fun e => h3 (by rw [e]; rfl)) (fun e => h3 (by rw [e]; rfl)) (fun e => h3 (by rw [e]; rfl))
      · exact zsnd1_fh (by omega) (by omega), fun h _ hor _ j => by
      rcases hor with h3 | h3
      · exact zsnd1_ah (fun e => h3 (by rw [e]; exact ag_pk d (by omega) _ (by omega)))
      · exact zsnd1_ah (by omega)⟩
theorem gS_put {s : zSt} {w : zW} {d : Nat} {f : Nat} {a : Nat} {x : Int} (h : gS s w) (hd : d < 7) (hd1 : 1 ≤ d) (hfa : (f = 32 ∧ a = 207) ∨ (f = 33 ∧ a = 211) ∨ (f = 34 ∧ a = 208) ∨ (f = 35 ∧ a = 209) ∨ (f = 36 ∧ a = 210) ∨ (f = 38 ∧ a = 212) ∨ (f = 39 ∧ a = 213)) : gS (zv s a (d : Int) x) (zsf w f (zNd d) x) := by
  intro i h1 h2
  obtain ⟨a1, a2, a3, a4, a5, a6, a7, a8⟩ := h i h1 h2
  have hi := zNd_c h2
  have hd2 := zNd_c hd
  have key : ∀ g c : Nat, zf w g (zNd i) = s c (i : Int) → (g = f ↔ c = a) → zf (zsf w f (zNd d) x) g (zNd i) = zv s a (d : Int) x c (i : Int) := by
    intro g c hgc hiff
    by_cases e1 : g = f
    · have e2 := hiff.mp e1
      subst e1
      subst e2
      by_cases e3 : i = d
      · subst e3
        rw [u_f_eq, zv_eq]
      · rw [u_f_nh (by omega), zv_nj (by omega)]
        exact hgc
    · rw [u_f_ne e1, zv_ne (fun e2 => e1 (hiff.mpr e2))]
      exact hgc
  refine ⟨key 32 207 a1 (by omega), key 33 211 a2 (by omega), key 34 208 a3 (by omega), key 35 209 a4 (by omega), key 36 210 a5 (by omega), key 38 212 a6 (by omega), key 39 213 a7 (by omega), fun j hj => ?_⟩
  rw [zv_ne (by omega)]
  exact a8 j hj
theorem zsf_df6 {own : Nat → Nat} {s : zSt} {w : zW} {g f a : Nat} {j x : Int} (hf : fg f = 6) (ha : sg a = 6) : zDf 6 own w (zsf w f g x) s (zv s a j x) :=
  ⟨rfl, fun f2 h2 h => u_f_ne (fun e => h2 (by rw [e]; exact hf)), rfl, fun _ _ _ => rfl, rfl, fun b hb y => zv_ne (fun e => hb (by rw [e]; exact ha))⟩
theorem P_senses {L : Nat} {xs : Nat → Int} {B : Int} {e : Nat} {own : Nat → Nat} {s : zSt} {w : zW} (hb : zBase L xs w) (h : zJ0 B e own s w) {d : Nat} (h1 : 1 ≤ d) (h7 : d < 7) (hde : d ≠ e) (hlive : 0 ≤ s 195 (d : Int)) (hB : B < 2000000000) :
    ∃ v t, (∀ Q, zR 148 0 [some (.inr (some (zNd d))), none] [] w Q = Q none v) ∧ (∀ c Q, zKR c → zR 38 0 [some (.inr (some 194)), some (.inl (d : Int)), none, none] [] (zmk c s) Q = Q none (zmk c t)) ∧ zJ0 (B + 1) e own t v ∧ yFr own d w v ∧ yFs s t := by
  obtain ⟨n1, n2, n3, n4, n5, n6, n7, n8⟩ := zNd_all hb h.1 h1 h7
  obtain ⟨a1, a2, a3, a4, a5, a6, a7, a8⟩ := h.2.2.2.2.2.2.1.1 d h1 h7
  obtain ⟨r1, r2, r3, r4, r5, r6, r7, r8⟩ := h.2.2.2.2.2.2.1.2 (d : Int) (by omega) (by omega)
  have hz := znw_r (s := s) (d := (d : Int))
  by_cases c1 : znw s (d : Int) = s 211 (d : Int)
  · exact ⟨w, s, fun Q => m_148_same n1 a1 a2 a3 a4 a5 r1 r2 r3 r4 r5 c1, fun c Q hc => m_38_same hc (by omega) r1 r2 r3 r4 r5 c1, zJ_mono h (by omega), yFr.rf, fun _ _ _ _ _ _ => rfl⟩
  · have J1 : zJ0 B e own (zv s 211 (d : Int) (znw s (d : Int))) (zsf w 33 (zNd d) (znw s (d : Int))) := by
      refine zJ_S h (zsf_df6 rfl rfl) ⟨gS_put h.2.2.2.2.2.2.1.1 h7 h1 (by omega), fun i i1 i2 => ?_⟩
      obtain ⟨b1, b2, b3, b4, b5, b6, b7, b8⟩ := h.2.2.2.2.2.2.1.2 i i1 i2
      rw [zv_ne (b := 207) (by decide), zv_ne (b := 208) (by decide), zv_ne (b := 209) (by decide), zv_ne (b := 210) (by decide), zv_ne (b := 212) (by decide), zv_ne (b := 213) (by decide)]
      refine ⟨b1, b2, b3, b4, ?_, b6, b7, fun j j1 j2 => ?_⟩
      · by_cases e1 : i = (d : Int)
        · subst e1
          rw [zv_eq]
          exact hz
        · rw [zv_nj e1]
          exact b5
      · rw [zv_ne (by decide)]
        exact b8 j j1 j2
    have F1 : yFr own d w (zsf w 33 (zNd d) (znw s (d : Int))) := ⟨⟨rfl, rfl, rfl⟩, fun f g h6 _ => u_f_ne (fun e => h6 (by rw [e]; rfl)), fun _ _ _ _ _ => rfl⟩
    by_cases c2 : s 212 (d : Int) = 0
    · exact ⟨_, _, fun Q => m_148_quiet n1 a1 a2 a3 a4 a5 a6 r1 r2 r3 r4 r5 c1 c2, fun c Q hc => m_38_quiet hc (by omega) r1 r2 r3 r4 r5 c1 c2, zJ_mono J1 (by omega), F1, fun a _ h6 _ _ x => zv_ne (fun e => h6 (by rw [e]; rfl))⟩
    · obtain ⟨hd, b, q1, q2, q3, q4, q5, q6⟩ := h.2.2.2.1.1.1 d (by omega) hlive
      rw [if_neg hde] at q2 q4
      have q4 : zf w 23 (zPt d) = (b : Int) := q4
      have hr8 := z_rem8i (x := s 213 (d : Int)) r7.1 (by omega)
      have J2 : zJ0 B e own (zev s (d : Int)) (zsnW w (zNd d) s (d : Int)) := by
        refine zJ_0 J1 ⟨rfl, fun f hf g => rfl, rfl, fun g hg j => ?_, rfl, fun a ha x => ?_⟩
        · have hne : g ≠ zNd d + 21 := fun e => hg (by rw [e]; exact ag_let d h1 h7)
          show za (zsa (zsa (zsa (zsa (zsf w 33 (zNd d) (znw s (d : Int))) (zNd d + 21) 0 64) (zNd d + 21) 1 _) (zNd d + 21) 2 _) (zNd d + 21) 3 _) g j = _
          rw [u_a_ne hne, u_a_ne hne, u_a_ne hne, u_a_ne hne]
        · rw [zev, zv_ne (fun e => ha (by rw [e]; rfl)), zv_ne (fun e => ha (by rw [e]; rfl)), zv_ne (fun e => ha (by rw [e]; rfl)), zv_ne (fun e => ha (by rw [e]; rfl)), zv_ne (fun e => ha (by rw [e]; rfl))]
      have F2 : yFr own d w (zsnW w (zNd d) s (d : Int)) := by
        refine ⟨⟨rfl, rfl, rfl⟩, F1.2.1, fun g _ _ hne j => ?_⟩
        show za (zsa (zsa (zsa (zsa (zsf w 33 (zNd d) (znw s (d : Int))) (zNd d + 21) 0 64) (zNd d + 21) 1 _) (zNd d + 21) 2 _) (zNd d + 21) 3 _) g j = _
        rw [u_a_ne hne, u_a_ne hne, u_a_ne hne, u_a_ne hne]
        rfl
      have f2 : ∀ f, f ≠ 33 → ∀ g, zf (zsnW w (zNd d) s (d : Int)) f g = zf w f g := fun f hf g => u_f_ne hf
      have hcn : ∀ j : Nat, j < 4 → za (zsnW w (zNd d) s (d : Int)) (zNd d + 21) j = zev s (d : Int) 229 (j : Int) ∧ 0 ≤ zev s (d : Int) 229 (j : Int) ∧ zev s (d : Int) 229 (j : Int) ≤ 255 := by
        intro j hj
        show za (zsa (zsa (zsa (zsa (zsf w 33 (zNd d) (znw s (d : Int))) (zNd d + 21) 0 64) (zNd d + 21) 1 (znw s (d : Int))) (zNd d + 21) 2 (zo_and (zo_shr (s 207 (d : Int)) 8) 255)) (zNd d + 21) 3 (zo_and (s 207 (d : Int)) 255)) (zNd d + 21) j = _ ∧ _
        have hj4 : j = 0 ∨ j = 1 ∨ j = 2 ∨ j = 3 := by omega
        rcases hj4 with e | e | e | e
        · subst e
          rw [u_a_nj (by decide), u_a_nj (by decide), u_a_nj (by decide), u_a_eq, zev, zv_nj (by decide), zv_nj (by decide), zv_nj (by decide), show ((0 : Nat) : Int) = 0 from rfl, zv_eq]
          exact ⟨rfl, by decide, by decide⟩
        · subst e
          rw [u_a_nj (by decide), u_a_nj (by decide), u_a_eq, zev, zv_nj (by decide), zv_nj (by decide), show ((1 : Nat) : Int) = 1 from rfl, zv_eq]
          exact ⟨rfl, by omega, by omega⟩
        · subst e
          rw [u_a_nj (by decide), u_a_eq, zev, zv_nj (by decide), show ((2 : Nat) : Int) = 2 from rfl, zv_eq]
          exact ⟨rfl, (z_and255 _).1, (z_and255 _).2⟩
        · subst e
          rw [u_a_eq, zev, show ((3 : Nat) : Int) = 3 from rfl, zv_eq]
          exact ⟨rfl, (z_and255 _).1, (z_and255 _).2⟩
      have key : ∃ v t, v = (if b + (4 + 7) / 8 ≤ 8 then zsnd (zsnW w (zNd d) s (d : Int)) (zPt d) hd b (s 212 (d : Int)) (8 + zo_rem (s 213 (d : Int)) 8) (zNd d + 21) 4 ((4 + 7) / 8) ((4 + 7) / 8) else zsnW w (zNd d) s (d : Int)) ∧ t = (if b + (4 + 7) / 8 ≤ 8 then zsR (zev s (d : Int)) (d : Int) b (s 212 (d : Int)) (8 + zo_rem (s 213 (d : Int)) 8) 4 ((4 + 7) / 8) ((4 + 7) / 8) else zev s (d : Int)) ∧ zJ0 B e own t v ∧ yFr own d w v ∧ yFs s t ∧ t 213 (d : Int) = s 213 (d : Int) ∧ ∀ i : Int, t 213 i = s 213 i := by
        have e0 : yFs s (zev s (d : Int)) := fun a _ h6 g1 g9 x => by
          rw [zev_o (fun e => h6 (by rw [e]; rfl)) g1 g9]
        by_cases c3 : b + (4 + 7) / 8 ≤ 8
        · refine ⟨_, _, rfl, rfl, ?_⟩
          rw [if_pos c3, if_pos c3]
          have js := zJ_send J2 (d := d) (hd := hd) (b := b) (src := zNd d + 21) (n := 4) (q := (4 + 7) / 8) (to := s 212 (d : Int)) (kd := 8 + zo_rem (s 213 (d : Int)) 8) h7 hde (by rw [zev_o (by decide) (by decide) (by decide)]; exact hlive) ((f2 25 (by decide) _).trans q3) ((f2 23 (by decide) _).trans q4) q1 rfl c3 (by omega) r6 (by omega) (fun i hi => by have := zPt_Nd h7; have := zNd_c h7; omega) (fun j hj => (hcn j hj).1) (fun j j1 j2 => by
            obtain ⟨m, hm⟩ : ∃ m : Nat, j = (m : Int) := ⟨j.toNat, by omega⟩
            subst hm
            exact (hcn m (by omega)).2) ((4 + 7) / 8) (Nat.le_refl _)
          refine ⟨js.1, yFr.tr F2 (zsnd_fr h7 _), fun a h3 h6 g1 g9 x => ?_, ?_, fun i => ?_⟩
          · rw [zsR_o (fun e => h3 (by rw [e]; rfl)) (fun e => h3 (by rw [e]; rfl))]
            exact e0 a h3 h6 g1 g9 x
          · rw [zsR_o (by decide) (by decide), zev_o (by decide) (by decide) (by decide)]
          · rw [zsR_o (by decide) (by decide), zev_o (by decide) (by decide) (by decide)]
        · refine ⟨_, _, rfl, rfl, ?_⟩
          rw [if_neg c3, if_neg c3]
          exact ⟨J2, F2, e0, zev_o (by decide) (by decide) (by decide), fun i => zev_o (by decide) (by decide) (by decide)⟩
      obtain ⟨v, t, hv, ht, J3, F3, E3, t213, t213a⟩ := key
      refine ⟨zsf v 39 (zNd d) (s 213 (d : Int) + 1), zv t 213 (d : Int) (s 213 (d : Int) + 1), fun Q => ?_, fun c Q hc => ?_, ?_, ?_, ?_⟩
      · rw [hv]
        exact m_148_send n1 a1 a2 a3 a4 a5 a6 a7 r1 r2 r3 r4 r5 c1 c2 r6 n2 n3 n4 n5 (zPO_at hb h.1 (by omega)) q3 q4 q1 (by omega)
      · rw [ht]
        exact m_38_send hc (by omega) r1 r2 r3 r4 r5 c1 c2 r6 q5 (by omega)
      · refine zJ_S J3 (zsf_df6 rfl rfl) ⟨gS_put J3.2.2.2.2.2.2.1.1 h7 h1 (by omega), fun i i1 i2 => ?_⟩
        obtain ⟨b1, b2, b3, b4, b5, b6, b7, b8⟩ := J3.2.2.2.2.2.2.1.2 i i1 i2
        rw [zv_ne (b := 207) (by decide), zv_ne (b := 208) (by decide), zv_ne (b := 209) (by decide), zv_ne (b := 210) (by decide), zv_ne (b := 211) (by decide), zv_ne (b := 212) (by decide)]
        refine ⟨b1, b2, b3, b4, b5, b6, ?_, fun j j1 j2 => ?_⟩
        · by_cases e1 : i = (d : Int)
          · subst e1
            rw [zv_eq]
            omega
          · rw [zv_nj e1]
            omega
        · rw [zv_ne (by decide)]
          exact b8 j j1 j2
      · exact yFr.tr F3 ⟨⟨rfl, rfl, rfl⟩, fun f g h6 _ => u_f_ne (fun e => h6 (by rw [e]; rfl)), fun _ _ _ _ _ => rfl⟩
      · intro a h3 h6 g1 g9 x
        rw [zv_ne (fun e => h6 (by rw [e]; rfl))]
        exact E3 a h3 h6 g1 g9 x
