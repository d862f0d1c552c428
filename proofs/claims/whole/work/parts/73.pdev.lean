-- both sides together: a device answers a message
theorem yBase {L : Nat} {xs : Nat → Int} {own : Nat → Nat} {d : Nat} {w v : zW} (hb : zBase L xs w) (h : yFr own d w v) : zBase L xs v := by
  obtain ⟨⟨s1, s2, s3⟩, s4, s5⟩ := hb
  have hd : zNd d ≠ 0 := by
    unfold zNd
    repeat' split
    all_goals omega
  exact ⟨⟨by rw [h.1.k]; exact s1, by rw [h.1.l]; exact s2, fun j => by rw [h.2.2 0 (by show (0 : Nat) ≠ 6; decide) (Or.inl (by show (0 : Nat) ≠ 3; decide)) (by omega)]; exact s3 j⟩, by rw [h.1.n]; exact s4, fun e he => by rw [h.1.k, h.1.l]; exact s5 e he⟩
theorem z_i2s {v : Int} (h0 : 0 ≤ v) (h1 : v ≤ 65535) : zo_i2s v = if v ≤ 32767 then v else v - 65536 := by
  unfold zo_i2s zI
  rw [Int16.toInt_toInt32, Int32.toInt_toInt16, show (Int32.ofInt v).toInt = v from zN_of (by omega) (by omega)]
  rw [Int.bmod_def]
  split <;> split <;> omega
theorem z_tw {x y : Int} (hx : 0 ≤ x ∧ x ≤ 255) (hy : 0 ≤ y ∧ y ≤ 255) : zo_i2s (x * 256 + y) = ztw x y := by
  rw [z_i2s (by omega) (by omega), ztw, show x * 256 + y = 256 * x + y by omega]
theorem ztw_r {x y : Int} (hx : 0 ≤ x ∧ x ≤ 255) (hy : 0 ≤ y ∧ y ≤ 255) : -32768 ≤ ztw x y ∧ ztw x y ≤ 32767 := by
  unfold ztw
  split <;> omega
theorem zsa_df0 {own : Nat → Nat} {s t : zSt} {w : zW} {h j : Nat} {x : Int} (ha : ag own h = 0) (ht : ∀ a, sg a ≠ 0 → ∀ y, t a y = s a y) : zDf 0 own w (zsa w h j x) s t :=
  ⟨rfl, fun _ _ _ => rfl, rfl, fun g hg k => u_a_ne (fun e => hg (by rw [e]; exact ha)), rfl, ht⟩
theorem zst_df0 {own : Nat → Nat} {s t : zSt} {w : zW} (ht : ∀ a, sg a ≠ 0 → ∀ y, t a y = s a y) : zDf 0 own w w s t := ⟨rfl, fun _ _ _ => rfl, rfl, fun _ _ _ => rfl, rfl, ht⟩
theorem P_reply {L : Nat} {xs : Nat → Int} {B : Int} {e : Nat} {own : Nat → Nat} {s : zSt} {w : zW} (hb : zBase L xs w) (h : zJ0 B e own s w) {d hh kd n : Nat} {f X cm : Int} {l3 l4 l5 l6 l7 l8 : Option zV} (h1 : 1 ≤ d) (h7 : d < 7) (hde : d ≠ e) (hlive : 0 ≤ s 195 (d : Int)) (k9 : zk w hh = 9) (f58 : zf w 58 hh = f) (f59 : zf w 59 hh = (kd : Int)) (hk15 : kd < 16) (h8 : 8 ≤ kd) (rf : 0 ≤ f ∧ f ≤ 63) (hn : s 111 0 = (n : Int)) (hn1 : 1 ≤ n) (hn32 : n ≤ 32) (hX : s 229 0 = X)
    (hcm : (cm = 0 ∧ X = 255) ∨ (1 ≤ cm ∧ cm ≤ 5 ∧ 128 + cm = X)) (hcn : ∀ j : Nat, 1 ≤ j → j < n → za w (zNd d + 21) j = s 229 (j : Int)) (rb : ∀ j : Int, 0 ≤ j → j < n → 0 ≤ s 229 j ∧ s 229 j ≤ 255) :
    ∃ v t, (∀ Q, zR 150 136 [some (.inr (some (zNd d))), some (.inr (some hh)), some (.inl cm), l3, some (.inl (n : Int))] [] w Q = Q none v) ∧ (∀ c Q, zKR c → zR 40 413 [some (.inr (some 194)), some (.inl (d : Int)), some (.inl f), some (.inl ((kd : Int) - 8)), l4, l5, l6, l7, l8] [] (zmk c s) Q = Q none (zmk c t)) ∧ zJ0 B e own t v ∧ yFr own d w v ∧ yFs s t := by
  obtain ⟨n1, n2, n3, n4, n5, n6, n7, n8⟩ := zNd_all hb h.1 h1 h7
  obtain ⟨hd, b, q1, q2, q3, q4, q5, q6⟩ := h.2.2.2.1.1.1 d (by omega) hlive
  rw [if_neg hde] at q2 q4
  have q4 : zf w 23 (zPt d) = (b : Int) := q4
  have ek : ((kd % 8 : Nat) : Int) = (kd : Int) - 8 := by omega
  have J1 : zJ0 B e own s (zsa w (zNd d + 21) 0 X) := zJ_0 h (zsa_df0 (ag_let d h1 h7) (fun _ _ _ => rfl))
  have F1 : yFr own d w (zsa w (zNd d + 21) 0 X) := ⟨⟨rfl, rfl, rfl⟩, fun _ _ _ _ => rfl, fun g _ _ hne j => u_a_ne hne⟩
  have hc1 : ∀ j : Nat, j < n → za (zsa w (zNd d + 21) 0 X) (zNd d + 21) j = s 229 (j : Int) := fun j hj => by
    by_cases e0 : j = 0
    · subst e0
      rw [u_a_eq]
      exact hX.symm
    · rw [u_a_nj e0]
      exact hcn j (by omega) hj
  have hcl : ∀ Q, zR 150 136 [some (.inr (some (zNd d))), some (.inr (some hh)), some (.inl cm), l3, some (.inl (n : Int))] [] w Q = Q none (if b + (n + 7) / 8 ≤ 8 then zsnd (zsa w (zNd d + 21) 0 X) (zPt d) hd b f ((kd : Int) - 8) (zNd d + 21) n ((n + 7) / 8) ((n + 7) / 8) else zsa w (zNd d + 21) 0 X) := fun Q => by
    rw [← ek]
    rcases hcm with ⟨m1, m2⟩ | ⟨m1, m2, m3⟩
    · subst m1
      subst m2
      exact m_150_136a n1 n2 n3 n4 k9 f58 f59 hk15 n5 (zPO_at hb h.1 (by omega)) q3 q4 q1 (by omega) hn32
    · exact m_150_136b n1 n2 n3 n4 k9 f58 f59 hk15 n5 (zPO_at hb h.1 (by omega)) q3 q4 q1 (by omega) hn32 ⟨m1, m2⟩ m3
  have hrf : ∀ c Q, zKR c → zR 40 413 [some (.inr (some 194)), some (.inl (d : Int)), some (.inl f), some (.inl ((kd : Int) - 8)), l4, l5, l6, l7, l8] [] (zmk c s) Q = Q none (zmk c (if b + (n + 7) / 8 ≤ 8 then zsR s (d : Int) b f ((kd : Int) - 8) n ((n + 7) / 8) ((n + 7) / 8) else s)) := fun c Q hc => m_40_413 hc (by omega) hn hn32 q5 (by omega)
  by_cases c3 : b + (n + 7) / 8 ≤ 8
  · refine ⟨_, _, hcl, hrf, ?_⟩
    rw [if_pos c3, if_pos c3]
    have js := zJ_send J1 (d := d) (hd := hd) (b := b) (src := zNd d + 21) (n := n) (q := (n + 7) / 8) (to := f) (kd := (kd : Int) - 8) h7 hde hlive q3 q4 q1 rfl c3 hn32 (by omega) (by omega) (fun i hi => by have := zPt_Nd h7; have := zNd_c h7; omega) hc1 rb ((n + 7) / 8) (Nat.le_refl _)
    exact ⟨js.1, yFr.tr F1 (zsnd_fr h7 _), fun a h3 h6 _ _ x => zsR_o (fun e => h3 (by rw [e]; rfl)) (fun e => h3 (by rw [e]; rfl)) _⟩
  · refine ⟨_, _, hcl, hrf, ?_⟩
    rw [if_neg c3, if_neg c3]
    exact ⟨J1, F1, fun _ _ _ _ _ _ => rfl⟩
-- from the beginning: what came before the end is put in front
theorem P_fin {L : Nat} {xs : Nat → Int} {B : Int} {e d : Nat} {own : Nat → Nat} {s s1 : zSt} {w w1 : zW} (hb : zBase L xs w) (hF : yFr own d w w1) (hE : yFs s s1) (h : zJ0 B e own s1 w1) {hh kd n : Nat} {f X cm : Int} {l3 l4 l5 l6 l7 l8 : Option zV} (h1 : 1 ≤ d) (h7 : d < 7) (hde : d ≠ e) (hlive : 0 ≤ s 195 (d : Int)) (k9 : zk w hh = 9) (f58 : zf w 58 hh = f) (f59 : zf w 59 hh = (kd : Int)) (hk15 : kd < 16) (h8 : 8 ≤ kd) (rf : 0 ≤ f ∧ f ≤ 63) (hn : s1 111 0 = (n : Int)) (hn1 : 1 ≤ n) (hn32 : n ≤ 32) (hX : s1 229 0 = X)
    (hcm : (cm = 0 ∧ X = 255) ∨ (1 ≤ cm ∧ cm ≤ 5 ∧ 128 + cm = X)) (hcn : ∀ j : Nat, 1 ≤ j → j < n → za w1 (zNd d + 21) j = s1 229 (j : Int)) (rb : ∀ j : Int, 0 ≤ j → j < n → 0 ≤ s1 229 j ∧ s1 229 j ≤ 255)
    (hcl : ∀ Q, zR 150 0 [some (.inr (some (zNd d))), some (.inr (some hh)), none, none, none] [] w Q = zR 150 136 [some (.inr (some (zNd d))), some (.inr (some hh)), some (.inl cm), l3, some (.inl (n : Int))] [] w1 Q)
    (hrf : ∀ c Q, zKR c → zR 40 0 [some (.inr (some 194)), some (.inl (d : Int)), some (.inl f), some (.inl ((kd : Int) - 8)), none, none, none, none, none] [] (zmk c s) Q = zR 40 413 [some (.inr (some 194)), some (.inl (d : Int)), some (.inl f), some (.inl ((kd : Int) - 8)), l4, l5, l6, l7, l8] [] (zmk c s1) Q) :
    ∃ v t, (∀ Q, zR 150 0 [some (.inr (some (zNd d))), some (.inr (some hh)), none, none, none] [] w Q = Q none v) ∧ (∀ c Q, zKR c → zR 41 0 [some (.inr (some 194)), some (.inl (d : Int)), some (.inl f), some (.inl (kd : Int)), none] [] (zmk c s) Q = Q none (zmk c t)) ∧ zJ0 B e own t v ∧ yFr own d w v ∧ yFs s t := by
  obtain ⟨v, t, c1, c2, c3, c4, c5⟩ := P_reply (l3 := l3) (l4 := l4) (l5 := l5) (l6 := l6) (l7 := l7) (l8 := l8) (yBase hb hF) h h1 h7 hde (by rw [hE 195 (by decide) (by decide) (by decide) (by decide)]; exact hlive) (by rw [hF.1.k]; exact k9) ((hF.2.1 58 hh (by decide) (Or.inl (by decide))).trans f58) ((hF.2.1 59 hh (by decide) (Or.inl (by decide))).trans f59) hk15 h8 rf hn hn1 hn32 hX hcm hcn rb
  refine ⟨v, t, fun Q => (hcl Q).trans (c1 Q), fun c Q hc => ?_, c3, yFr.tr hF c4, yFs.tr hE c5⟩
  exact m_41_dev hc (by omega) (by omega) (by omega) (fun Q => (hrf c Q hc).trans (c2 c Q hc))
theorem zFs_t {s t : zSt} (h : ∀ a, a ≠ 111 → a ≠ 229 → ∀ x, t a x = s a x) : yFs s t := fun a _ _ h1 h9 x => h a h1 h9 x
theorem zF0_t {s t : zSt} (h : ∀ a, a ≠ 111 → a ≠ 229 → ∀ x, t a x = s a x) : ∀ a, sg a ≠ 0 → ∀ x, t a x = s a x := fun a h0 x => h a (fun q => h0 (by rw [q]; rfl)) (fun q => h0 (by rw [q]; rfl)) x
theorem gS_blk {s : zSt} {w : zW} {own : Nat → Nat} {d a m src sp : Nat} (h : gS s w) (h1 : 1 ≤ d) (h7 : d < 7) (ham : a + m ≤ 24) {g : Int → Int} (hc : ∀ j : Nat, j < m → za w src (sp + j) = g (j : Int)) : gS (zpt s 214 (24 * (d : Int) + (a : Int)) (m : Int) (fun x => g (x - (24 * (d : Int) + (a : Int))))) (zcp w src sp (zNd d + 20) a m) := by
  intro i i1 i2
  obtain ⟨a1, a2, a3, a4, a5, a6, a7, a8⟩ := h i i1 i2
  rw [zpt_ne (by decide), zpt_ne (by decide), zpt_ne (by decide), zpt_ne (by decide), zpt_ne (by decide), zpt_ne (by decide), zpt_ne (by decide)]
  refine ⟨a1, a2, a3, a4, a5, a6, a7, fun j hj => ?_⟩
  have hi := zNd_c i2
  have hd := zNd_c h7
  by_cases e1 : i = d
  · subst e1
    by_cases e2 : a ≤ j ∧ j < a + m
    · rw [u_a_cpi e2, zpt_i (by omega) (by omega), hc (j - a) (by omega)]
      congr 1
      omega
    · rw [u_a_cpo e2, zpt_o (by omega)]
      exact a8 j hj
  · rw [u_a_cp (by omega), zpt_o (by omega)]
    exact a8 j hj
theorem iS_put {B B2 : Int} {s : zSt} {a : Nat} {j x : Int} (h : iS B s) (hB : B ≤ B2) (h7 : a = 207 → -32768 ≤ x ∧ x ≤ 32767) (h8 : a = 208 → -32768 ≤ x ∧ x ≤ 32767) (h9 : a = 209 → -32768 ≤ x ∧ x ≤ 32767) (h10 : a = 210 → 0 ≤ x ∧ x ≤ 255) (h11 : a = 211 → 0 ≤ x ∧ x ≤ 2) (h12 : a = 212 → 0 ≤ x ∧ x ≤ 255) (h13 : a = 213 → 0 ≤ x ∧ x ≤ B2) (h14 : a ≠ 214) : iS B2 (zv s a j x) := by
  intro d d1 d2
  obtain ⟨b1, b2, b3, b4, b5, b6, b7, b8⟩ := h d d1 d2
  have key : ∀ (c : Nat) (lo hi : Int), (lo ≤ s c d ∧ s c d ≤ hi) → (a = c → lo ≤ x ∧ x ≤ hi) → lo ≤ zv s a j x c d ∧ zv s a j x c d ≤ hi := by
    intro c lo hi hc hx
    by_cases e1 : c = a
    · subst e1
      by_cases e2 : d = j
      · subst e2
        rw [zv_eq]
        exact hx rfl
      · rw [zv_nj e2]
        exact hc
    · rw [zv_ne e1]
      exact hc
  refine ⟨key 207 _ _ b1 h7, key 208 _ _ b2 h8, key 209 _ _ b3 h9, key 210 _ _ b4 h10, key 211 _ _ b5 h11, key 212 _ _ b6 h12, key 213 _ _ ⟨b7.1, by omega⟩ h13, fun i i1 i2 => ?_⟩
  rw [zv_ne (Ne.symm h14)]
  exact b8 i i1 i2
theorem zJ_Sput {B B2 : Int} {e : Nat} {own : Nat → Nat} {s : zSt} {w : zW} {d f a : Nat} {x : Int} (h : zJ0 B e own s w) (h1 : 1 ≤ d) (h7 : d < 7) (hB : B ≤ B2) (hfa : (f = 32 ∧ a = 207) ∨ (f = 33 ∧ a = 211) ∨ (f = 34 ∧ a = 208) ∨ (f = 35 ∧ a = 209) ∨ (f = 36 ∧ a = 210) ∨ (f = 38 ∧ a = 212) ∨ (f = 39 ∧ a = 213)) (r7 : a = 207 → -32768 ≤ x ∧ x ≤ 32767) (r8 : a = 208 → -32768 ≤ x ∧ x ≤ 32767) (r9 : a = 209 → -32768 ≤ x ∧ x ≤ 32767) (r10 : a = 210 → 0 ≤ x ∧ x ≤ 255) (r11 : a = 211 → 0 ≤ x ∧ x ≤ 2) (r12 : a = 212 → 0 ≤ x ∧ x ≤ 255) (r13 : a = 213 → 0 ≤ x ∧ x ≤ B2) : zJ0 B2 e own (zv s a (d : Int) x) (zsf w f (zNd d) x) := by
  refine zJ_S h (zsf_df6 ?_ ?_) ⟨gS_put h.2.2.2.2.2.2.1.1 h7 h1 hfa, iS_put h.2.2.2.2.2.2.1.2 hB r7 r8 r9 r10 r11 r12 r13 (by omega)⟩
  · rcases hfa with e | e | e | e | e | e | e <;> rw [e.1] <;> rfl
  · rcases hfa with e | e | e | e | e | e | e <;> rw [e.2] <;> rfl
theorem yFr_sf6 {own : Nat → Nat} {d g f : Nat} {w : zW} {x : Int} (hf : fg f = 6) : yFr own d w (zsf w f g x) := ⟨⟨rfl, rfl, rfl⟩, fun f2 h h6 _ => u_f_ne (fun e => h6 (by rw [e]; exact hf)), fun _ _ _ _ _ => rfl⟩
set_option maxHeartbeats 1000000 in
theorem P_dev {L : Nat} {xs : Nat → Int} {B : Int} {e : Nat} {own : Nat → Nat} {s : zSt} {w : zW} (hb : zBase L xs w) (h : zJ0 B e own s w) {d hh kd n : Nat} {f : Int} (h1 : 1 ≤ d) (h7 : d < 7) (hde : d ≠ e) (hlive : 0 ≤ s 195 (d : Int)) (k9 : zk w hh = 9) (p61 : zp w 61 hh = some (hh + 1)) (kb : zk w (hh + 1) = 12) (lb : zl w (hh + 1) = 32) (f58 : zf w 58 hh = f) (f59 : zf w 59 hh = (kd : Int)) (hk15 : kd < 16) (f60 : zf w 60 hh = (n : Int)) (hn1 : 1 ≤ n) (hn32 : n ≤ 32) (hown : own (hh + 1) < 448) (h239 : 239 < hh) (rf : 0 ≤ f ∧ f ≤ 63) (hs : s 111 0 = (n : Int)) (hcn : ∀ j : Nat, j < n → za w (hh + 1) j = s 229 (j : Int)) (rb : ∀ j : Int, 0 ≤ j → j < n → 0 ≤ s 229 j ∧ s 229 j ≤ 255) (hB : B < 1999999999) :
    ∃ v t, (∀ Q, zR 150 0 [some (.inr (some (zNd d))), some (.inr (some hh)), none, none, none] [] w Q = Q none v) ∧ (∀ c Q, zKR c → zR 41 0 [some (.inr (some 194)), some (.inl (d : Int)), some (.inl f), some (.inl (kd : Int)), none] [] (zmk c s) Q = Q none (zmk c t)) ∧ zJ0 (B + 1) e own t v ∧ yFr own d w v ∧ yFs s t := by
  by_cases h8 : kd < 8
  · exact ⟨w, s, fun Q => m_150_ans k9 f59 hk15 h8, fun c Q hc => m_41_devn hc (by omega) (by omega) (by omega), zJ_mono h (by omega), yFr.rf, fun _ _ _ _ _ _ => rfl⟩
  have h8 : 8 ≤ kd := by omega
  have up : (∃ v t, (∀ Q, zR 150 0 [some (.inr (some (zNd d))), some (.inr (some hh)), none, none, none] [] w Q = Q none v) ∧ (∀ c Q, zKR c → zR 41 0 [some (.inr (some 194)), some (.inl (d : Int)), some (.inl f), some (.inl (kd : Int)), none] [] (zmk c s) Q = Q none (zmk c t)) ∧ zJ0 B e own t v ∧ yFr own d w v ∧ yFs s t) → ∃ v t, (∀ Q, zR 150 0 [some (.inr (some (zNd d))), some (.inr (some hh)), none, none, none] [] w Q = Q none v) ∧ (∀ c Q, zKR c → zR 41 0 [some (.inr (some 194)), some (.inl (d : Int)), some (.inl f), some (.inl (kd : Int)), none] [] (zmk c s) Q = Q none (zmk c t)) ∧ zJ0 (B + 1) e own t v ∧ yFr own d w v ∧ yFs s t := by
    rintro ⟨v, t, c1, c2, c3, c4, c5⟩
    exact ⟨v, t, c1, c2, zJ_mono c3 (by omega), c4, c5⟩
  obtain ⟨n1, n2, n3, n4, n5, n6, n7, n8⟩ := zNd_all hb h.1 h1 h7
  obtain ⟨a1, a2, a3, a4, a5, a6, a7, a8⟩ := h.2.2.2.2.2.2.1.1 d h1 h7
  obtain ⟨r1, r2, r3, r4, r5, r6, r7, r8⟩ := h.2.2.2.2.2.2.1.2 (d : Int) (by omega) (by omega)
  have x0e : za w (hh + 1) 0 = s 229 0 := hcn 0 (by omega)
  have rx := rb 0 (by omega) (by omega)
  have e0 : ∀ a, a ≠ 111 → ∀ x, zv s 111 0 1 a x = s a x := fun a ha x => zv_ne ha
  have J0 : zJ0 B e own (zv s 111 0 1) w := zJ_0 h (zst_df0 (zF0_t (fun a g1 _ x => e0 a g1 x)))
  have hgh : zNd d + 21 ≠ hh + 1 := by have := zNd_c h7; omega
  by_cases c1 : s 229 0 = 1 ∧ n = 1
  · obtain ⟨c1a, c1b⟩ := c1
    subst c1b
    have hcmd : ∀ Q, zR 151 0 [some (.inr (some hh)), none, none, none, none] [] w Q = Q (some (.inl 1)) w := fun Q => m_151_1 k9 p61 kb lb x0e rfl rfl f60 (by omega) c1a rfl
    have z1 : zs4 (zv s 111 0 1) (d : Int) 111 0 = 4 := by rw [zs4, zv_ne (by decide), zv_ne (by decide), zv_ne (by decide), zv_ne (by decide), zv_eq]
    have z2 : zs4 (zv s 111 0 1) (d : Int) 229 0 = 129 := by rw [zs4, zv_nj (by decide), zv_nj (by decide), zv_nj (by decide), zv_eq]
    have z3 : zs4 (zv s 111 0 1) (d : Int) 229 1 = s 211 (d : Int) := by rw [zs4, zv_nj (by decide), zv_nj (by decide), zv_eq, zv_ne (by decide)]
    have z4 : zs4 (zv s 111 0 1) (d : Int) 229 2 = zo_and (zo_shr (s 207 (d : Int)) 8) 255 := by rw [zs4, zv_nj (by decide), zv_eq, zv_ne (by decide)]
    have z5 : zs4 (zv s 111 0 1) (d : Int) 229 3 = zo_and (s 207 (d : Int)) 255 := by rw [zs4, zv_eq, zv_ne (by decide)]
    have zo : ∀ a, a ≠ 111 → a ≠ 229 → ∀ x, zs4 (zv s 111 0 1) (d : Int) a x = s a x := fun a g1 g9 x => by
      rw [zs4, zv_ne g9, zv_ne g9, zv_ne g9, zv_ne g9, zv_ne g1, e0 a g1]
    have wa : ∀ g j, g ≠ zNd d + 21 → za (zwst w (zNd d) (s 211 (d : Int)) (s 207 (d : Int))) g j = za w g j := fun g j hne => by
      show za (zsa (zsa (zsa w (zNd d + 21) 1 _) (zNd d + 21) 2 _) (zNd d + 21) 3 _) g j = _
      rw [u_a_ne hne, u_a_ne hne, u_a_ne hne]
    have F1 : yFr own d w (zwst w (zNd d) (s 211 (d : Int)) (s 207 (d : Int))) := ⟨⟨rfl, rfl, rfl⟩, fun _ _ _ _ => rfl, fun g _ _ hne j => wa g j hne⟩
    have J1 : zJ0 B e own (zs4 (zv s 111 0 1) (d : Int)) (zwst w (zNd d) (s 211 (d : Int)) (s 207 (d : Int))) := zJ_0 h ⟨rfl, fun _ _ _ => rfl, rfl, fun g hg j => wa g j (fun q => hg (by rw [q]; exact ag_let d h1 h7)), rfl, zF0_t zo⟩
    refine up (P_fin (n := 4) (X := 129) (cm := 1) hb F1 (zFs_t zo) J1 h1 h7 hde hlive k9 f58 f59 hk15 h8 rf z1 (by omega) (by omega) z2 (Or.inr ⟨by decide, by decide, by decide⟩) (fun j j1 j2 => ?_) (fun j j1 j2 => ?_) (fun Q => m_150_c1 n1 k9 p61 f59 hk15 h8 n2 n3 n4 a2 a1 hcmd) (fun c Q hc => (m_40_short hc c1a hs (by omega)).trans (m_40_c1 hc (by omega))))
    · show za (zsa (zsa (zsa w (zNd d + 21) 1 (s 211 (d : Int))) (zNd d + 21) 2 (zo_and (zo_shr (s 207 (d : Int)) 8) 255)) (zNd d + 21) 3 (zo_and (s 207 (d : Int)) 255)) (zNd d + 21) j = _
      have hj : j = 1 ∨ j = 2 ∨ j = 3 := by omega
      rcases hj with q | q | q
      · subst q
        rw [u_a_nj (by decide), u_a_nj (by decide), u_a_eq]
        exact z3.symm
      · subst q
        rw [u_a_nj (by decide), u_a_eq]
        exact z4.symm
      · subst q
        rw [u_a_eq]
        exact z5.symm
    · have hj : j = 0 ∨ j = 1 ∨ j = 2 ∨ j = 3 := by omega
      rcases hj with q | q | q | q
      · rw [q, z2]; omega
      · rw [q, z3]; omega
      · rw [q, z4]; exact z_and255 _
      · rw [q, z5]; exact z_and255 _
  by_cases c2 : s 229 0 = 2 ∧ n = 6
  · obtain ⟨c2a, c2b⟩ := c2
    subst c2b
    have b1 := rb 1 (by omega) (by omega)
    have b2 := rb 2 (by omega) (by omega)
    have b3 := rb 3 (by omega) (by omega)
    have b4 := rb 4 (by omega) (by omega)
    have b5 := rb 5 (by omega) (by omega)
    have hcmd : ∀ Q, zR 151 0 [some (.inr (some hh)), none, none, none, none] [] w Q = Q (some (.inl 2)) w := fun Q => m_151_2 k9 p61 kb lb x0e rfl rfl f60 (by omega) c2a rfl
    have J3 : zJ0 B e own (zbd (zv s 111 0 1) (d : Int) (s 229 1) (s 229 2) (s 229 3) (s 229 4) (s 229 5)) (zsbW w (zNd d) (s 229 1) (s 229 2) (s 229 3) (s 229 4) (s 229 5)) := by
      rw [zsbW, zbd, z_tw b1 b2, z_tw b3 b4]
      have t1 := ztw_r b1 b2
      have t2 := ztw_r b3 b4
      exact zJ_Sput (zJ_Sput (zJ_Sput J0 h1 h7 (Int.le_refl _) (by omega) (by omega) (by omega) (by omega) (by omega) (by omega) (by omega) (by omega)) h1 h7 (Int.le_refl _) (by omega) (by omega) (by omega) (by omega) (by omega) (by omega) (by omega) (by omega)) h1 h7 (Int.le_refl _) (by omega) (by omega) (by omega) (by omega) (by omega) (by omega) (by omega) (by omega)
    have F3 : yFr own d w (zsbW w (zNd d) (s 229 1) (s 229 2) (s 229 3) (s 229 4) (s 229 5)) := yFr.tr (yFr.tr (yFr_sf6 rfl) (yFr_sf6 rfl)) (yFr_sf6 rfl)
    have E3 : yFs s (zbd (zv s 111 0 1) (d : Int) (s 229 1) (s 229 2) (s 229 3) (s 229 4) (s 229 5)) := fun a _ h6 g1 _ x => by
      rw [zbd, zv_ne (fun q => h6 (by rw [q]; rfl)), zv_ne (fun q => h6 (by rw [q]; rfl)), zv_ne (fun q => h6 (by rw [q]; rfl)), e0 a g1]
    obtain ⟨v2, t2, p1, p2, p3, p4, p5⟩ := P_senses (yBase hb F3) J3 h1 h7 hde (by rw [E3 195 (by decide) (by decide) (by decide) (by decide)]; exact hlive) (by omega)
    have zo : ∀ a, a ≠ 111 → a ≠ 229 → ∀ x, zv (zv t2 111 0 1) 229 0 130 a x = t2 a x := fun a g1 g9 x => by
      rw [zv_ne g9, zv_ne g1]
    refine P_fin (n := 1) (X := 130) (cm := 2) hb (yFr.tr F3 p4) (yFs.tr E3 (yFs.tr p5 (zFs_t zo))) (zJ_0 p3 (zst_df0 (zF0_t zo))) h1 h7 hde hlive k9 f58 f59 hk15 h8 rf (by rw [zv_ne (by decide), zv_eq]; rfl) (by omega) (by omega) zv_eq (Or.inr ⟨by decide, by decide, by decide⟩) (fun j j1 j2 => by omega) (fun j j1 j2 => ?_) (fun Q => m_150_c2 n1 k9 p61 f59 hk15 h8 kb lb (hcn 1 (by omega)) (hcn 2 (by omega)) (hcn 3 (by omega)) (hcn 4 (by omega)) (hcn 5 (by omega)) hcmd p1) (fun c Q hc => (m_40_long hc c2a hs (by omega) rfl).trans (m_40_c2 hc (by omega) (zv_ne (by decide)) (zv_ne (by decide)) (zv_ne (by decide)) (zv_ne (by decide)) (zv_ne (by decide)) b1 b2 b3 b4 (fun Q => p2 c Q hc)))
    rw [show j = 0 by omega, zv_eq]
    omega
  by_cases c3 : s 229 0 = 3 ∧ n = 2
  · obtain ⟨c3a, c3b⟩ := c3
    subst c3b
    have b1 := rb 1 (by omega) (by omega)
    have hcmd : ∀ Q, zR 151 0 [some (.inr (some hh)), none, none, none, none] [] w Q = Q (some (.inl 3)) w := fun Q => m_151_3 k9 p61 kb lb x0e rfl rfl f60 (by omega) c3a rfl
    have J3 : zJ0 B e own (zv (zv s 111 0 1) 212 (d : Int) (s 229 1)) (zsf w 38 (zNd d) (s 229 1)) := zJ_Sput J0 h1 h7 (Int.le_refl _) (by omega) (by omega) (by omega) (by omega) (by omega) (by omega) (by omega) (by omega)
    have zo : ∀ a, a ≠ 111 → a ≠ 229 → ∀ x, zv (zv (zv s 111 0 1) 212 (d : Int) (s 229 1)) 229 0 131 a x = zv (zv s 111 0 1) 212 (d : Int) (s 229 1) a x := fun a _ g9 x => zv_ne g9
    refine up (P_fin (n := 1) (X := 131) (cm := 3) hb (yFr_sf6 rfl) (fun a _ k6 g1 g9 x => ?_) (zJ_0 J3 (zst_df0 (zF0_t zo))) h1 h7 hde hlive k9 f58 f59 hk15 h8 rf (by rw [zv_ne (by decide), zv_ne (by decide), zv_eq]; rfl) (by omega) (by omega) zv_eq (Or.inr ⟨by decide, by decide, by decide⟩) (fun j j1 j2 => by omega) (fun j j1 j2 => ?_) (fun Q => m_150_c3 n1 k9 p61 f59 hk15 h8 kb lb (hcn 1 (by omega)) hcmd) (fun c Q hc => (m_40_long hc c3a hs (by omega) rfl).trans (m_40_c3 hc (by omega))))
    · rw [zo a g1 g9, zv_ne (fun q => k6 (by rw [q]; rfl)), e0 a g1]
    · rw [show j = 0 by omega, zv_eq]
      omega
  by_cases c4 : s 229 0 = 4 ∧ n = 3 ∧ 1 ≤ s 229 2 ∧ s 229 1 + s 229 2 ≤ 24
  · obtain ⟨c4a, c4b, c4c, c4d⟩ := c4
    subst c4b
    have b1 := rb 1 (by omega) (by omega)
    have b2 := rb 2 (by omega) (by omega)
    obtain ⟨a, ha⟩ : ∃ a : Nat, s 229 1 = (a : Int) := ⟨(s 229 1).toNat, by omega⟩
    obtain ⟨m, hm⟩ : ∃ m : Nat, s 229 2 = (m : Int) := ⟨(s 229 2).toNat, by omega⟩
    have e1 : za w (hh + 1) 1 = (a : Int) := (hcn 1 (by omega)).trans ha
    have e2 : za w (hh + 1) 2 = (m : Int) := (hcn 2 (by omega)).trans hm
    have hcmd : ∀ Q, zR 151 0 [some (.inr (some hh)), none, none, none, none] [] w Q = Q (some (.inl 4)) w := fun Q => m_151_4 k9 p61 kb lb x0e e1 e2 f60 (by omega) (by omega) (by omega) c4a ⟨rfl, by omega, by omega⟩
    have zo : ∀ c, c ≠ 111 → c ≠ 229 → ∀ x, zc4 (zv s 111 0 1) (d : Int) (a : Int) (m : Int) c x = s c x := fun c g1 g9 x => by
      rw [zc4, zpt_ne g9, zv_ne g9, zv_ne g1, e0 c g1]
    have F1 : yFr own d w (zcp w (zNd d + 20) a (zNd d + 21) 1 m) := ⟨⟨rfl, rfl, rfl⟩, fun _ _ _ _ => rfl, fun g _ _ hne j => u_a_cp hne⟩
    have J1 : zJ0 B e own (zc4 (zv s 111 0 1) (d : Int) (a : Int) (m : Int)) (zcp w (zNd d + 20) a (zNd d + 21) 1 m) := zJ_0 h ⟨rfl, fun _ _ _ => rfl, rfl, fun g hg j => u_a_cp (fun q => hg (by rw [q]; exact ag_let d h1 h7)), rfl, zF0_t zo⟩
    have zj : ∀ j : Int, 1 ≤ j → j < 1 + (m : Int) → zc4 (zv s 111 0 1) (d : Int) (a : Int) (m : Int) 229 j = s 214 (24 * (d : Int) + ((a : Int) + (j - 1))) := fun j j1 j2 => by
      rw [zc4, zpt_i j1 j2, zv_ne (by decide), show 24 * (d : Int) + (a : Int) + (j - 1) = 24 * (d : Int) + ((a : Int) + (j - 1)) by omega]
    have z0 : zc4 (zv s 111 0 1) (d : Int) (a : Int) (m : Int) 229 0 = 132 := by rw [zc4, zpt_o (by omega), zv_eq]
    refine up (P_fin (n := 1 + m) (X := 132) (cm := 4) hb F1 (zFs_t zo) J1 h1 h7 hde hlive k9 f58 f59 hk15 h8 rf (by rw [zc4, zpt_ne (by decide), zv_ne (by decide), zv_eq]; omega) (by omega) (by omega) z0 (Or.inr ⟨by decide, by decide, by decide⟩) (fun j j1 j2 => ?_) (fun j j1 j2 => ?_) (fun Q => m_150_c4 n1 k9 p61 f59 hk15 h8 kb lb n2 n3 n4 n6 n7 n8 hgh e1 e2 (by omega) hcmd) (fun c Q hc => (m_40_long hc c4a hs (by omega) ha).trans (m_40_c4 hc (by omega) ((zv_ne (by decide)).trans hm) (by omega) (by omega) (by omega))))
    · rw [u_a_cpi ⟨j1, by omega⟩, a8 _ (by omega), zj _ (by omega) (by omega)]
      congr 1
      omega
    · by_cases q : j = 0
      · rw [q, z0]
        omega
      · rw [zj j (by omega) (by omega)]
        exact r8 _ (by omega) (by omega)
  by_cases c5 : s 229 0 = 5 ∧ 3 ≤ n ∧ s 229 1 + (n : Int) - 2 ≤ 24
  · obtain ⟨c5a, c5b, c5c⟩ := c5
    have b1 := rb 1 (by omega) (by omega)
    obtain ⟨a, ha⟩ : ∃ a : Nat, s 229 1 = (a : Int) := ⟨(s 229 1).toNat, by omega⟩
    obtain ⟨m, hm⟩ : ∃ m : Nat, n = m + 2 := ⟨n - 2, by omega⟩
    subst hm
    have e1 : za w (hh + 1) 1 = (a : Int) := (hcn 1 (by omega)).trans ha
    have hcmd : ∀ Q, zR 151 0 [some (.inr (some hh)), none, none, none, none] [] w Q = Q (some (.inl 5)) w := fun Q => m_151_5 k9 p61 kb lb x0e e1 rfl f60 (by omega) (by omega) c5a ⟨by omega, by omega⟩
    have em : (((m + 2 : Nat) : Int) - 2) = (m : Int) := by omega
    have J3 : zJ0 B e own (zpt (zv s 111 0 1) 214 (24 * (d : Int) + (a : Int)) (m : Int) (fun x => (fun y => s 229 (y + 2)) (x - (24 * (d : Int) + (a : Int))))) (zcp w (hh + 1) 2 (zNd d + 20) a m) := by
      refine zJ_S J0 ⟨rfl, fun _ _ _ => rfl, rfl, fun g hg j => u_a_cp (fun q => hg (by rw [q]; exact ag_bl d h1 h7)), rfl, fun c hc x => zpt_ne (fun q => hc (by rw [q]; rfl))⟩ ⟨gS_blk (own := own) (a := a) (m := m) (src := hh + 1) (sp := 2) (g := fun y => s 229 (y + 2)) J0.2.2.2.2.2.2.1.1 h1 h7 (by omega) (fun j hj => by rw [show 2 + j = j + 2 by omega]; exact hcn (j + 2) (by omega)), fun i i1 i2 => ?_⟩
      obtain ⟨y1, y2, y3, y4, y5, y6, y7, y8⟩ := J0.2.2.2.2.2.2.1.2 i i1 i2
      rw [zpt_ne (b := 207) (by decide), zpt_ne (b := 208) (by decide), zpt_ne (b := 209) (by decide), zpt_ne (b := 210) (by decide), zpt_ne (b := 211) (by decide), zpt_ne (b := 212) (by decide), zpt_ne (b := 213) (by decide)]
      refine ⟨y1, y2, y3, y4, y5, y6, y7, fun j j1 j2 => ?_⟩
      by_cases q : 24 * (d : Int) + (a : Int) ≤ 24 * i + j ∧ 24 * i + j < 24 * (d : Int) + (a : Int) + (m : Int)
      · rw [zpt_i q.1 q.2]
        exact rb _ (by omega) (by omega)
      · rw [zpt_o (by omega)]
        exact y8 j j1 j2
    have ez : zc5 (zv s 111 0 1) (d : Int) (a : Int) ((m + 2 : Nat) : Int) = zv (zpt (zv s 111 0 1) 214 (24 * (d : Int) + (a : Int)) (m : Int) (fun x => (fun y => s 229 (y + 2)) (x - (24 * (d : Int) + (a : Int))))) 229 0 133 := by
      rw [zc5, em, show (fun x => zv s 111 0 1 229 (x - (24 * (d : Int) + (a : Int)) + 2)) = (fun x => (fun y => s 229 (y + 2)) (x - (24 * (d : Int) + (a : Int)))) from funext fun x => zv_ne (by decide)]
    have zo : ∀ c, c ≠ 111 → c ≠ 229 → ∀ x, zc5 (zv s 111 0 1) (d : Int) (a : Int) ((m + 2 : Nat) : Int) c x = zpt (zv s 111 0 1) 214 (24 * (d : Int) + (a : Int)) (m : Int) (fun x => (fun y => s 229 (y + 2)) (x - (24 * (d : Int) + (a : Int)))) c x := fun c _ g9 x => by
      rw [ez, zv_ne g9]
    have F1 : yFr own d w (zcp w (hh + 1) 2 (zNd d + 20) a m) := ⟨⟨rfl, rfl, rfl⟩, fun _ _ _ _ => rfl, fun g k6 _ _ j => u_a_cp (fun q => k6 (by rw [q]; exact ag_bl d h1 h7))⟩
    refine up (P_fin (n := 1) (X := 133) (cm := 5) hb F1 (fun c _ k6 g1 g9 x => ?_) (zJ_0 J3 (zst_df0 (zF0_t zo))) h1 h7 hde hlive k9 f58 f59 hk15 h8 rf (by rw [ez, zv_ne (by decide), zpt_ne (by decide), zv_eq]; rfl) (by omega) (by omega) (by rw [ez, zv_eq]) (Or.inr ⟨by decide, by decide, by decide⟩) (fun j j1 j2 => by omega) (fun j j1 j2 => ?_) (fun Q => m_150_c5 n1 k9 p61 f59 hk15 h8 kb lb n6 n7 n8 e1 f60 (by omega) hcmd) (fun c Q hc => (m_40_long hc c5a hs (by omega) ha).trans (m_40_c5 hc (by omega) (by omega) (by omega) (by omega))))
    · rw [zo c g1 g9, zpt_ne (fun q => k6 (by rw [q]; rfl)), e0 c g1]
    · rw [show j = 0 by omega, ez, zv_eq]
      omega
  have hcmd : ∀ Q, zR 151 0 [some (.inr (some hh)), none, none, none, none] [] w Q = Q (some (.inl 0)) w := fun Q => by
    refine m_151_no k9 p61 kb lb x0e rfl rfl f60 (by omega) (fun q => c1 ⟨q.1, by omega⟩) (fun q => c2 ⟨q.1, by omega⟩) (fun q => c3 ⟨q.1, by omega⟩) (fun q => ?_) (fun q => ?_) rx (fun q => ?_) (fun q => ?_)
    · obtain ⟨q1, q2, q3, q4⟩ := q
      have g1 := hcn 1 (by omega)
      have g2 := hcn 2 (by omega)
      exact c4 ⟨q1, by omega, by rw [← show za w (hh + 1) 2 = s 229 2 from g2]; exact q3, by rw [← show za w (hh + 1) 2 = s 229 2 from g2, ← show za w (hh + 1) 1 = s 229 1 from g1]; exact q4⟩
    · obtain ⟨q1, q2, q3⟩ := q
      have g1 := hcn 1 (by omega)
      exact c5 ⟨q1, by omega, by rw [← show za w (hh + 1) 1 = s 229 1 from g1]; exact q3⟩
    · rw [show za w (hh + 1) 2 = s 229 2 from hcn 2 (by omega)]
      exact rb 2 (by omega) (by omega)
    · rw [show za w (hh + 1) 1 = s 229 1 from hcn 1 (by omega)]
      exact rb 1 (by omega) (by omega)
  have zo : ∀ a, a ≠ 111 → a ≠ 229 → ∀ x, zv (zv s 111 0 1) 229 0 255 a x = s a x := fun a g1 g9 x => by
    rw [zv_ne g9, e0 a g1]
  obtain ⟨A, hA⟩ : ∃ A : Int, ∀ c Q, zKR c → zR 40 0 [some (.inr (some 194)), some (.inl (d : Int)), some (.inl f), some (.inl ((kd : Int) - 8)), none, none, none, none, none] [] (zmk c s) Q = zR 40 413 [some (.inr (some 194)), some (.inl (d : Int)), some (.inl f), some (.inl ((kd : Int) - 8)), some (.inl (s 229 0)), some (.inl (n : Int)), some (.inl A), none, none] [] (zmk c (zv (zv s 111 0 1) 229 0 255)) Q := by
    by_cases q1 : n = 1
    · refine ⟨0, fun c Q hc => ?_⟩
      rw [m_40_short hc rfl hs (by omega), m_40_none hc (by omega) rfl rx (by omega) (by omega) (fun q => by omega) (fun q => c1 ⟨q.1, by omega⟩) (fun q => c2 ⟨q.1, by omega⟩) (fun q => c3 ⟨q.1, by omega⟩) (fun q => by omega) (fun q => by omega), m_40_404 hc]
    · refine ⟨s 229 1, fun c Q hc => ?_⟩
      have b1 := rb 1 (by omega) (by omega)
      rw [m_40_long hc rfl hs (by omega) rfl, m_40_none hc (by omega) (zv_ne (by decide)) rx (by omega) b1 (fun q => rb 2 (by omega) (by omega)) (fun q => c1 ⟨q.1, by omega⟩) (fun q => c2 ⟨q.1, by omega⟩) (fun q => c3 ⟨q.1, by omega⟩) (fun q => c4 ⟨q.1, by omega, q.2.2.1, q.2.2.2⟩) (fun q => c5 ⟨q.1, by omega, q.2.2⟩), m_40_404 hc]
  refine up (P_fin (n := 1) (X := 255) (cm := 0) hb yFr.rf (zFs_t zo) (zJ_0 h (zst_df0 (zF0_t zo))) h1 h7 hde hlive k9 f58 f59 hk15 h8 rf (by rw [zv_ne (by decide), zv_eq]; rfl) (by omega) (by omega) zv_eq (Or.inl ⟨rfl, rfl⟩) (fun j j1 j2 => by omega) (fun j j1 j2 => ?_) (fun Q => m_150_c0 n1 k9 p61 f59 hk15 h8 hcmd) hA)
  rw [show j = 0 by omega, zv_eq]
  omega
