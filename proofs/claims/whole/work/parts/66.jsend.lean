-- sending keeps the relation
theorem zsnd1_fh {u : zW} {p : Nat} {c t ep fl : Int} {pk src sp n f h : Nat} (h1 : h ≠ p) (h2 : h ≠ pk) : zf (zsnd1 u p c t ep fl pk src sp n) f h = zf u f h := by
  show zf (zsf (zsf (zsf (zsf (zsf u 23 p c) 26 pk t) 27 pk ep) 28 pk fl) 29 pk (n : Int)) f h = zf u f h
  rw [u_f_nh h2, u_f_nh h2, u_f_nh h2, u_f_nh h2, u_f_nh h1]
theorem zsnd1_ah {u : zW} {p : Nat} {c t ep fl : Int} {pk src sp n h j : Nat} (h1 : h ≠ pk + 1) : za (zsnd1 u p c t ep fl pk src sp n) h j = za u h j := u_a_cp h1
theorem zsnd1_pk {u : zW} {p : Nat} {c t ep fl : Int} {pk src sp n : Nat} : zf (zsnd1 u p c t ep fl pk src sp n) 26 pk = t ∧ zf (zsnd1 u p c t ep fl pk src sp n) 27 pk = ep ∧ zf (zsnd1 u p c t ep fl pk src sp n) 28 pk = fl ∧ zf (zsnd1 u p c t ep fl pk src sp n) 29 pk = (n : Int) := by
  refine ⟨?_, ?_, ?_, ?_⟩
  · show zf (zsf (zsf (zsf (zsf (zsf u 23 p c) 26 pk t) 27 pk ep) 28 pk fl) 29 pk (n : Int)) 26 pk = t
    rw [u_f_ne (by decide), u_f_ne (by decide), u_f_ne (by decide), u_f_eq]
  · show zf (zsf (zsf (zsf (zsf (zsf u 23 p c) 26 pk t) 27 pk ep) 28 pk fl) 29 pk (n : Int)) 27 pk = ep
    rw [u_f_ne (by decide), u_f_ne (by decide), u_f_eq]
  · show zf (zsf (zsf (zsf (zsf (zsf u 23 p c) 26 pk t) 27 pk ep) 28 pk fl) 29 pk (n : Int)) 28 pk = fl
    rw [u_f_ne (by decide), u_f_eq]
  · show zf (zsf (zsf (zsf (zsf (zsf u 23 p c) 26 pk t) 27 pk ep) 28 pk fl) 29 pk (n : Int)) 29 pk = (n : Int)
    rw [u_f_eq]
theorem zsnd1_ab {u : zW} {p : Nat} {c t ep fl : Int} {pk src sp n j : Nat} (h1 : j < n) : za (zsnd1 u p c t ep fl pk src sp n) (pk + 1) j = za u src (sp + j) := (u_a_cpi ⟨Nat.zero_le _, by omega⟩).trans (by rw [Nat.sub_zero]; rfl)
theorem zsnd1_df {own : Nat → Nat} {w : zW} {s : zSt} {p i : Nat} {c t ep fl : Int} {src sp n : Nat} {k to ep2 fl2 n2 : Int} {g : Int → Int} (hp : p < 8) (hi : i < 8) : zDf 3 own w (zsnd1 w (zPt p) c t ep fl (zPt p + 2 + 2 * i) src sp n) s (zpc s (p : Int) k to ep2 fl2 n2 g) :=
  ⟨rfl, fun f hf h => zsnd1_f (fun e => hf (by rw [e]; rfl)) (fun e => hf (by rw [e]; rfl)) (fun e => hf (by rw [e]; rfl)) (fun e => hf (by rw [e]; rfl)) (fun e => hf (by rw [e]; rfl)), rfl, fun h hh j => zsnd1_ah (fun e => hh (by rw [e]; exact ag_pk p hp i hi)), rfl, fun a ha x => zpc_o (fun e => ha (by rw [e]; rfl)) (fun e => ha (by rw [e]; rfl))⟩
theorem zEnt_old {s t : zSt} {w : zW} {p q k h pk P : Nat} {c to ep fl : Int} {src sp n : Nat} (he : zEnt s w q k h) (h1 : h ≠ P) (h2 : h ≠ pk) (hl : s 201 (12 * (8 * (q : Int) + (k : Int)) + 3) ≤ 8) (h201 : ∀ x : Int, 12 * (8 * (q : Int) + (k : Int)) ≤ x → x < 12 * (8 * (q : Int) + (k : Int)) + 12 → t 201 x = s 201 x) : zEnt t (zsnd1 w P c to ep fl pk src sp n) q k h := by
  unfold zEnt at he ⊢
  rw [zsnd1_fh h1 h2, zsnd1_fh h1 h2, zsnd1_fh h1 h2, zsnd1_fh h1 h2, h201 (12 * (8 * (q : Int) + (k : Int))) (by omega) (by omega), h201 (12 * (8 * (q : Int) + (k : Int)) + 1) (by omega) (by omega), h201 (12 * (8 * (q : Int) + (k : Int)) + 2) (by omega) (by omega), h201 (12 * (8 * (q : Int) + (k : Int)) + 3) (by omega) (by omega)]
  refine ⟨he.1, he.2.1, he.2.2.1, he.2.2.2.1, fun j hj => ?_⟩
  rw [zsnd1_ah (by omega), h201 _ (by omega) (by omega)]
  exact he.2.2.2.2 j hj
theorem gQ_pc {e : Nat} {s : zSt} {w : zW} {p hd b src sp n : Nat} {to ep fl : Int} {g : Int → Int} (h : gQ e s w) (hi : iQ s) (hp : p < 8) (hpe : p ≠ e) (hlive : 0 ≤ s 195 (p : Int)) (h25 : zf w 25 (zPt p) = (hd : Int)) (h23 : zf w 23 (zPt p) = (b : Int)) (hhd : hd < 8) (hb : b < 8) (hn : n ≤ 8) (hcn : ∀ j : Nat, j < n → za w src (sp + j) = g (j : Int)) :
    gQ e (zpc s (p : Int) (b : Int) to ep fl (n : Int) g) (zsnd1 w (zPt p) ((b : Int) + 1) to ep fl (zPt p + 2 + 2 * ((hd + b) % 8)) src sp n) := by
  have hpp := zPt_c hp
  refine ⟨fun q hq hl => ?_, fun q hq => ?_⟩
  · rw [zpc_o (by decide) (by decide)] at hl
    have hqq := zPt_c hq
    by_cases e1 : q = p
    · subst e1
      obtain ⟨hd2, b2, a1, a2, a3, a4, a5, a6⟩ := h.1 q hq hl
      rw [if_neg hpe] at a2 a4 a6
      rw [if_neg hpe]
      have e2 : hd2 = hd := by omega
      have e3 : b2 = b := by omega
      subst e2
      subst e3
      refine ⟨hd2, b2 + 1, a1, by omega, ?_, ?_, ?_, fun k hk => ?_⟩
      · rw [zsnd1_f (by decide) (by decide) (by decide) (by decide) (by decide)]
        exact a3
      · rw [zsnd1_23]
        omega
      · rw [zpc_w]
        omega
      · by_cases e4 : k = b2
        · subst e4
          unfold zEnt
          rw [show hd2 + 0 + k = hd2 + k by omega, zpc_0, zpc_1, zpc_2, zpc_3]
          refine ⟨zsnd1_pk.1, zsnd1_pk.2.1, zsnd1_pk.2.2.1, zsnd1_pk.2.2.2, fun j hj => ?_⟩
          rw [zpc_b (by omega) hj, zsnd1_ab (by omega)]
          exact hcn j (by omega)
        · have hok := hi (q : Int) (k : Int) (by omega) (by omega) hl (by omega) (by omega)
          exact zEnt_old (p := q) (a6 k (by omega)) (by omega) (by omega) hok.1.2.2.2.1.2 (fun x h1 h2 => zpc_q (by omega) (by omega))
    · have hdis := zPt_dis hp hq (fun e => e1 e.symm)
      obtain ⟨hd2, b2, a1, a2, a3, a4, a5, a6⟩ := h.1 q hq hl
      refine ⟨hd2, b2, a1, a2, ?_, ?_, ?_, fun k hk => ?_⟩
      · rw [zsnd1_fh (by omega) (by omega)]
        exact a3
      · rw [zsnd1_fh (by omega) (by omega)]
        exact a4
      · rw [zpc_wo (by omega)]
        exact a5
      · have hok := hi (q : Int) (k : Int) (by omega) (by omega) hl (by omega) (by omega)
        exact zEnt_old (p := q) (a6 k hk) (by omega) (by omega) hok.1.2.2.2.1.2 (fun x h1 h2 => zpc_q (by omega) (by omega))
  · by_cases e1 : q = p
    · subst e1
      refine ⟨hd, b + 1, hhd, by omega, ?_, ?_⟩
      · rw [zsnd1_f (by decide) (by decide) (by decide) (by decide) (by decide)]
        exact h25
      · rw [zsnd1_23]
        omega
    · have hdis := zPt_dis hp hq (fun e => e1 e.symm)
      have hqq := zPt_c hq
      obtain ⟨hd2, b2, a1, a2, a3, a4⟩ := h.2 q hq
      exact ⟨hd2, b2, a1, a2, by rw [zsnd1_fh (by omega) (by omega)]; exact a3, by rw [zsnd1_fh (by omega) (by omega)]; exact a4⟩
theorem iQ_pc {s : zSt} {p b : Nat} {to ep fl n : Int} {g : Int → Int} (h : iQ s) (hp : p < 8) (hb : s 200 (p : Int) = (b : Int)) (hb8 : b < 8) (h8 : ∀ q : Int, 0 ≤ q → q < 8 → 0 ≤ s 195 q → s 200 q ≤ 8) (r1 : 0 ≤ to ∧ to ≤ 255) (r2 : 0 ≤ ep ∧ ep ≤ 63) (r3 : 0 ≤ fl ∧ fl ≤ 255) (r4 : 1 ≤ n ∧ n ≤ 8) (r5 : ∀ j : Int, 0 ≤ j → j < n → 0 ≤ g j ∧ g j ≤ 255) (r7 : p = 7 → 32 ≤ to) : iQ (zpc s (p : Int) (b : Int) to ep fl n g) := by
  intro q k h1 h2 h3 h4 h5
  rw [zpc_o (by decide) (by decide)] at h3
  by_cases e : q = (p : Int) ∧ k = (b : Int)
  · obtain ⟨e1, e2⟩ := e
    subst e1
    subst e2
    refine ⟨?_, fun q => by rw [zpc_0]; exact r7 (by omega)⟩
    unfold zOK
    rw [zpc_0, zpc_1, zpc_2, zpc_3]
    refine ⟨r1, r2, r3, r4, fun j j1 j2 => ?_⟩
    rw [zpc_b j1 j2]
    exact r5 j j1 j2
  · have hk : k < s 200 q := by
      by_cases e1 : q = (p : Int)
      · subst e1
        rw [zpc_w] at h5
        omega
      · rw [zpc_wo e1] at h5
        exact h5
    have hq8 := h8 q h1 h2 h3
    have hok := h q k h1 h2 h3 h4 hk
    have hx : ∀ x : Int, 12 * (8 * q + k) ≤ x → x < 12 * (8 * q + k) + 12 → zpc s (p : Int) (b : Int) to ep fl n g 201 x = s 201 x := fun x x1 x2 => zpc_q (by omega) (by omega)
    obtain ⟨hok, hok7⟩ := hok
    refine ⟨?_, fun q7 => by rw [hx (12 * (8 * q + k)) (by omega) (by omega)]; exact hok7 q7⟩
    unfold zOK at hok ⊢
    rw [hx (12 * (8 * q + k)) (by omega) (by omega), hx (12 * (8 * q + k) + 1) (by omega) (by omega), hx (12 * (8 * q + k) + 2) (by omega) (by omega), hx (12 * (8 * q + k) + 3) (by omega) (by omega)]
    refine ⟨hok.1, hok.2.1, hok.2.2.1, hok.2.2.2.1, fun j j1 j2 => ?_⟩
    rw [hx _ (by omega) (by omega)]
    exact hok.2.2.2.2 j j1 j2
theorem gQ_8 {e : Nat} {s : zSt} {w : zW} (h : gQ e s w) : ∀ q : Int, 0 ≤ q → q < 8 → 0 ≤ s 195 q → s 200 q ≤ 8 := by
  intro q h1 h2 h3
  obtain ⟨m, hm⟩ : ∃ m : Nat, q = (m : Int) := ⟨q.toNat, by omega⟩
  subst hm
  obtain ⟨hd, b, a1, a2, a3, a4, a5, a6⟩ := h.1 m (by omega) h3
  omega
-- a whole message
theorem zJ_send {B : Int} {e : Nat} {own : Nat → Nat} {s : zSt} {w : zW} (h : zJ0 B e own s w) {d hd b src n q : Nat} {to kd : Int} (hd7 : d < 7) (hde : d ≠ e) (hlive : 0 ≤ s 195 (d : Int)) (h25 : zf w 25 (zPt d) = (hd : Int)) (h23 : zf w 23 (zPt d) = (b : Int)) (hhd : hd < 8) (hq : q = (n + 7) / 8) (hb : b + q ≤ 8) (hn : n ≤ 32) (r1 : 0 ≤ to ∧ to ≤ 255) (r2 : 0 ≤ kd ∧ kd ≤ 15) (hsrc : ∀ i, i < 8 → src ≠ zPt d + 2 + 2 * i + 1) (hcn : ∀ j : Nat, j < n → za w src j = s 229 (j : Int)) (r5 : ∀ j : Int, 0 ≤ j → j < n → 0 ≤ s 229 j ∧ s 229 j ≤ 255) :
    ∀ i, i ≤ q → zJ0 B e own (zsR s (d : Int) b to kd n q i) (zsnd w (zPt d) hd b to kd src n q i) ∧ ∀ j, za (zsnd w (zPt d) hd b to kd src n q i) src j = za w src j := by
  intro i
  induction i with
  | zero =>
    intro _
    exact ⟨h, fun _ => rfl⟩
  | succ i ih =>
    intro hi
    obtain ⟨ih1, ih2⟩ := ih (by omega)
    have g25 : zf (zsnd w (zPt d) hd b to kd src n q i) 25 (zPt d) = (hd : Int) := (zsnd_f (by decide) (by decide) (by decide) (by decide) (by decide) i).trans h25
    have g23 : zf (zsnd w (zPt d) hd b to kd src n q i) 23 (zPt d) = ((b + i : Nat) : Int) := zsnd_23 h23 i
    have g195 : zsR s (d : Int) b to kd n q i 195 (d : Int) = s 195 (d : Int) := zsR_o (by decide) (by decide) i
    have e202 : s 202 (d : Int) = zf w 21 (zPt d) := ((h.2.2.1.1 d (by omega)).2.2.2.1 hd7).symm
    have i202 := h.2.2.1.2.2.2.2.2.2 (d : Int) (by omega) (by omega)
    have c1 : ∀ j : Nat, j < min 8 (n - 8 * i) → za (zsnd w (zPt d) hd b to kd src n q i) src (8 * i + j) = s 229 (8 * (i : Int) + (j : Int)) := fun j hj => by
      rw [ih2, hcn _ (by omega), show ((8 * i + j : Nat) : Int) = 8 * (i : Int) + (j : Int) by omega]
    have hfl : 0 ≤ zfl kd i q ∧ zfl kd i q ≤ 255 := by
      unfold zfl
      constructor
      · repeat' split
        all_goals omega
      · repeat' split
        all_goals omega
    have hw2 : zsR s (d : Int) b to kd n q i 200 (d : Int) = ((b + i : Nat) : Int) := by
      obtain ⟨hd2, b2, a1, a2, a3, a4, a5, a6⟩ := ih1.2.2.2.1.1.1 d (by omega) (by rw [g195]; exact hlive)
      rw [if_neg hde] at a4
      omega
    refine ⟨zJ_Q ih1 (zsnd1_df (by omega) (by omega)) ⟨?_, ?_⟩, fun j => ?_⟩
    · have hh := gQ_pc (to := to) (ep := s 202 (d : Int)) (fl := zfl kd i q) (g := fun x => s 229 (8 * (i : Int) + x)) ih1.2.2.2.1.1 ih1.2.2.2.1.2 (show d < 8 by omega) hde (by rw [g195]; exact hlive) g25 g23 hhd (by omega) (show min 8 (n - 8 * i) ≤ 8 by omega) c1
      show gQ e (zpc (zsR s (d : Int) b to kd n q i) (d : Int) ((b + i : Nat) : Int) to (s 202 (d : Int)) (zfl kd i q) ((min 8 (n - 8 * i) : Nat) : Int) (fun x => s 229 (8 * (i : Int) + x))) (zsnd1 (zsnd w (zPt d) hd b to kd src n q i) (zPt d) (((b + i : Nat) : Int) + 1) to (zf w 21 (zPt d)) (zfl kd i q) (zPt d + 2 + 2 * ((hd + (b + i)) % 8)) src (8 * i) (min 8 (n - 8 * i)))
      rw [← e202]
      exact hh
    · exact iQ_pc ih1.2.2.2.1.2 (by omega) hw2 (by omega) (gQ_8 ih1.2.2.2.1.1) r1 i202 hfl (by omega) (fun j j1 j2 => r5 _ (by omega) (by omega)) (fun q => by omega)
    · rw [← ih2 j]
      exact zsnd1_ah (hsrc _ (by omega))
