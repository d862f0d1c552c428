-- changes of one group alone: which group a field, an array, an entry of the state belongs to
def fg (f : Nat) : Nat := if f = 15 then 1 else if 18 ≤ f ∧ f ≤ 22 then 2 else if f = 23 ∨ (25 ≤ f ∧ f ≤ 29) then 3 else if 58 ≤ f ∧ f ≤ 63 then 4 else if f = 13 ∨ (64 ≤ f ∧ f ≤ 71) then 5 else if 32 ≤ f ∧ f ≤ 39 then 6 else if 48 ≤ f ∧ f ≤ 55 then 7 else if f = 45 ∨ f = 46 ∨ f = 57 then 8 else if f = 5 then 9 else if f = 10 ∨ f = 11 then 10 else if f = 17 ∨ f = 41 then 11 else 0
def zPkL : List Nat := [10, 12, 14, 16, 18, 20, 22, 24, 35, 37, 39, 41, 43, 45, 47, 49, 89, 91, 93, 95, 97, 99, 101, 103, 111, 113, 115, 117, 119, 121, 123, 125, 133, 135, 137, 139, 141, 143, 145, 147, 155, 157, 159, 161, 163, 165, 167, 169, 177, 179, 181, 183, 185, 187, 189, 191, 55, 57, 59, 61, 63, 65, 67, 69]
def zBlL : List Nat := [50, 104, 126, 148, 170, 192]
def ag (own : Nat → Nat) (h : Nat) : Nat := if h ≤ 239 then (if h ∈ zPkL then 3 else if h ∈ zBlL then 6 else if h = 74 ∨ h = 81 then 8 else if h = 25 then 9 else if 26 ≤ h ∧ h ≤ 28 then 10 else 0) else if own h < 448 then 4 else 5
def sg (a : Nat) : Nat := if a = 195 then 1 else if (196 ≤ a ∧ a ≤ 199) ∨ a = 202 then 2 else if a = 200 ∨ a = 201 then 3 else if 203 ≤ a ∧ a ≤ 206 then 4 else if a = 113 ∨ (231 ≤ a ∧ a ≤ 238) then 5 else if 207 ≤ a ∧ a ≤ 214 then 6 else if (215 ≤ a ∧ a ≤ 221) ∨ a = 100 then 7 else if a = 222 ∨ a = 223 ∨ a = 226 ∨ a = 227 then 8 else if a = 72 ∨ a = 230 then 9 else if a = 122 ∨ a = 239 then 10 else 0
def zDf (X : Nat) (own : Nat → Nat) (w v : zW) (s t : zSt) : Prop := v.1 = w.1 ∧ (∀ f, fg f ≠ X → ∀ h, zf v f h = zf w f h) ∧ v.2.2.1 = w.2.2.1 ∧ (∀ h, ag own h ≠ X → ∀ j, za v h j = za w h j) ∧ v.2.2.2.2 = w.2.2.2.2 ∧ ∀ a, sg a ≠ X → ∀ x, t a x = s a x
theorem zDf.k {X : Nat} {own : Nat → Nat} {w v : zW} {s t : zSt} (d : zDf X own w v s t) (h : Nat) : zk v h = zk w h := congrArg (fun q : zS => q.2.2.1 h) d.1
theorem zDf.l {X : Nat} {own : Nat → Nat} {w v : zW} {s t : zSt} (d : zDf X own w v s t) (h : Nat) : zl v h = zl w h := congrArg (fun q : zS => q.2.2.2 h) d.1
theorem zDf.n {X : Nat} {own : Nat → Nat} {w v : zW} {s t : zSt} (d : zDf X own w v s t) : zn v = zn w := congrArg (fun q : zS => q.1) d.1
theorem zDf.sl {X : Nat} {own : Nat → Nat} {w v : zW} {s t : zSt} (d : zDf X own w v s t) : zsl v = zsl w := congrArg (fun q : zS => q.2.1) d.1
theorem zDf.p {X : Nat} {own : Nat → Nat} {w v : zW} {s t : zSt} (d : zDf X own w v s t) (f h : Nat) : zp v f h = zp w f h := congrArg (fun q => q f h) d.2.2.1
theorem zDf.b {X : Nat} {own : Nat → Nat} {w v : zW} {s t : zSt} (d : zDf X own w v s t) (h j : Nat) : zb v h j = zb w h j := congrArg (fun q => q h j) d.2.2.2.2.1
theorem zDf.f {X Y : Nat} {own : Nat → Nat} {w v : zW} {s t : zSt} (d : zDf X own w v s t) (f : Nat) (hf : fg f = Y) (hX : X ≠ Y) (h : Nat) : zf v f h = zf w f h := d.2.1 f (fun e => hX (e.symm.trans hf)) h
theorem zDf.a {X Y : Nat} {own : Nat → Nat} {w v : zW} {s t : zSt} (d : zDf X own w v s t) (h : Nat) (hh : ag own h = Y) (hX : X ≠ Y) (j : Nat) : za v h j = za w h j := d.2.2.2.1 h (fun e => hX (e.symm.trans hh)) j
theorem zDf.s {X Y : Nat} {own : Nat → Nat} {w v : zW} {s t : zSt} (d : zDf X own w v s t) (a : Nat) (ha : sg a = Y) (hX : X ≠ Y) (x : Int) : t a x = s a x := d.2.2.2.2.2 a (fun e => hX (e.symm.trans ha)) x
theorem ag_pk {own : Nat → Nat} : ∀ p, p < 8 → ∀ k, k < 8 → ag own (zPt p + 2 + 2 * k + 1) = 3 := by
  intro p hp k hk
  have h1 : ∀ p, p < 8 → ∀ k, k < 8 → zPt p + 2 + 2 * k + 1 ∈ zPkL := by decide
  have h2 := zPt_c hp
  unfold ag
  rw [if_pos (by omega), if_pos (h1 p hp k hk)]
theorem ag_bl {own : Nat → Nat} : ∀ d, 1 ≤ d → d < 7 → ag own (zNd d + 20) = 6 := by
  intro d hd hd2
  have h1 : ∀ d, d < 7 → 1 ≤ d → zNd d + 20 ∈ zBlL := by decide
  have h3 : ∀ d, d < 7 → 1 ≤ d → zNd d + 20 ∉ zPkL := by decide
  have h2 := zNd_c hd2
  unfold ag
  rw [if_pos (by omega), if_neg (h3 d hd2 hd), if_pos (h1 d hd2 hd)]
theorem ag_T {own : Nat → Nat} {h : Nat} (h1 : 239 < h) (h2 : own h < 448) : ag own h = 4 := by
  unfold ag
  rw [if_neg (by omega), if_pos h2]
theorem ag_R {own : Nat → Nat} {h : Nat} (h1 : 239 < h) (h2 : 448 ≤ own h) : ag own h = 5 := by
  unfold ag
  rw [if_neg (by omega), if_neg (by omega)]
theorem zCon_df {X : Nat} {own : Nat → Nat} {w v : zW} {s t : zSt} (d : zDf X own w v s t) (hX : X ≠ 11) (h : zCon w) : zCon v := by
  obtain ⟨w0, h1, h2, h3, h4⟩ := h
  refine ⟨w0, h1, fun f g hg => by rw [d.p]; exact h2 f g hg, fun g j hg k1 k2 k3 => ?_, fun g hg => ?_⟩
  · rw [d.k] at k1 k2 k3
    rw [d.b]
    exact h3 g j hg k1 k2 k3
  · rw [d.f 17 rfl hX, d.f 41 rfl hX]
    exact h4 g hg
theorem gN_df {X : Nat} {own : Nat → Nat} {w v : zW} {s t : zSt} (d : zDf X own w v s t) (hX : X ≠ 1) (h : gN s w) : gN t v := by
  refine ⟨fun i hi => ?_, fun i hi => ?_, fun i hi => ?_⟩
  · rw [d.f 15 rfl hX, d.s 195 rfl hX]
    exact h.1 i hi
  · rw [d.b, d.s 195 rfl hX]
    exact h.2.1 i hi
  · rw [d.b, d.s 195 rfl hX]
    exact h.2.2 i hi
theorem gP_df {X e : Nat} {own : Nat → Nat} {w v : zW} {s t : zSt} (d : zDf X own w v s t) (hX : X ≠ 2) (h : gP e s w) : gP e t v := by
  intro p hp
  rw [d.f 18 rfl hX, d.f 19 rfl hX, d.f 20 rfl hX, d.f 21 rfl hX, d.f 22 rfl hX, d.s 196 rfl hX, d.s 197 rfl hX, d.s 198 rfl hX, d.s 199 rfl hX, d.s 202 rfl hX]
  exact h p hp
theorem zEnt_df {X : Nat} {own : Nat → Nat} {w v : zW} {s t : zSt} (d : zDf X own w v s t) (hX : X ≠ 3) {p k i : Nat} (hp : p < 8) (hi : i < 8) (h : zEnt s w p k (zPt p + 2 + 2 * i)) : zEnt t v p k (zPt p + 2 + 2 * i) := by
  unfold zEnt at h ⊢
  rw [d.f 26 rfl hX, d.f 27 rfl hX, d.f 28 rfl hX, d.f 29 rfl hX, d.s 201 rfl hX, d.s 201 rfl hX, d.s 201 rfl hX, d.s 201 rfl hX]
  refine ⟨h.1, h.2.1, h.2.2.1, h.2.2.2.1, fun j hj => ?_⟩
  rw [d.a _ (ag_pk p hp i hi) hX, d.s 201 rfl hX]
  exact h.2.2.2.2 j hj
theorem gQ_df {X e : Nat} {own : Nat → Nat} {w v : zW} {s t : zSt} (d : zDf X own w v s t) (hX : X ≠ 3) (hX1 : X ≠ 1) (h : gQ e s w) : gQ e t v := by
  refine ⟨fun p hp hl => ?_, fun p hp => ?_⟩
  · rw [d.s 195 rfl hX1] at hl
    obtain ⟨hd, b, h1, h2, h3, h4, h5, h6⟩ := h.1 p hp hl
    exact ⟨hd, b, h1, h2, by rw [d.f 25 rfl hX]; exact h3, by rw [d.f 23 rfl hX]; exact h4, by rw [d.s 200 rfl hX]; exact h5, fun k hk => zEnt_df d hX hp (by omega) (h6 k hk)⟩
  · rw [d.f 25 rfl hX, d.f 23 rfl hX]
    exact h.2 p hp
theorem gT_df {X : Nat} {own : Nat → Nat} {w v : zW} {s t : zSt} (d : zDf X own w v s t) (hX : X ≠ 4) (h : gT own s w) : gT own t v := by
  intro i f hi hf
  rw [d.b, d.s 203 rfl hX]
  rcases h i f hi hf with h1 | ⟨g, h1, h2⟩
  · exact Or.inl h1
  · refine Or.inr ⟨g, h1, ?_⟩
    unfold zPrt at h2 ⊢
    rw [d.k, d.k, d.l, d.p, d.n, d.f 58 rfl hX, d.f 59 rfl hX, d.f 60 rfl hX, d.f 62 rfl hX, d.f 63 rfl hX, d.s 203 rfl hX, d.s 204 rfl hX, d.s 205 rfl hX]
    obtain ⟨a1, a2, a3, a4, a5, a6, a7, a8, a9, a10, a11, a12, a13⟩ := h2
    refine ⟨a1, a2, a3, a4, a5, a6, a7, a8, a9, a10, a11, a12, ?_⟩
    rcases a13 with a | ⟨b1, n, b2, b3, b4, b5, b6, b7⟩
    · exact Or.inl a
    · refine Or.inr ⟨b1, n, b2, b3, b4, b5, b6, fun j hj => ?_⟩
      rw [d.a _ (ag_T (by omega) (by omega)) hX, d.s 206 rfl hX]
      exact b7 j hj
theorem gR_df {X : Nat} {own : Nat → Nat} {w v : zW} {s t : zSt} (d : zDf X own w v s t) (hX : X ≠ 5) (h : gR own s w) : gR own t v := by
  unfold gR at h ⊢
  rw [d.f 13 rfl hX, d.s 113 rfl hX]
  refine ⟨h.1, fun r hr => ?_⟩
  obtain ⟨g, h1, h2⟩ := h.2 r hr
  refine ⟨g, by rw [d.b]; exact h1, ?_⟩
  unfold zReq at h2 ⊢
  rw [d.k, d.k, d.k, d.l, d.l, d.p, d.p, d.n, d.f 64 rfl hX, d.f 65 rfl hX, d.f 68 rfl hX, d.f 69 rfl hX, d.f 70 rfl hX, d.f 71 rfl hX, d.s 231 rfl hX, d.s 234 rfl hX, d.s 235 rfl hX, d.s 236 rfl hX, d.s 237 rfl hX, d.s 232 rfl hX]
  obtain ⟨a1, a2, a3, a4, a5, a6, a7, a8, a9, a10, a11, a12, a13, a14, a15, a16, a17, a18, a19, a20⟩ := h2
  refine ⟨a1, a2, a3, a4, a5, a6, a7, a8, a9, a10, a11, a12, a13, a14, a15, a16, a17, a18, fun j hj => ?_, fun j hj => ?_⟩
  · rw [d.a _ (ag_R (by omega) (by omega)) hX, d.s 233 rfl hX]
    exact a19 j hj
  · rw [d.a _ (ag_R (by omega) (by omega)) hX, d.s 238 rfl hX]
    exact a20 j hj
theorem gS_df {X : Nat} {own : Nat → Nat} {w v : zW} {s t : zSt} (d : zDf X own w v s t) (hX : X ≠ 6) (h : gS s w) : gS t v := by
  intro i h1 h2
  obtain ⟨a1, a2, a3, a4, a5, a6, a7, a8⟩ := h i h1 h2
  rw [d.f 32 rfl hX, d.f 33 rfl hX, d.f 34 rfl hX, d.f 35 rfl hX, d.f 36 rfl hX, d.f 38 rfl hX, d.f 39 rfl hX, d.s 207 rfl hX, d.s 208 rfl hX, d.s 209 rfl hX, d.s 210 rfl hX, d.s 211 rfl hX, d.s 212 rfl hX, d.s 213 rfl hX]
  refine ⟨a1, a2, a3, a4, a5, a6, a7, fun j hj => ?_⟩
  rw [d.a _ (ag_bl i h1 h2) hX, d.s 214 rfl hX]
  exact a8 j hj
theorem zgb_df {s t : zSt} (h : ∀ x, t 220 x = s 220 x) : ∀ n, zgb t n = zgb s n
  | 0 => rfl
  | n + 1 => by
    rw [zgb, zgb, h, zgb_df h n]
theorem gE_df {X : Nat} {own : Nat → Nat} {w v : zW} {s t : zSt} (d : zDf X own w v s t) (hX : X ≠ 7) (h : gE s w) : gE t v := by
  refine ⟨fun b hb => ?_, ?_, ?_⟩
  · rw [d.f 48 rfl hX, d.f 49 rfl hX, d.f 50 rfl hX, d.f 52 rfl hX, d.f 53 rfl hX, d.f 54 rfl hX, d.s 215 rfl hX, d.s 216 rfl hX, d.s 217 rfl hX, d.s 218 rfl hX, d.s 219 rfl hX, d.s 221 rfl hX]
    exact h.1 b hb
  · rw [d.f 51 rfl hX, d.s 100 rfl hX]
    exact h.2.1
  · rw [d.f 55 rfl hX, d.s 215 rfl hX, d.s 216 rfl hX, d.s 219 rfl hX, zgb_df (d.s 220 rfl hX)]
    exact h.2.2
theorem gB_df {X : Nat} {own : Nat → Nat} {w v : zW} {s t : zSt} (d : zDf X own w v s t) (hX : X ≠ 8) (h : gB s w) : gB t v := by
  intro b hb
  rw [d.f 45 rfl hX, d.f 46 rfl hX, d.f 57 rfl hX, d.s 222 rfl hX, d.s 223 rfl hX, d.s 227 rfl hX]
  obtain ⟨a1, a2, a3⟩ := h b hb
  refine ⟨a1, a2, fun j hj => ?_⟩
  have hb2 : b = 0 ∨ b = 1 := by omega
  rw [d.s 226 rfl hX, d.a (74 + 7 * b) (by rcases hb2 with e | e <;> subst e <;> rfl) hX]
  exact a3 j hj
theorem gM_df {X : Nat} {own : Nat → Nat} {w v : zW} {s t : zSt} (d : zDf X own w v s t) (hX : X ≠ 9) (h : gM s w) : gM t v := by
  refine ⟨by rw [d.f 5 rfl hX, d.s 72 rfl hX]; exact h.1, fun j hj => ?_⟩
  rw [d.a 25 rfl hX, d.s 230 rfl hX]
  exact h.2 j hj
theorem gL_df {X : Nat} {own : Nat → Nat} {w v : zW} {s t : zSt} (d : zDf X own w v s t) (hX : X ≠ 10) (h : gL s w) : gL t v := by
  obtain ⟨n, x, a1, a2, a3, a4, a5, a6⟩ := h
  refine ⟨n, x, a1, a2, by rw [d.f 10 rfl hX]; exact a3, by rw [d.f 11 rfl hX]; exact a4, by rw [d.s 122 rfl hX]; exact a5, fun k hk => ?_⟩
  rw [d.a 26 rfl hX, d.a 27 rfl hX, d.a 28 rfl hX, d.s 239 rfl hX, d.s 239 rfl hX, d.s 239 rfl hX]
  exact a6 k hk
theorem zcnt_df {w v : zW} (h : ∀ g j, zb v g j = zb w g j) : ∀ n, zcnt v n = zcnt w n
  | 0 => rfl
  | n + 1 => by
    rw [zcnt, zcnt, zcnt_df h n, h]
theorem gH_df {X : Nat} {own : Nat → Nat} {w v : zW} {s t : zSt} (d : zDf X own w v s t) (hX : X ≠ 5) (h : gH s w) : gH t v := by
  unfold gH at h ⊢
  rw [d.n, d.sl, zcnt_df d.b, d.s 113 rfl hX]
  exact h
theorem iN_df {X : Nat} {own : Nat → Nat} {w v : zW} {s t : zSt} (d : zDf X own w v s t) (hX : X ≠ 1) (h : iN s) : iN t := by
  unfold iN at h ⊢
  simp only [d.s 195 rfl hX]
  exact h
theorem iP_df {X : Nat} {own : Nat → Nat} {w v : zW} {s t : zSt} (d : zDf X own w v s t) (hX : X ≠ 2) (h : iP s) : iP t := by
  unfold iP at h ⊢
  simp only [d.s 196 rfl hX, d.s 197 rfl hX, d.s 198 rfl hX, d.s 199 rfl hX, d.s 202 rfl hX]
  exact h
theorem zOK_eq {s t : zSt} (h : ∀ x, t 201 x = s 201 x) {a : Int} (q : zOK s a) : zOK t a := by
  unfold zOK at q ⊢
  simp only [h]
  exact q
theorem iQ_df {X : Nat} {own : Nat → Nat} {w v : zW} {s t : zSt} (d : zDf X own w v s t) (hX : X ≠ 3) (hX1 : X ≠ 1) (h : iQ s) : iQ t := by
  intro p k h1 h2 h3 h4 h5
  rw [d.s 195 rfl hX1] at h3
  rw [d.s 200 rfl hX] at h5
  have q := h p k h1 h2 h3 h4 h5
  exact ⟨zOK_eq (d.s 201 rfl hX) q.1, fun e => by rw [d.s 201 rfl hX]; exact q.2 e⟩
theorem iT_df {X : Nat} {own : Nat → Nat} {w v : zW} {s t : zSt} (d : zDf X own w v s t) (hX : X ≠ 4) (h : iT s) : iT t := by
  unfold iT at h ⊢
  simp only [d.s 203 rfl hX, d.s 204 rfl hX, d.s 205 rfl hX, d.s 206 rfl hX]
  exact h
theorem iS_df {X : Nat} {own : Nat → Nat} {w v : zW} {s t : zSt} (d : zDf X own w v s t) {B : Int} (hX : X ≠ 6) (h : iS B s) : iS B t := by
  unfold iS at h ⊢
  simp only [d.s 207 rfl hX, d.s 208 rfl hX, d.s 209 rfl hX, d.s 210 rfl hX, d.s 211 rfl hX, d.s 212 rfl hX, d.s 213 rfl hX, d.s 214 rfl hX]
  exact h
theorem iE_df {X : Nat} {own : Nat → Nat} {w v : zW} {s t : zSt} (d : zDf X own w v s t) (hX : X ≠ 7) (h : iE s) : iE t := by
  unfold iE at h ⊢
  simp only [d.s 215 rfl hX, d.s 216 rfl hX, d.s 217 rfl hX, d.s 218 rfl hX, d.s 219 rfl hX, d.s 220 rfl hX, d.s 221 rfl hX, d.s 100 rfl hX]
  exact h
theorem iB_df {X : Nat} {own : Nat → Nat} {w v : zW} {s t : zSt} (d : zDf X own w v s t) (hX : X ≠ 8) (h : iB s) : iB t := by
  unfold iB at h ⊢
  simp only [d.s 222 rfl hX, d.s 223 rfl hX, d.s 227 rfl hX]
  exact h
theorem iM_df {X : Nat} {own : Nat → Nat} {w v : zW} {s t : zSt} (d : zDf X own w v s t) (hX : X ≠ 9) (h : iM s) : iM t := by
  unfold iM at h ⊢
  simp only [d.s 230 rfl hX]
  exact h
theorem iR_df {X : Nat} {own : Nat → Nat} {w v : zW} {s t : zSt} (d : zDf X own w v s t) (hX : X ≠ 5) (h : iR s) : iR t := by
  unfold iR at h ⊢
  simp only [d.s 113 rfl hX, d.s 231 rfl hX, d.s 232 rfl hX, d.s 233 rfl hX, d.s 234 rfl hX, d.s 235 rfl hX, d.s 236 rfl hX, d.s 237 rfl hX]
  exact h
-- a change of one group: the others stand
theorem zJ_P {B : Int} {e : Nat} {own : Nat → Nat} {w v : zW} {s t : zSt} (h : zJ0 B e own s w) (d : zDf 2 own w v s t) (hg : gP e t v ∧ iP t) : zJ0 B e own t v :=
  ⟨zCon_df d (by decide) h.1, ⟨gN_df d (by decide) h.2.1.1, iN_df d (by decide) h.2.1.2⟩, hg, ⟨gQ_df d (by decide) (by decide) h.2.2.2.1.1, iQ_df d (by decide) (by decide) h.2.2.2.1.2⟩, ⟨gT_df d (by decide) h.2.2.2.2.1.1, iT_df d (by decide) h.2.2.2.2.1.2⟩, ⟨gR_df d (by decide) h.2.2.2.2.2.1.1, iR_df d (by decide) h.2.2.2.2.2.1.2⟩, ⟨gS_df d (by decide) h.2.2.2.2.2.2.1.1, iS_df d (by decide) h.2.2.2.2.2.2.1.2⟩, ⟨gE_df d (by decide) h.2.2.2.2.2.2.2.1.1, iE_df d (by decide) h.2.2.2.2.2.2.2.1.2⟩, ⟨gB_df d (by decide) h.2.2.2.2.2.2.2.2.1.1, iB_df d (by decide) h.2.2.2.2.2.2.2.2.1.2⟩, ⟨gM_df d (by decide) h.2.2.2.2.2.2.2.2.2.1.1, iM_df d (by decide) h.2.2.2.2.2.2.2.2.2.1.2⟩, gL_df d (by decide) h.2.2.2.2.2.2.2.2.2.2.1, gH_df d (by decide) h.2.2.2.2.2.2.2.2.2.2.2⟩
theorem zJ_Q {B : Int} {e : Nat} {own : Nat → Nat} {w v : zW} {s t : zSt} (h : zJ0 B e own s w) (d : zDf 3 own w v s t) (hg : gQ e t v ∧ iQ t) : zJ0 B e own t v :=
  ⟨zCon_df d (by decide) h.1, ⟨gN_df d (by decide) h.2.1.1, iN_df d (by decide) h.2.1.2⟩, ⟨gP_df d (by decide) h.2.2.1.1, iP_df d (by decide) h.2.2.1.2⟩, hg, ⟨gT_df d (by decide) h.2.2.2.2.1.1, iT_df d (by decide) h.2.2.2.2.1.2⟩, ⟨gR_df d (by decide) h.2.2.2.2.2.1.1, iR_df d (by decide) h.2.2.2.2.2.1.2⟩, ⟨gS_df d (by decide) h.2.2.2.2.2.2.1.1, iS_df d (by decide) h.2.2.2.2.2.2.1.2⟩, ⟨gE_df d (by decide) h.2.2.2.2.2.2.2.1.1, iE_df d (by decide) h.2.2.2.2.2.2.2.1.2⟩, ⟨gB_df d (by decide) h.2.2.2.2.2.2.2.2.1.1, iB_df d (by decide) h.2.2.2.2.2.2.2.2.1.2⟩, ⟨gM_df d (by decide) h.2.2.2.2.2.2.2.2.2.1.1, iM_df d (by decide) h.2.2.2.2.2.2.2.2.2.1.2⟩, gL_df d (by decide) h.2.2.2.2.2.2.2.2.2.2.1, gH_df d (by decide) h.2.2.2.2.2.2.2.2.2.2.2⟩
theorem zJ_T {B : Int} {e : Nat} {own : Nat → Nat} {w v : zW} {s t : zSt} (h : zJ0 B e own s w) (d : zDf 4 own w v s t) (hg : gT own t v ∧ iT t) : zJ0 B e own t v :=
  ⟨zCon_df d (by decide) h.1, ⟨gN_df d (by decide) h.2.1.1, iN_df d (by decide) h.2.1.2⟩, ⟨gP_df d (by decide) h.2.2.1.1, iP_df d (by decide) h.2.2.1.2⟩, ⟨gQ_df d (by decide) (by decide) h.2.2.2.1.1, iQ_df d (by decide) (by decide) h.2.2.2.1.2⟩, hg, ⟨gR_df d (by decide) h.2.2.2.2.2.1.1, iR_df d (by decide) h.2.2.2.2.2.1.2⟩, ⟨gS_df d (by decide) h.2.2.2.2.2.2.1.1, iS_df d (by decide) h.2.2.2.2.2.2.1.2⟩, ⟨gE_df d (by decide) h.2.2.2.2.2.2.2.1.1, iE_df d (by decide) h.2.2.2.2.2.2.2.1.2⟩, ⟨gB_df d (by decide) h.2.2.2.2.2.2.2.2.1.1, iB_df d (by decide) h.2.2.2.2.2.2.2.2.1.2⟩, ⟨gM_df d (by decide) h.2.2.2.2.2.2.2.2.2.1.1, iM_df d (by decide) h.2.2.2.2.2.2.2.2.2.1.2⟩, gL_df d (by decide) h.2.2.2.2.2.2.2.2.2.2.1, gH_df d (by decide) h.2.2.2.2.2.2.2.2.2.2.2⟩
theorem zJ_R {B : Int} {e : Nat} {own : Nat → Nat} {w v : zW} {s t : zSt} (h : zJ0 B e own s w) (d : zDf 5 own w v s t) (hg : gR own t v ∧ iR t) (hh : gH t v) : zJ0 B e own t v :=
  ⟨zCon_df d (by decide) h.1, ⟨gN_df d (by decide) h.2.1.1, iN_df d (by decide) h.2.1.2⟩, ⟨gP_df d (by decide) h.2.2.1.1, iP_df d (by decide) h.2.2.1.2⟩, ⟨gQ_df d (by decide) (by decide) h.2.2.2.1.1, iQ_df d (by decide) (by decide) h.2.2.2.1.2⟩, ⟨gT_df d (by decide) h.2.2.2.2.1.1, iT_df d (by decide) h.2.2.2.2.1.2⟩, hg, ⟨gS_df d (by decide) h.2.2.2.2.2.2.1.1, iS_df d (by decide) h.2.2.2.2.2.2.1.2⟩, ⟨gE_df d (by decide) h.2.2.2.2.2.2.2.1.1, iE_df d (by decide) h.2.2.2.2.2.2.2.1.2⟩, ⟨gB_df d (by decide) h.2.2.2.2.2.2.2.2.1.1, iB_df d (by decide) h.2.2.2.2.2.2.2.2.1.2⟩, ⟨gM_df d (by decide) h.2.2.2.2.2.2.2.2.2.1.1, iM_df d (by decide) h.2.2.2.2.2.2.2.2.2.1.2⟩, gL_df d (by decide) h.2.2.2.2.2.2.2.2.2.2.1, hh⟩
theorem zJ_S {B B2 : Int} {e : Nat} {own : Nat → Nat} {w v : zW} {s t : zSt} (h : zJ0 B e own s w) (d : zDf 6 own w v s t) (hg : gS t v ∧ iS B2 t) : zJ0 B2 e own t v :=
  ⟨zCon_df d (by decide) h.1, ⟨gN_df d (by decide) h.2.1.1, iN_df d (by decide) h.2.1.2⟩, ⟨gP_df d (by decide) h.2.2.1.1, iP_df d (by decide) h.2.2.1.2⟩, ⟨gQ_df d (by decide) (by decide) h.2.2.2.1.1, iQ_df d (by decide) (by decide) h.2.2.2.1.2⟩, ⟨gT_df d (by decide) h.2.2.2.2.1.1, iT_df d (by decide) h.2.2.2.2.1.2⟩, ⟨gR_df d (by decide) h.2.2.2.2.2.1.1, iR_df d (by decide) h.2.2.2.2.2.1.2⟩, hg, ⟨gE_df d (by decide) h.2.2.2.2.2.2.2.1.1, iE_df d (by decide) h.2.2.2.2.2.2.2.1.2⟩, ⟨gB_df d (by decide) h.2.2.2.2.2.2.2.2.1.1, iB_df d (by decide) h.2.2.2.2.2.2.2.2.1.2⟩, ⟨gM_df d (by decide) h.2.2.2.2.2.2.2.2.2.1.1, iM_df d (by decide) h.2.2.2.2.2.2.2.2.2.1.2⟩, gL_df d (by decide) h.2.2.2.2.2.2.2.2.2.2.1, gH_df d (by decide) h.2.2.2.2.2.2.2.2.2.2.2⟩
theorem zJ_E {B : Int} {e : Nat} {own : Nat → Nat} {w v : zW} {s t : zSt} (h : zJ0 B e own s w) (d : zDf 7 own w v s t) (hg : gE t v ∧ iE t) : zJ0 B e own t v :=
  ⟨zCon_df d (by decide) h.1, ⟨gN_df d (by decide) h.2.1.1, iN_df d (by decide) h.2.1.2⟩, ⟨gP_df d (by decide) h.2.2.1.1, iP_df d (by decide) h.2.2.1.2⟩, ⟨gQ_df d (by decide) (by decide) h.2.2.2.1.1, iQ_df d (by decide) (by decide) h.2.2.2.1.2⟩, ⟨gT_df d (by decide) h.2.2.2.2.1.1, iT_df d (by decide) h.2.2.2.2.1.2⟩, ⟨gR_df d (by decide) h.2.2.2.2.2.1.1, iR_df d (by decide) h.2.2.2.2.2.1.2⟩, ⟨gS_df d (by decide) h.2.2.2.2.2.2.1.1, iS_df d (by decide) h.2.2.2.2.2.2.1.2⟩, hg, ⟨gB_df d (by decide) h.2.2.2.2.2.2.2.2.1.1, iB_df d (by decide) h.2.2.2.2.2.2.2.2.1.2⟩, ⟨gM_df d (by decide) h.2.2.2.2.2.2.2.2.2.1.1, iM_df d (by decide) h.2.2.2.2.2.2.2.2.2.1.2⟩, gL_df d (by decide) h.2.2.2.2.2.2.2.2.2.2.1, gH_df d (by decide) h.2.2.2.2.2.2.2.2.2.2.2⟩
theorem zJ_B {B : Int} {e : Nat} {own : Nat → Nat} {w v : zW} {s t : zSt} (h : zJ0 B e own s w) (d : zDf 8 own w v s t) (hg : gB t v ∧ iB t) : zJ0 B e own t v :=
  ⟨zCon_df d (by decide) h.1, ⟨gN_df d (by decide) h.2.1.1, iN_df d (by decide) h.2.1.2⟩, ⟨gP_df d (by decide) h.2.2.1.1, iP_df d (by decide) h.2.2.1.2⟩, ⟨gQ_df d (by decide) (by decide) h.2.2.2.1.1, iQ_df d (by decide) (by decide) h.2.2.2.1.2⟩, ⟨gT_df d (by decide) h.2.2.2.2.1.1, iT_df d (by decide) h.2.2.2.2.1.2⟩, ⟨gR_df d (by decide) h.2.2.2.2.2.1.1, iR_df d (by decide) h.2.2.2.2.2.1.2⟩, ⟨gS_df d (by decide) h.2.2.2.2.2.2.1.1, iS_df d (by decide) h.2.2.2.2.2.2.1.2⟩, ⟨gE_df d (by decide) h.2.2.2.2.2.2.2.1.1, iE_df d (by decide) h.2.2.2.2.2.2.2.1.2⟩, hg, ⟨gM_df d (by decide) h.2.2.2.2.2.2.2.2.2.1.1, iM_df d (by decide) h.2.2.2.2.2.2.2.2.2.1.2⟩, gL_df d (by decide) h.2.2.2.2.2.2.2.2.2.2.1, gH_df d (by decide) h.2.2.2.2.2.2.2.2.2.2.2⟩
theorem zJ_M {B : Int} {e : Nat} {own : Nat → Nat} {w v : zW} {s t : zSt} (h : zJ0 B e own s w) (d : zDf 9 own w v s t) (hg : gM t v ∧ iM t) : zJ0 B e own t v :=
  ⟨zCon_df d (by decide) h.1, ⟨gN_df d (by decide) h.2.1.1, iN_df d (by decide) h.2.1.2⟩, ⟨gP_df d (by decide) h.2.2.1.1, iP_df d (by decide) h.2.2.1.2⟩, ⟨gQ_df d (by decide) (by decide) h.2.2.2.1.1, iQ_df d (by decide) (by decide) h.2.2.2.1.2⟩, ⟨gT_df d (by decide) h.2.2.2.2.1.1, iT_df d (by decide) h.2.2.2.2.1.2⟩, ⟨gR_df d (by decide) h.2.2.2.2.2.1.1, iR_df d (by decide) h.2.2.2.2.2.1.2⟩, ⟨gS_df d (by decide) h.2.2.2.2.2.2.1.1, iS_df d (by decide) h.2.2.2.2.2.2.1.2⟩, ⟨gE_df d (by decide) h.2.2.2.2.2.2.2.1.1, iE_df d (by decide) h.2.2.2.2.2.2.2.1.2⟩, ⟨gB_df d (by decide) h.2.2.2.2.2.2.2.2.1.1, iB_df d (by decide) h.2.2.2.2.2.2.2.2.1.2⟩, hg, gL_df d (by decide) h.2.2.2.2.2.2.2.2.2.2.1, gH_df d (by decide) h.2.2.2.2.2.2.2.2.2.2.2⟩
theorem zJ_L {B : Int} {e : Nat} {own : Nat → Nat} {w v : zW} {s t : zSt} (h : zJ0 B e own s w) (d : zDf 10 own w v s t) (hg : gL t v) : zJ0 B e own t v :=
  ⟨zCon_df d (by decide) h.1, ⟨gN_df d (by decide) h.2.1.1, iN_df d (by decide) h.2.1.2⟩, ⟨gP_df d (by decide) h.2.2.1.1, iP_df d (by decide) h.2.2.1.2⟩, ⟨gQ_df d (by decide) (by decide) h.2.2.2.1.1, iQ_df d (by decide) (by decide) h.2.2.2.1.2⟩, ⟨gT_df d (by decide) h.2.2.2.2.1.1, iT_df d (by decide) h.2.2.2.2.1.2⟩, ⟨gR_df d (by decide) h.2.2.2.2.2.1.1, iR_df d (by decide) h.2.2.2.2.2.1.2⟩, ⟨gS_df d (by decide) h.2.2.2.2.2.2.1.1, iS_df d (by decide) h.2.2.2.2.2.2.1.2⟩, ⟨gE_df d (by decide) h.2.2.2.2.2.2.2.1.1, iE_df d (by decide) h.2.2.2.2.2.2.2.1.2⟩, ⟨gB_df d (by decide) h.2.2.2.2.2.2.2.2.1.1, iB_df d (by decide) h.2.2.2.2.2.2.2.2.1.2⟩, ⟨gM_df d (by decide) h.2.2.2.2.2.2.2.2.2.1.1, iM_df d (by decide) h.2.2.2.2.2.2.2.2.2.1.2⟩, hg, gH_df d (by decide) h.2.2.2.2.2.2.2.2.2.2.2⟩
theorem zJ_0 {B : Int} {e : Nat} {own : Nat → Nat} {w v : zW} {s t : zSt} (h : zJ0 B e own s w) (d : zDf 0 own w v s t) : zJ0 B e own t v :=
  ⟨zCon_df d (by decide) h.1, ⟨gN_df d (by decide) h.2.1.1, iN_df d (by decide) h.2.1.2⟩, ⟨gP_df d (by decide) h.2.2.1.1, iP_df d (by decide) h.2.2.1.2⟩, ⟨gQ_df d (by decide) (by decide) h.2.2.2.1.1, iQ_df d (by decide) (by decide) h.2.2.2.1.2⟩, ⟨gT_df d (by decide) h.2.2.2.2.1.1, iT_df d (by decide) h.2.2.2.2.1.2⟩, ⟨gR_df d (by decide) h.2.2.2.2.2.1.1, iR_df d (by decide) h.2.2.2.2.2.1.2⟩, ⟨gS_df d (by decide) h.2.2.2.2.2.2.1.1, iS_df d (by decide) h.2.2.2.2.2.2.1.2⟩, ⟨gE_df d (by decide) h.2.2.2.2.2.2.2.1.1, iE_df d (by decide) h.2.2.2.2.2.2.2.1.2⟩, ⟨gB_df d (by decide) h.2.2.2.2.2.2.2.2.1.1, iB_df d (by decide) h.2.2.2.2.2.2.2.2.1.2⟩, ⟨gM_df d (by decide) h.2.2.2.2.2.2.2.2.2.1.1, iM_df d (by decide) h.2.2.2.2.2.2.2.2.2.1.2⟩, gL_df d (by decide) h.2.2.2.2.2.2.2.2.2.2.1, gH_df d (by decide) h.2.2.2.2.2.2.2.2.2.2.2⟩
theorem fg_hi {f : Nat} (h : 72 ≤ f) : fg f = 0 := by
  unfold fg
  rw [if_neg (by omega), if_neg (by omega), if_neg (by omega), if_neg (by omega), if_neg (by omega), if_neg (by omega), if_neg (by omega), if_neg (by omega), if_neg (by omega), if_neg (by omega), if_neg (by omega)]
theorem ag_hi {own : Nat → Nat} {h : Nat} (h1 : 195 ≤ h) (h2 : h ≤ 239) : ag own h = 0 := by
  have e1 : ∀ x ∈ zPkL, x ≤ 193 := by decide
  have e2 : ∀ x ∈ zBlL, x ≤ 193 := by decide
  unfold ag
  rw [if_pos h2, if_neg (fun q => by have := e1 h q; omega), if_neg (fun q => by have := e2 h q; omega), if_neg (by omega), if_neg (by omega), if_neg (by omega)]
theorem zmk_df {own : Nat → Nat} {w : zW} {s t : zSt} : zDf 0 own w (zmk w t) s s :=
  ⟨rfl, fun f hf h => if_neg (fun q => hf (fg_hi q.2.1)), rfl, fun h hh j => if_neg (fun q => hh (ag_hi q.1 q.2)), rfl, fun _ _ _ => rfl⟩
theorem zJ_mk {B : Int} {e : Nat} {own : Nat → Nat} {w : zW} {s t : zSt} (h : zJ0 B e own s w) : zJ0 B e own s (zmk w t) := zJ_0 h zmk_df
