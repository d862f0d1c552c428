-- changes of several groups at once
def zDv (l : List Nat) (own : Nat → Nat) (w v : zW) (s t : zSt) : Prop := v.1 = w.1 ∧ (∀ f, fg f ∉ l → ∀ h, zf v f h = zf w f h) ∧ v.2.2.1 = w.2.2.1 ∧ (∀ h, ag own h ∉ l → ∀ j, za v h j = za w h j) ∧ v.2.2.2.2 = w.2.2.2.2 ∧ ∀ a, sg a ∉ l → ∀ x, t a x = s a x
def zMw (own : Nat → Nat) (w v : zW) (k : Nat) : zW := (w.1, fun f h => if fg f < k then zf v f h else zf w f h, w.2.2.1, fun h j => if ag own h < k then za v h j else za w h j, w.2.2.2.2)
def zMs (s t : zSt) (k : Nat) : zSt := fun a x => if sg a < k then t a x else s a x
theorem fg_le {f : Nat} : fg f < 12 := by
  unfold fg
  repeat' split
  all_goals omega
theorem ag_le {own : Nat → Nat} {h : Nat} : ag own h < 12 := by
  unfold ag
  repeat' split
  all_goals omega
theorem sg_le {a : Nat} : sg a < 12 := by
  unfold sg
  repeat' split
  all_goals omega
theorem zMw_0 {own : Nat → Nat} {w v : zW} : zMw own w v 0 = w := zWx rfl (fun f h => show (if fg f < 0 then zf v f h else zf w f h) = zf w f h from if_neg (Nat.not_lt_zero _)) (fun _ _ => rfl) (fun h j => show (if ag own h < 0 then za v h j else za w h j) = za w h j from if_neg (Nat.not_lt_zero _)) (fun _ _ => rfl)
theorem zMs_0 {s t : zSt} : zMs s t 0 = s := funext fun a => funext fun x => if_neg (by omega)
theorem zMs_12 {s t : zSt} : zMs s t 12 = t := funext fun a => funext fun x => if_pos sg_le
theorem zMw_12 {l : List Nat} {own : Nat → Nat} {w v : zW} {s t : zSt} (d : zDv l own w v s t) : zMw own w v 12 = v := zWx d.1.symm (fun f h => if_pos fg_le) (fun f h => congrArg (fun q => q f h) d.2.2.1.symm) (fun h j => if_pos ag_le) (fun f h => congrArg (fun q => q f h) d.2.2.2.2.1.symm)
theorem zMw_s {l : List Nat} {own : Nat → Nat} {w v : zW} {s t : zSt} (d : zDv l own w v s t) (k : Nat) : (k ∈ l ∧ zDf k own (zMw own w v k) (zMw own w v (k + 1)) (zMs s t k) (zMs s t (k + 1))) ∨ (zMw own w v (k + 1) = zMw own w v k ∧ zMs s t (k + 1) = zMs s t k) := by
  by_cases hk : k ∈ l
  · refine Or.inl ⟨hk, rfl, fun f hf h => ?_, rfl, fun h hh j => ?_, rfl, fun a ha x => ?_⟩
    · show (if fg f < k + 1 then zf v f h else zf w f h) = (if fg f < k then zf v f h else zf w f h)
      by_cases e : fg f < k
      · rw [if_pos e, if_pos (by omega)]
      · rw [if_neg e, if_neg (by omega)]
    · show (if ag own h < k + 1 then za v h j else za w h j) = (if ag own h < k then za v h j else za w h j)
      by_cases e : ag own h < k
      · rw [if_pos e, if_pos (by omega)]
      · rw [if_neg e, if_neg (by omega)]
    · show (if sg a < k + 1 then t a x else s a x) = (if sg a < k then t a x else s a x)
      by_cases e : sg a < k
      · rw [if_pos e, if_pos (by omega)]
      · rw [if_neg e, if_neg (by omega)]
  · refine Or.inr ⟨zWx rfl (fun f h => ?_) (fun _ _ => rfl) (fun h j => ?_) (fun _ _ => rfl), funext fun a => funext fun x => ?_⟩
    · show (if fg f < k + 1 then zf v f h else zf w f h) = (if fg f < k then zf v f h else zf w f h)
      by_cases e : fg f < k
      · rw [if_pos e, if_pos (by omega)]
      · rw [if_neg e]
        by_cases e2 : fg f < k + 1
        · rw [if_pos e2]
          exact d.2.1 f (fun q => hk (by rw [show k = fg f by omega]; exact q)) h
        · rw [if_neg e2]
    · show (if ag own h < k + 1 then za v h j else za w h j) = (if ag own h < k then za v h j else za w h j)
      by_cases e : ag own h < k
      · rw [if_pos e, if_pos (by omega)]
      · rw [if_neg e]
        by_cases e2 : ag own h < k + 1
        · rw [if_pos e2]
          exact d.2.2.2.1 h (fun q => hk (by rw [show k = ag own h by omega]; exact q)) j
        · rw [if_neg e2]
    · show (if sg a < k + 1 then t a x else s a x) = (if sg a < k then t a x else s a x)
      by_cases e : sg a < k
      · rw [if_pos e, if_pos (by omega)]
      · rw [if_neg e]
        by_cases e2 : sg a < k + 1
        · rw [if_pos e2]
          exact d.2.2.2.2.2 a (fun q => hk (by rw [show k = sg a by omega]; exact q)) x
        · rw [if_neg e2]
theorem zDv.chain {l : List Nat} {own : Nat → Nat} {w v : zW} {s t : zSt} (d : zDv l own w v s t) (P : zSt → zW → Prop) (hP : ∀ X u1 u2 s1 s2, X ∈ l → zDf X own u1 u2 s1 s2 → P s1 u1 → P s2 u2) (h : P s w) : P t v := by
  have hk : ∀ k, P (zMs s t k) (zMw own w v k) := by
    intro k
    induction k with
    | zero =>
      rw [zMs_0, zMw_0]
      exact h
    | succ k ih =>
      rcases zMw_s d k with ⟨a, b⟩ | ⟨a, b⟩
      · exact hP k _ _ _ _ a b ih
      · rw [a, b]
        exact ih
  have := hk 12
  rw [zMs_12, zMw_12 d] at this
  exact this
theorem zmem {l : List Nat} {X Y : Nat} (h : X ∈ l) (h2 : Y ∉ l) : X ≠ Y := fun e => h2 (e ▸ h)
theorem zCon_g  {l : List Nat} {own : Nat → Nat} {w v : zW} {s t : zSt} (d : zDv l own w v s t)(h0 : 11 ∉ l) (h : zCon w) : zCon v := d.chain (fun s w => zCon w) (fun X _ _ _ _ hx d2 q => zCon_df d2 (zmem hx h0) q) h
theorem gN_g  {l : List Nat} {own : Nat → Nat} {w v : zW} {s t : zSt} (d : zDv l own w v s t)(h0 : 1 ∉ l) (h : gN s w) : gN t v := d.chain (fun s w => gN s w) (fun X _ _ _ _ hx d2 q => gN_df d2 (zmem hx h0) q) h
theorem gP_g {e : Nat}  {l : List Nat} {own : Nat → Nat} {w v : zW} {s t : zSt} (d : zDv l own w v s t)(h0 : 2 ∉ l) (h : gP e s w) : gP e t v := d.chain (fun s w => gP e s w) (fun X _ _ _ _ hx d2 q => gP_df d2 (zmem hx h0) q) h
theorem gQ_g {e : Nat}  {l : List Nat} {own : Nat → Nat} {w v : zW} {s t : zSt} (d : zDv l own w v s t)(h0 : 3 ∉ l) (h1 : 1 ∉ l) (h : gQ e s w) : gQ e t v := d.chain (fun s w => gQ e s w) (fun X _ _ _ _ hx d2 q => gQ_df d2 (zmem hx h0) (zmem hx h1) q) h
theorem gT_g  {l : List Nat} {own : Nat → Nat} {w v : zW} {s t : zSt} (d : zDv l own w v s t)(h0 : 4 ∉ l) (h : gT own s w) : gT own t v := d.chain (fun s w => gT own s w) (fun X _ _ _ _ hx d2 q => gT_df d2 (zmem hx h0) q) h
theorem gR_g  {l : List Nat} {own : Nat → Nat} {w v : zW} {s t : zSt} (d : zDv l own w v s t)(h0 : 5 ∉ l) (h : gR own s w) : gR own t v := d.chain (fun s w => gR own s w) (fun X _ _ _ _ hx d2 q => gR_df d2 (zmem hx h0) q) h
theorem gS_g  {l : List Nat} {own : Nat → Nat} {w v : zW} {s t : zSt} (d : zDv l own w v s t)(h0 : 6 ∉ l) (h : gS s w) : gS t v := d.chain (fun s w => gS s w) (fun X _ _ _ _ hx d2 q => gS_df d2 (zmem hx h0) q) h
theorem gE_g  {l : List Nat} {own : Nat → Nat} {w v : zW} {s t : zSt} (d : zDv l own w v s t)(h0 : 7 ∉ l) (h : gE s w) : gE t v := d.chain (fun s w => gE s w) (fun X _ _ _ _ hx d2 q => gE_df d2 (zmem hx h0) q) h
theorem gB_g  {l : List Nat} {own : Nat → Nat} {w v : zW} {s t : zSt} (d : zDv l own w v s t)(h0 : 8 ∉ l) (h : gB s w) : gB t v := d.chain (fun s w => gB s w) (fun X _ _ _ _ hx d2 q => gB_df d2 (zmem hx h0) q) h
theorem gM_g  {l : List Nat} {own : Nat → Nat} {w v : zW} {s t : zSt} (d : zDv l own w v s t)(h0 : 9 ∉ l) (h : gM s w) : gM t v := d.chain (fun s w => gM s w) (fun X _ _ _ _ hx d2 q => gM_df d2 (zmem hx h0) q) h
theorem gL_g  {l : List Nat} {own : Nat → Nat} {w v : zW} {s t : zSt} (d : zDv l own w v s t)(h0 : 10 ∉ l) (h : gL s w) : gL t v := d.chain (fun s w => gL s w) (fun X _ _ _ _ hx d2 q => gL_df d2 (zmem hx h0) q) h
theorem gH_g  {l : List Nat} {own : Nat → Nat} {w v : zW} {s t : zSt} (d : zDv l own w v s t)(h0 : 5 ∉ l) (h : gH s w) : gH t v := d.chain (fun s w => gH s w) (fun X _ _ _ _ hx d2 q => gH_df d2 (zmem hx h0) q) h
theorem iN_g  {l : List Nat} {own : Nat → Nat} {w v : zW} {s t : zSt} (d : zDv l own w v s t)(h0 : 1 ∉ l) (h : iN s) : iN t := d.chain (fun s w => iN s) (fun X _ _ _ _ hx d2 q => iN_df d2 (zmem hx h0) q) h
theorem iP_g  {l : List Nat} {own : Nat → Nat} {w v : zW} {s t : zSt} (d : zDv l own w v s t)(h0 : 2 ∉ l) (h : iP s) : iP t := d.chain (fun s w => iP s) (fun X _ _ _ _ hx d2 q => iP_df d2 (zmem hx h0) q) h
theorem iQ_g  {l : List Nat} {own : Nat → Nat} {w v : zW} {s t : zSt} (d : zDv l own w v s t)(h0 : 3 ∉ l) (h1 : 1 ∉ l) (h : iQ s) : iQ t := d.chain (fun s w => iQ s) (fun X _ _ _ _ hx d2 q => iQ_df d2 (zmem hx h0) (zmem hx h1) q) h
theorem iT_g  {l : List Nat} {own : Nat → Nat} {w v : zW} {s t : zSt} (d : zDv l own w v s t)(h0 : 4 ∉ l) (h : iT s) : iT t := d.chain (fun s w => iT s) (fun X _ _ _ _ hx d2 q => iT_df d2 (zmem hx h0) q) h
theorem iS_g {B : Int}  {l : List Nat} {own : Nat → Nat} {w v : zW} {s t : zSt} (d : zDv l own w v s t)(h0 : 6 ∉ l) (h : iS B s) : iS B t := d.chain (fun s w => iS B s) (fun X _ _ _ _ hx d2 q => iS_df d2 (zmem hx h0) q) h
theorem iE_g  {l : List Nat} {own : Nat → Nat} {w v : zW} {s t : zSt} (d : zDv l own w v s t)(h0 : 7 ∉ l) (h : iE s) : iE t := d.chain (fun s w => iE s) (fun X _ _ _ _ hx d2 q => iE_df d2 (zmem hx h0) q) h
theorem iB_g  {l : List Nat} {own : Nat → Nat} {w v : zW} {s t : zSt} (d : zDv l own w v s t)(h0 : 8 ∉ l) (h : iB s) : iB t := d.chain (fun s w => iB s) (fun X _ _ _ _ hx d2 q => iB_df d2 (zmem hx h0) q) h
theorem iM_g  {l : List Nat} {own : Nat → Nat} {w v : zW} {s t : zSt} (d : zDv l own w v s t)(h0 : 9 ∉ l) (h : iM s) : iM t := d.chain (fun s w => iM s) (fun X _ _ _ _ hx d2 q => iM_df d2 (zmem hx h0) q) h
theorem iR_g  {l : List Nat} {own : Nat → Nat} {w v : zW} {s t : zSt} (d : zDv l own w v s t)(h0 : 5 ∉ l) (h : iR s) : iR t := d.chain (fun s w => iR s) (fun X _ _ _ _ hx d2 q => iR_df d2 (zmem hx h0) q) h
theorem zJ_gen {B : Int} {e : Nat} {l : List Nat} {own : Nat → Nat} {w v : zW} {s t : zSt} (d : zDv l own w v s t) (h : zJ0 B e own s w) (h11 : 11 ∉ l) (h1 : 1 ∈ l → gN t v ∧ iN t) (h2 : 2 ∈ l → gP e t v ∧ iP t) (h3 : 3 ∈ l ∨ 1 ∈ l → gQ e t v ∧ iQ t) (h4 : 4 ∈ l → gT own t v ∧ iT t) (h5 : 5 ∈ l → (gR own t v ∧ iR t) ∧ gH t v) (h6 : 6 ∈ l → gS t v ∧ iS B t) (h7 : 7 ∈ l → gE t v ∧ iE t) (h8 : 8 ∈ l → gB t v ∧ iB t) (h9 : 9 ∈ l → gM t v ∧ iM t) (h10 : 10 ∈ l → gL t v) : zJ0 B e own t v := by
  obtain ⟨j0, j1, j2, j3, j4, j5, j6, j7, j8, j9, j10, j11⟩ := h
  refine ⟨zCon_g d h11 j0, ?_, ?_, ?_, ?_, ?_, ?_, ?_, ?_, ?_, ?_, ?_⟩
  · by_cases q : 1 ∈ l
    · exact h1 q
    · exact ⟨gN_g d q j1.1, iN_g d q j1.2⟩
  · by_cases q : 2 ∈ l
    · exact h2 q
    · exact ⟨gP_g d q j2.1, iP_g d q j2.2⟩
  · by_cases q : 3 ∈ l
    · exact h3 (Or.inl q)
    · by_cases q2 : 1 ∈ l
      · exact h3 (Or.inr q2)
      · exact ⟨gQ_g d q q2 j3.1, iQ_g d q q2 j3.2⟩
  · by_cases q : 4 ∈ l
    · exact h4 q
    · exact ⟨gT_g d q j4.1, iT_g d q j4.2⟩
  · by_cases q : 5 ∈ l
    · exact (h5 q).1
    · exact ⟨gR_g d q j5.1, iR_g d q j5.2⟩
  · by_cases q : 6 ∈ l
    · exact h6 q
    · exact ⟨gS_g d q j6.1, iS_g d q j6.2⟩
  · by_cases q : 7 ∈ l
    · exact h7 q
    · exact ⟨gE_g d q j7.1, iE_g d q j7.2⟩
  · by_cases q : 8 ∈ l
    · exact h8 q
    · exact ⟨gB_g d q j8.1, iB_g d q j8.2⟩
  · by_cases q : 9 ∈ l
    · exact h9 q
    · exact ⟨gM_g d q j9.1, iM_g d q j9.2⟩
  · by_cases q : 10 ∈ l
    · exact h10 q
    · exact gL_g d q j10
  · by_cases q : 5 ∈ l
    · exact (h5 q).2
    · exact gH_g d q j11
