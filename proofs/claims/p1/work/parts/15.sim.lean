-- the simulation
theorem zstep_ok {i pc : Nat} {ls : List (Option zV)} {st : List zV} {w : zW} {lf : zLf} (h : zstep i pc ls st w = some lf) : zLfOK i pc ls st w lf := by
  unfold zstep at h
  split at h
  · cases h
  · rename_i j hj
    obtain ⟨h1, h2, h3⟩ := zT_ok hj
    exact zs_all h1 h2 h3 h
def zRetOK (p : Program) (l : Launch) (e : Env) (R : Room) (s : State) (m : MethodId) (args : Array Value) (below : List Frame) (meth : Method) (c : Code) (Q : State → Prop) (B b : Nat) (D : va_G) (S0 : Nat) (i : Nat) (r : Option zV) (w' : zW) : Prop := ∀ (pc : Nat) (ls : List (Option zV)) (st : List zV), zRo i pc st r → zG p l e R s m args below meth c Q B b D S0 i pc ls st w'
def zSim (i pc : Nat) (ls : List (Option zV)) (st : List zV) (w : zW) (r : Option zV) (w' : zW) : Prop := ∀ (p : Program) (l : Launch) (e : Env) (R : Room) (s : State) (m : MethodId) (args : Array Value) (below : List Frame) (meth : Method) (c : Code) (Q : State → Prop) (B b : Nat) (D : va_G) (S0 : Nat), zCtx p R s m args meth c B D i → B + zn w' ≤ s.heap.size + R.cells → zsl w' ≤ S0 + R.slots → zRetOK p l e R s m args below meth c Q B b D S0 i r w' → zG p l e R s m args below meth c Q B b D S0 i pc ls st w
theorem zrt0 {r : Option FieldType} (h : zRtB 0 r = true) : r = none := by
  cases r with
  | none => rfl
  | some t => exact absurd (show false = true from h) (by decide)
theorem zrt1 {r : Option FieldType} (h : zRtB 1 r = true) : r = some .int := by
  cases r with
  | none => exact absurd (show false = true from h) (by decide)
  | some t => cases t <;> first | rfl | exact absurd (show false = true from h) (by decide)
theorem zrt2 {r : Option FieldType} (h : zRtB 2 r = true) : r = some .boolean := by
  cases r with
  | none => exact absurd (show false = true from h) (by decide)
  | some t => cases t <;> first | rfl | exact absurd (show false = true from h) (by decide)
theorem zrt3 {r : Option FieldType} (h : zRtB 3 r = true) : ∃ t, r = some t ∧ ((∃ n, t = .object n) ∨ ∃ u, t = .array u) := by
  cases r with
  | none => exact absurd (show false = true from h) (by decide)
  | some t => cases t <;> first | exact ⟨_, rfl, Or.inl ⟨_, rfl⟩⟩ | exact ⟨_, rfl, Or.inr ⟨_, rfl⟩⟩ | exact absurd (show false = true from h) (by decide)
theorem zmet_of {j : Nat} {vs : List zV} {w : zW} {r : Option zV} {w' : zW} (hsim : zSim j 0 (zent j vs) [] w r w') (hm : zn w ≤ zn w' ∧ zsl w ≤ zsl w') (hJ : zJok j) (hlen : vs.length ≤ zL j) (l : Launch) (B b : Nat) (D : va_G) : zMet l B b D j vs w r w' := by
  refine Met.ofW (cc := zB j) (maxL := zL j) (ret := zRe j) hJ.1 rfl ?_
  intro p e s m args below meth c s₁ Bd hml hv
  obtain ⟨rfl, hni, hK, ⟨cA, hr⟩, hsz⟩ := hv
  have hx := Bd.exec
  have hb := Bd.bytes
  have hrt := Bd.returns
  have hts := atoms_spec (ws := zWs j) Bd.pre
  have hown : s.vm.findClass (zY j).cls = some m.cls := findClass_of_methodNamed Bd.named
  have hlocks := Bd.notSynchronized
  have hinm : meth.name = (zY j).name := (name_of_methodNamed Bd.named Bd.method).1
  have hl := lv_entry (vs.map (zcv B b)) (n := zL j) (by rw [zsl_len]; exact hlen)
  rw [lg_entry_eq]
  refine hsim p l e _ s m _ below meth c _ B b D (zsl w) ⟨hx, hb, hml, hown, fun w hw => hts w (List.mem_cons_of_mem _ hw), hni, hK, by omega, fun h => hinm.trans h, Nat.le_refl _, Nat.le_refl _⟩ ?_ ?_ ?_ s.heap [] 0 0 _ ⟨cA, hr, va_S.rf, by omega, by omega, zent_len hlen, zent_has hl⟩
  · show B + zn w' ≤ s.heap.size + (zn w' - zn w)
    omega
  · show zsl w' ≤ zsl w + (zsl w' - zsl w)
    omega
  · intro pc ls st hro H locs cells slots lsA hS
    obtain ⟨ins, hdg, rfl, hor⟩ := hro
    obtain ⟨cA2, hr2, hS1, hc, hs, hll, hl2⟩ := hS
    have hcE : cells = zn w' - zn w := by omega
    have hsE : slots = zsl w' - zsl w := by omega
    subst hcE hsE
    have hQ : ∀ t : State, t.heap = H → s.WarmedH t.vm → zQc B b D r w' (vs.map (zcv B b)).toArray s (.returned (r.map (zcv B b))) t := fun t ht hW => ⟨rfl, ⟨cA2, by rw [ht]; exact hr2.moved hW.alike⟩, hS1.F ht⟩
    have hRt := hJ.2.2.2.2
    rcases hor with ⟨rfl, rfl, h0⟩ | ⟨rfl, x, rfl, h0⟩ | ⟨rfl, x, rfl, h0⟩
    · rw [h0] at hRt
      exact W.vret hx hb (hrt.trans (zrt0 hRt)) hQ hS1.2.2 hdg
    · rcases h0 with h0 | ⟨h0, hx1⟩
      · rw [h0] at hRt
        exact W.iret hx hb (hrt.trans (zrt1 hRt)) hQ hS1.2.2 hdg
      · rw [h0] at hRt
        exact W.zret hx hb (hrt.trans (zrt2 hRt)) (by rcases zbool hx1 with h | h <;> rw [h] <;> rfl) hQ hS1.2.2 hdg
    · rw [h0] at hRt
      obtain ⟨t, ht1, ht2⟩ := zrt3 hRt
      exact W.aret hx hb (hrt.trans ht1) ht2 (by cases x with
        | none => exact Or.inl rfl
        | some h => exact Or.inr ⟨_, rfl⟩) hQ hS1.2.2 hdg
theorem zsim : ∀ (n i pc : Nat) (ls : List (Option zV)) (st : List zV) (w : zW) (r : Option zV) (w' : zW), zx n i pc ls st w = some (r, w') → (zn w ≤ zn w' ∧ zsl w ≤ zsl w') ∧ zSim i pc ls st w r w'
  | 0, _, _, _, _, _, _, _, h => by cases h
  | n + 1, i, pc, ls, st, w, r, w', h => by
    unfold zx at h
    split at h
    · rename_i pc' ls' st' w1 hst
      obtain ⟨⟨m1, m2⟩, hgo⟩ := zstep_ok hst
      obtain ⟨⟨m3, m4⟩, hs1⟩ := zsim n i pc' ls' st' w1 r w' h
      have m1 : zn w ≤ zn w1 := m1
      have m2 : zsl w ≤ zsl w1 := m2
      refine ⟨⟨by omega, by omega⟩, ?_⟩
      intro p l e R s m args below meth c Q B b D S0 hX hc hs hret
      exact hgo p l e R s m args below meth c Q B b D S0 hX (by show B + zn w1 ≤ _; omega) (by show zsl w1 ≤ _; omega) (hs1 p l e R s m args below meth c Q B b D S0 hX hc hs hret)
    · rename_i j vs pc' rest hst
      obtain ⟨hJ, hlen, hca⟩ := zstep_ok hst
      split at h
      · rename_i r1 w1 hcl
        obtain ⟨m1, hs0⟩ := zsim n j 0 (zent j vs) [] w r1 w1 hcl
        obtain ⟨m2, hs1⟩ := zsim n i pc' ls (r1.toList ++ rest) w1 r w' h
        refine ⟨⟨by omega, by omega⟩, ?_⟩
        intro p l e R s m args below meth c Q B b D S0 hX hc hs hret
        exact hca r1 w1 m1 p l e R s m args below meth c Q B b D S0 (zmet_of hs0 m1 hJ hlen l B b D) hX (by omega) (by omega) (hs1 p l e R s m args below meth c Q B b D S0 hX hc hs hret)
      · cases h
    · rename_i v hst
      have hro : zRo i pc st v := zstep_ok hst
      cases h
      exact ⟨⟨Nat.le_refl _, Nat.le_refl _⟩, fun p l e R s m args below meth c Q B b D S0 hX hc hs hret => hret pc ls st hro⟩
    · cases h
