-- what a step of the interpreter gives on the machine
def zGo (i pc : Nat) (ls : List (Option zV)) (st : List zV) (w : zW) (pc' : Nat) (ls' : List (Option zV)) (st' : List zV) (w1 : zW) : Prop := ∀ (p : Program) (l : Launch) (e : Env) (R : Room) (s : State) (m : MethodId) (args : Array Value) (below : List Frame) (meth : Method) (c : Code) (Q : State → Prop) (B b : Nat) (D : va_G) (S0 : Nat), zCtx p R s m args meth c B D i → B + zn w1 ≤ s.heap.size + R.cells → zsl w1 ≤ S0 + R.slots →
  zG p l e R s m args below meth c Q B b D S0 i pc' ls' st' w1 → zG p l e R s m args below meth c Q B b D S0 i pc ls st w
def zCa (i pc : Nat) (ls : List (Option zV)) (st : List zV) (w : zW) (j : Nat) (vs : List zV) (pc' : Nat) (rest : List zV) : Prop := zJok j ∧ vs.length ≤ zL j ∧ ∀ (r : Option zV) (w' : zW), zn w ≤ zn w' ∧ zsl w ≤ zsl w' → ∀ (p : Program) (l : Launch) (e : Env) (R : Room) (s : State) (m : MethodId) (args : Array Value) (below : List Frame) (meth : Method) (c : Code) (Q : State → Prop) (B b : Nat) (D : va_G) (S0 : Nat), zMet l B b D j vs w r w' → zCtx p R s m args meth c B D i → B + zn w' ≤ s.heap.size + R.cells → zsl w' ≤ S0 + R.slots →
  zG p l e R s m args below meth c Q B b D S0 i pc' ls (r.toList ++ rest) w' → zG p l e R s m args below meth c Q B b D S0 i pc ls st w
def zRo (i pc : Nat) (st : List zV) (v : Option zV) : Prop := ∃ ins, decode (zB i) pc = .ok (ins, 1) ∧ st = v.toList ∧ ((ins = .return_ ∧ v = none ∧ zRt i = 0) ∨ (ins = .ireturn ∧ ∃ x, v = some (.inl x) ∧ (zRt i = 1 ∨ (zRt i = 2 ∧ (zN x = 0 ∨ zN x = 1)))) ∨ (ins = .areturn ∧ ∃ x, v = some (.inr x) ∧ zRt i = 3))
def zLfOK (i pc : Nat) (ls : List (Option zV)) (st : List zV) (w : zW) (lf : zLf) : Prop := match lf with
  | .inl q => (zn w ≤ zn q.2.2.2 ∧ zsl w ≤ zsl q.2.2.2) ∧ zGo i pc ls st w q.1 q.2.1 q.2.2.1 q.2.2.2
  | .inr (.inl q) => zCa i pc ls st w q.1 q.2.1 q.2.2.1 q.2.2.2
  | .inr (.inr v) => zRo i pc st v
theorem zok_go {i pc : Nat} {ls : List (Option zV)} {st : List zV} {w : zW} {pc' : Nat} {ls' : List (Option zV)} {st' : List zV} (h : zGo i pc ls st w pc' ls' st' w) : zLfOK i pc ls st w (.inl (pc', ls', st', w)) := ⟨⟨Nat.le_refl _, Nat.le_refl _⟩, h⟩
theorem zok_st {i pc : Nat} {ls : List (Option zV)} {st : List zV} {w : zW} {pc' : Nat} {ls' : List (Option zV)} {st' : List zV} {w1 : zW} (hw : w1.1 = w.1) (h : zGo i pc ls st w pc' ls' st' w1) : zLfOK i pc ls st w (.inl (pc', ls', st', w1)) :=
  ⟨⟨Nat.le_of_eq (congrArg (fun q : zS => q.1) hw.symm), Nat.le_of_eq (congrArg (fun q : zS => q.2.1) hw.symm)⟩, h⟩
theorem zok_new {i pc : Nat} {ls : List (Option zV)} {st : List zV} {w : zW} {pc' : Nat} {ls' : List (Option zV)} {st' : List zV} {k n : Nat} (h : zGo i pc ls st w pc' ls' st' (znew w k n)) : zLfOK i pc ls st w (.inl (pc', ls', st', znew w k n)) :=
  ⟨⟨Nat.le_succ _, Nat.le_add_right _ _⟩, h⟩
theorem zand {a b : Bool} (h : (a && b) = true) : a = true ∧ b = true := Bool.and_eq_true_iff.mp h
set_option maxHeartbeats 4000000 in
theorem zs_all {i pc : Nat} {ls : List (Option zV)} {st : List zV} {w : zW} {ins : Jvm.ClassFile.Instr} {len : Nat} {z : Int} {res : List (Nat × Nat)} {lf : zLf} (hdg : decode (zB i) pc = .ok (ins, len)) (hch : zchk i (pc, ins, len, z, res) = true) (hw : zOKw (zY i).name (zY i).cls (pc, ins, len, z, res))
    (h : zins ins len z res i pc ls st w = some lf) : zLfOK i pc ls st w lf := by
  cases ins
  case aconst_null =>
    have hl : len = 1 := of_decide_eq_true hch
    subst hl
    replace h : zgo (pc + 1) ls (.inr none :: st) w = some lf := h
    unfold zgo at h
    cases h
    exact zok_go (fun _ _ _ _ _ _ _ _ _ _ _ _ _ _ _ hX hc1 hs1 hk => zs_null hX hdg hk)
  case iconst n =>
    have hl : len = 1 := of_decide_eq_true hch
    subst hl
    replace h : zgo (pc + 1) ls (.inl n :: st) w = some lf := h
    unfold zgo at h
    cases h
    exact zok_go (fun _ _ _ _ _ _ _ _ _ _ _ _ _ _ _ hX hc1 hs1 hk => zs_iconst hX hdg hk)
  case bipush n =>
    obtain ⟨hl, hv⟩ := zand hch
    replace hl : len = 2 := of_decide_eq_true hl
    have hv := of_decide_eq_true hv
    subst hl
    replace h : zgo (pc + 2) ls (.inl n :: st) w = some lf := h
    unfold zgo at h
    cases h
    exact zok_go (fun _ _ _ _ _ _ _ _ _ _ _ _ _ _ _ hX hc1 hs1 hk => zs_bipush hX hdg hv hk)
  case sipush n =>
    obtain ⟨hl, hv⟩ := zand hch
    replace hl : len = 3 := of_decide_eq_true hl
    have hv := of_decide_eq_true hv
    subst hl
    replace h : zgo (pc + 3) ls (.inl n :: st) w = some lf := h
    unfold zgo at h
    cases h
    exact zok_go (fun _ _ _ _ _ _ _ _ _ _ _ _ _ _ _ hX hc1 hs1 hk => zs_sipush hX hdg hv hk)
  case ldc ix =>
    have hl : len = 2 := of_decide_eq_true hch
    subst hl
    replace h : zgo (pc + 2) ls (.inl z :: st) w = some lf := h
    unfold zgo at h
    cases h
    exact zok_go (fun _ _ _ _ _ _ _ _ _ _ _ _ _ _ _ hX hc1 hs1 hk => zs_ldc hX hdg hw hk)
  case ldc_w ix =>
    have hl : len = 3 := of_decide_eq_true hch
    subst hl
    replace h : zgo (pc + 3) ls (.inl z :: st) w = some lf := h
    unfold zgo at h
    cases h
    exact zok_go (fun _ _ _ _ _ _ _ _ _ _ _ _ _ _ _ hX hc1 hs1 hk => zs_ldcw hX hdg hw hk)
  case checkcast ix =>
    have hl : len = 3 := of_decide_eq_true hch
    subst hl
    replace h : zi_cast pc ls st w = some lf := h
    unfold zi_cast zgo at h
    split at h
    · split at h
      · rename_i hq
        cases h
        exact zok_go (fun _ _ _ _ _ _ _ _ _ _ _ _ _ _ _ hX hc1 hs1 hk => zs_cast hX hdg hw hq hk)
      · cases h
    · cases h
  case iload ix =>
    have hl : len = 2 := of_decide_eq_true hch
    subst hl
    replace h : zi_iload 2 ix pc ls st w = some lf := h
    unfold zi_iload zgo at h
    split at h
    · rename_i hv
      cases h
      exact zok_go (fun _ _ _ _ _ _ _ _ _ _ _ _ _ _ _ hX hc1 hs1 hk => zs_iload hX hdg hv hk)
    · cases h
  case iload_n ix =>
    have hl : len = 1 := of_decide_eq_true hch
    subst hl
    replace h : zi_iload 1 ix.val pc ls st w = some lf := h
    unfold zi_iload zgo at h
    split at h
    · rename_i hv
      cases h
      exact zok_go (fun _ _ _ _ _ _ _ _ _ _ _ _ _ _ _ hX hc1 hs1 hk => zs_iload_n hX hdg hv hk)
    · cases h
  case aload ix =>
    have hl : len = 2 := of_decide_eq_true hch
    subst hl
    replace h : zi_aload 2 ix pc ls st w = some lf := h
    unfold zi_aload zgo at h
    split at h
    · rename_i hv
      cases h
      exact zok_go (fun _ _ _ _ _ _ _ _ _ _ _ _ _ _ _ hX hc1 hs1 hk => zs_aload hX hdg hv hk)
    · cases h
  case aload_n ix =>
    have hl : len = 1 := of_decide_eq_true hch
    subst hl
    replace h : zi_aload 1 ix.val pc ls st w = some lf := h
    unfold zi_aload zgo at h
    split at h
    · rename_i hv
      cases h
      exact zok_go (fun _ _ _ _ _ _ _ _ _ _ _ _ _ _ _ hX hc1 hs1 hk => zs_aload_n hX hdg hv hk)
    · cases h
  case istore ix =>
    have hl : len = 2 := of_decide_eq_true hch
    subst hl
    replace h : zi_istore 2 ix pc ls st w = some lf := h
    unfold zi_istore zgo at h
    split at h
    · split at h
      · rename_i hq
        cases h
        exact zok_go (fun _ _ _ _ _ _ _ _ _ _ _ _ _ _ _ hX hc1 hs1 hk => zs_istore hX hdg hq hk)
      · cases h
    · cases h
  case istore_n ix =>
    have hl : len = 1 := of_decide_eq_true hch
    subst hl
    replace h : zi_istore 1 ix.val pc ls st w = some lf := h
    unfold zi_istore zgo at h
    split at h
    · split at h
      · rename_i hq
        cases h
        exact zok_go (fun _ _ _ _ _ _ _ _ _ _ _ _ _ _ _ hX hc1 hs1 hk => zs_istore_n hX hdg hq hk)
      · cases h
    · cases h
  case astore ix =>
    have hl : len = 2 := of_decide_eq_true hch
    subst hl
    replace h : zi_astore 2 ix pc ls st w = some lf := h
    unfold zi_astore zgo at h
    split at h
    · split at h
      · rename_i hq
        cases h
        exact zok_go (fun _ _ _ _ _ _ _ _ _ _ _ _ _ _ _ hX hc1 hs1 hk => zs_astore hX hdg hq hk)
      · cases h
    · cases h
  case astore_n ix =>
    have hl : len = 1 := of_decide_eq_true hch
    subst hl
    replace h : zi_astore 1 ix.val pc ls st w = some lf := h
    unfold zi_astore zgo at h
    split at h
    · split at h
      · rename_i hq
        cases h
        exact zok_go (fun _ _ _ _ _ _ _ _ _ _ _ _ _ _ _ hX hc1 hs1 hk => zs_astore_n hX hdg hq hk)
      · cases h
    · cases h
  case iinc ix n =>
    have hl : len = 3 ∨ len = 6 := of_decide_eq_true hch
    replace h : zi_iinc len ix n pc ls st w = some lf := h
    unfold zi_iinc zgo at h
    split at h
    · rename_i hv
      cases h
      rcases hl with hl | hl
      · subst hl
        exact zok_go (fun _ _ _ _ _ _ _ _ _ _ _ _ _ _ _ hX hc1 hs1 hk => zs_iinc3 hX hdg hv hk)
      · subst hl
        exact zok_go (fun _ _ _ _ _ _ _ _ _ _ _ _ _ _ _ hX hc1 hs1 hk => zs_iinc6 hX hdg hv hk)
    · cases h
  case pop =>
    have hl : len = 1 := of_decide_eq_true hch
    subst hl
    replace h : zi_pop pc ls st w = some lf := h
    unfold zi_pop zgo at h
    split at h
    · cases h
      exact zok_go (fun _ _ _ _ _ _ _ _ _ _ _ _ _ _ _ hX hc1 hs1 hk => zs_pop hX hdg hk)
    · cases h
  case dup =>
    have hl : len = 1 := of_decide_eq_true hch
    subst hl
    replace h : zi_dup pc ls st w = some lf := h
    unfold zi_dup zgo at h
    split at h
    · cases h
      exact zok_go (fun _ _ _ _ _ _ _ _ _ _ _ _ _ _ _ hX hc1 hs1 hk => zs_dup hX hdg hk)
    · cases h
  case dup_x1 =>
    have hl : len = 1 := of_decide_eq_true hch
    subst hl
    replace h : zi_dup_x1 pc ls st w = some lf := h
    unfold zi_dup_x1 zgo at h
    split at h
    · cases h
      exact zok_go (fun _ _ _ _ _ _ _ _ _ _ _ _ _ _ _ hX hc1 hs1 hk => zs_dup_x1 hX hdg hk)
    · cases h
  case dup2 =>
    have hl : len = 1 := of_decide_eq_true hch
    subst hl
    replace h : zi_dup2 pc ls st w = some lf := h
    unfold zi_dup2 zgo at h
    split at h
    · cases h
      exact zok_go (fun _ _ _ _ _ _ _ _ _ _ _ _ _ _ _ hX hc1 hs1 hk => zs_dup2 hX hdg hk)
    · cases h
  case iadd =>
    have hl : len = 1 := of_decide_eq_true hch
    subst hl
    replace h : zi_bin (fun x y => x + y) pc ls st w = some lf := h
    unfold zi_bin zgo at h
    split at h
    · cases h
      exact zok_go (fun _ _ _ _ _ _ _ _ _ _ _ _ _ _ _ hX hc1 hs1 hk => zs_iadd hX hdg hk)
    · cases h
  case isub =>
    have hl : len = 1 := of_decide_eq_true hch
    subst hl
    replace h : zi_bin (fun x y => x - y) pc ls st w = some lf := h
    unfold zi_bin zgo at h
    split at h
    · cases h
      exact zok_go (fun _ _ _ _ _ _ _ _ _ _ _ _ _ _ _ hX hc1 hs1 hk => zs_isub hX hdg hk)
    · cases h
  case imul =>
    have hl : len = 1 := of_decide_eq_true hch
    subst hl
    replace h : zi_bin (fun x y => x * y) pc ls st w = some lf := h
    unfold zi_bin zgo at h
    split at h
    · cases h
      exact zok_go (fun _ _ _ _ _ _ _ _ _ _ _ _ _ _ _ hX hc1 hs1 hk => zs_imul hX hdg hk)
    · cases h
  case iand =>
    have hl : len = 1 := of_decide_eq_true hch
    subst hl
    replace h : zi_bin zo_and pc ls st w = some lf := h
    unfold zi_bin zgo at h
    split at h
    · cases h
      exact zok_go (fun _ _ _ _ _ _ _ _ _ _ _ _ _ _ _ hX hc1 hs1 hk => zs_iand hX hdg hk)
    · cases h
  case ior =>
    have hl : len = 1 := of_decide_eq_true hch
    subst hl
    replace h : zi_bin zo_or pc ls st w = some lf := h
    unfold zi_bin zgo at h
    split at h
    · cases h
      exact zok_go (fun _ _ _ _ _ _ _ _ _ _ _ _ _ _ _ hX hc1 hs1 hk => zs_ior hX hdg hk)
    · cases h
  case ixor =>
    have hl : len = 1 := of_decide_eq_true hch
    subst hl
    replace h : zi_bin zo_xor pc ls st w = some lf := h
    unfold zi_bin zgo at h
    split at h
    · cases h
      exact zok_go (fun _ _ _ _ _ _ _ _ _ _ _ _ _ _ _ hX hc1 hs1 hk => zs_ixor hX hdg hk)
    · cases h
  case ishl =>
    have hl : len = 1 := of_decide_eq_true hch
    subst hl
    replace h : zi_bin zo_shl pc ls st w = some lf := h
    unfold zi_bin zgo at h
    split at h
    · cases h
      exact zok_go (fun _ _ _ _ _ _ _ _ _ _ _ _ _ _ _ hX hc1 hs1 hk => zs_ishl hX hdg hk)
    · cases h
  case ishr =>
    have hl : len = 1 := of_decide_eq_true hch
    subst hl
    replace h : zi_bin zo_shr pc ls st w = some lf := h
    unfold zi_bin zgo at h
    split at h
    · cases h
      exact zok_go (fun _ _ _ _ _ _ _ _ _ _ _ _ _ _ _ hX hc1 hs1 hk => zs_ishr hX hdg hk)
    · cases h
  case ineg =>
    have hl : len = 1 := of_decide_eq_true hch
    subst hl
    replace h : zi_un (fun x => -x) pc ls st w = some lf := h
    unfold zi_un zgo at h
    split at h
    · cases h
      exact zok_go (fun _ _ _ _ _ _ _ _ _ _ _ _ _ _ _ hX hc1 hs1 hk => zs_ineg hX hdg hk)
    · cases h
  case i2s =>
    have hl : len = 1 := of_decide_eq_true hch
    subst hl
    replace h : zi_un zo_i2s pc ls st w = some lf := h
    unfold zi_un zgo at h
    split at h
    · cases h
      exact zok_go (fun _ _ _ _ _ _ _ _ _ _ _ _ _ _ _ hX hc1 hs1 hk => zs_i2s hX hdg hk)
    · cases h
  case i2b =>
    have hl : len = 1 := of_decide_eq_true hch
    subst hl
    replace h : zi_un zo_i2b pc ls st w = some lf := h
    unfold zi_un zgo at h
    split at h
    · cases h
      exact zok_go (fun _ _ _ _ _ _ _ _ _ _ _ _ _ _ _ hX hc1 hs1 hk => zs_i2b hX hdg hk)
    · cases h
  case idiv =>
    have hl : len = 1 := of_decide_eq_true hch
    subst hl
    replace h : zi_div zo_div pc ls st w = some lf := h
    unfold zi_div zgo at h
    split at h
    · split at h
      · cases h
      · rename_i hq
        cases h
        exact zok_go (fun _ _ _ _ _ _ _ _ _ _ _ _ _ _ _ hX hc1 hs1 hk => zs_idiv hX hdg hq hk)
    · cases h
  case irem =>
    have hl : len = 1 := of_decide_eq_true hch
    subst hl
    replace h : zi_div zo_rem pc ls st w = some lf := h
    unfold zi_div zgo at h
    split at h
    · split at h
      · cases h
      · rename_i hq
        cases h
        exact zok_go (fun _ _ _ _ _ _ _ _ _ _ _ _ _ _ _ hX hc1 hs1 hk => zs_irem hX hdg hq hk)
    · cases h
  case if_icmp cnd off =>
    obtain ⟨hl, ht⟩ := zand hch
    replace hl : len = 3 := of_decide_eq_true hl
    have ht := of_decide_eq_true ht
    subst hl
    replace h : zi_icmp cnd off pc ls st w = some lf := h
    unfold zi_icmp zgo at h
    split at h
    · split at h
      · rename_i hq
        cases h
        exact zok_go (fun _ _ _ _ _ _ _ _ _ _ _ _ _ _ _ hX hc1 hs1 hk => zs_icmp hX hdg ht (by rw [if_pos hq]; exact hk))
      · rename_i hq
        cases h
        exact zok_go (fun _ _ _ _ _ _ _ _ _ _ _ _ _ _ _ hX hc1 hs1 hk => zs_icmp hX hdg ht (by rw [if_neg hq]; exact hk))
    · cases h
  case ifCond cnd off =>
    obtain ⟨hl, ht⟩ := zand hch
    replace hl : len = 3 := of_decide_eq_true hl
    have ht := of_decide_eq_true ht
    subst hl
    replace h : zi_if cnd off pc ls st w = some lf := h
    unfold zi_if zgo at h
    split at h
    · split at h
      · rename_i hq
        cases h
        exact zok_go (fun _ _ _ _ _ _ _ _ _ _ _ _ _ _ _ hX hc1 hs1 hk => zs_if hX hdg ht (by rw [if_pos hq]; exact hk))
      · rename_i hq
        cases h
        exact zok_go (fun _ _ _ _ _ _ _ _ _ _ _ _ _ _ _ hX hc1 hs1 hk => zs_if hX hdg ht (by rw [if_neg hq]; exact hk))
    · cases h
  case if_acmp cnd off =>
    obtain ⟨hl, ht⟩ := zand hch
    replace hl : len = 3 := of_decide_eq_true hl
    have ht := of_decide_eq_true ht
    subst hl
    replace h : zi_acmp cnd off pc ls st w = some lf := h
    unfold zi_acmp zgo at h
    split at h
    · split at h
      · rename_i hq
        cases h
        exact zok_go (fun _ _ _ _ _ _ _ _ _ _ _ _ _ _ _ hX hc1 hs1 hk => zs_acmp hX hdg ht (by rw [if_pos hq]; exact hk))
      · rename_i hq
        cases h
        exact zok_go (fun _ _ _ _ _ _ _ _ _ _ _ _ _ _ _ hX hc1 hs1 hk => zs_acmp hX hdg ht (by rw [if_neg hq]; exact hk))
    · cases h
  case ifnull off =>
    obtain ⟨hl, ht⟩ := zand hch
    replace hl : len = 3 := of_decide_eq_true hl
    have ht := of_decide_eq_true ht
    subst hl
    replace h : zi_ifnull off pc ls st w = some lf := h
    unfold zi_ifnull zgo at h
    split at h
    · cases h
      exact zok_go (fun _ _ _ _ _ _ _ _ _ _ _ _ _ _ _ hX hc1 hs1 hk => zs_ifnull0 hX hdg ht hk)
    · cases h
      exact zok_go (fun _ _ _ _ _ _ _ _ _ _ _ _ _ _ _ hX hc1 hs1 hk => zs_ifnull1 hX hdg hk)
    · cases h
  case ifnonnull off =>
    obtain ⟨hl, ht⟩ := zand hch
    replace hl : len = 3 := of_decide_eq_true hl
    have ht := of_decide_eq_true ht
    subst hl
    replace h : zi_ifnonnull off pc ls st w = some lf := h
    unfold zi_ifnonnull zgo at h
    split at h
    · cases h
      exact zok_go (fun _ _ _ _ _ _ _ _ _ _ _ _ _ _ _ hX hc1 hs1 hk => zs_ifnonnull0 hX hdg hk)
    · cases h
      exact zok_go (fun _ _ _ _ _ _ _ _ _ _ _ _ _ _ _ hX hc1 hs1 hk => zs_ifnonnull1 hX hdg ht hk)
    · cases h
  case goto off =>
    obtain ⟨hl, ht⟩ := zand hch
    replace hl : len = 3 := of_decide_eq_true hl
    have ht := of_decide_eq_true ht
    subst hl
    replace h : zgo (zto pc off) ls st w = some lf := h
    unfold zgo at h
    cases h
    exact zok_go (fun _ _ _ _ _ _ _ _ _ _ _ _ _ _ _ hX hc1 hs1 hk => zs_goto hX hdg ht hk)
  case tableswitch d lo hi offs =>
    have ht := of_decide_eq_true hch
    replace h : zi_table d lo hi offs pc ls st w = some lf := h
    unfold zi_table zgo at h
    split at h
    · split at h
      · rename_i hq
        cases h
        exact zok_go (fun _ _ _ _ _ _ _ _ _ _ _ _ _ _ _ hX hc1 hs1 hk => zs_table0 hX hdg hq ht hk)
      · rename_i hq
        split at h
        · rename_i ho
          split at h
          · rename_i ht2
            cases h
            exact zok_go (fun _ _ _ _ _ _ _ _ _ _ _ _ _ _ _ hX hc1 hs1 hk => zs_table1 hX hdg hq ho ht2 hk)
          · cases h
        · cases h
    · cases h
  case lookupswitch d ps =>
    replace h : zi_lookup d ps pc ls st w = some lf := h
    unfold zi_lookup zgo at h
    split at h
    · split at h
      · rename_i hq
        cases h
        exact zok_go (fun _ _ _ _ _ _ _ _ _ _ _ _ _ _ _ hX hc1 hs1 hk => zs_lookup hX hdg hch hq hk)
      · cases h
    · cases h
  case iaload =>
    have hl : len = 1 := of_decide_eq_true hch
    subst hl
    replace h : zi_iaload pc ls st w = some lf := h
    unfold zi_iaload zgo at h
    split at h
    · split at h
      · rename_i hq
        cases h
        obtain ⟨hk0, h1, h2⟩ := hq
        rcases hk0 with hk0 | hk0
        · exact zok_go (fun _ _ _ _ _ _ _ _ _ _ _ _ _ _ _ hX hc1 hs1 hk => zs_iaload hX hdg hk0 h1 h2 hk)
        · exact zok_go (fun _ _ _ _ _ _ _ _ _ _ _ _ _ _ _ hX hc1 hs1 hk => zs_sload hX hdg hk0 h1 h2 hk)
      · cases h
    · cases h
  case baload =>
    have hl : len = 1 := of_decide_eq_true hch
    subst hl
    replace h : zi_baload pc ls st w = some lf := h
    unfold zi_baload zgo at h
    split at h
    · split at h
      · rename_i hq
        cases h
        exact zok_go (fun _ _ _ _ _ _ _ _ _ _ _ _ _ _ _ hX hc1 hs1 hk => zs_baload hX hdg hq.1 hq.2.1 hq.2.2 hk)
      · cases h
    · cases h
  case aaload =>
    have hl : len = 1 := of_decide_eq_true hch
    subst hl
    replace h : zi_aaload pc ls st w = some lf := h
    unfold zi_aaload zgo at h
    split at h
    · split at h
      · rename_i hq
        cases h
        exact zok_go (fun _ _ _ _ _ _ _ _ _ _ _ _ _ _ _ hX hc1 hs1 hk => zs_aaload hX hdg hq.1 hq.2.1 hq.2.2.1 hq.2.2.2 hk)
      · cases h
    · cases h
  case iastore =>
    have hl : len = 1 := of_decide_eq_true hch
    subst hl
    replace h : zi_iastore pc ls st w = some lf := h
    unfold zi_iastore zgo at h
    split at h
    · split at h
      · rename_i hq
        cases h
        exact zok_st rfl (fun _ _ _ _ _ _ _ _ _ _ _ _ _ _ _ hX hc1 hs1 hk => zs_iastore hX hdg hq.1 hq.2.1 hq.2.2 hk)
      · cases h
    · cases h
  case bastore =>
    have hl : len = 1 := of_decide_eq_true hch
    subst hl
    replace h : zi_bastore pc ls st w = some lf := h
    unfold zi_bastore zgo at h
    split at h
    · split at h
      · rename_i hq
        cases h
        exact zok_st rfl (fun _ _ _ _ _ _ _ _ _ _ _ _ _ _ _ hX hc1 hs1 hk => zs_bastore hX hdg hq.1 hq.2.1 hq.2.2.1 hq.2.2.2 hk)
      · cases h
    · cases h
  case aastore =>
    have hl : len = 1 := of_decide_eq_true hch
    subst hl
    replace h : zi_aastore pc ls st w = some lf := h
    unfold zi_aastore zgo at h
    split at h
    · split at h
      · rename_i hq
        cases h
        exact zok_st rfl (fun _ _ _ _ _ _ _ _ _ _ _ _ _ _ _ hX hc1 hs1 hk => zs_aastore0 hX hdg hq.1 hq.2.1 hq.2.2.1 hq.2.2.2 hk)
      · cases h
    · split at h
      · rename_i hq
        cases h
        exact zok_st rfl (fun _ _ _ _ _ _ _ _ _ _ _ _ _ _ _ hX hc1 hs1 hk => zs_aastore1 hX hdg hq.1 hq.2.1 hq.2.2.1 hq.2.2.2.1 hq.2.2.2.2 hk)
      · cases h
    · cases h
  case arraylength =>
    have hl : len = 1 := of_decide_eq_true hch
    subst hl
    replace h : zi_alen pc ls st w = some lf := h
    unfold zi_alen zgo at h
    split at h
    · split at h
      · rename_i hq
        cases h
        exact zok_go (fun _ _ _ _ _ _ _ _ _ _ _ _ _ _ _ hX hc1 hs1 hk => zs_alen hX hdg hq.1 hq.2 hk)
      · cases h
    · cases h
  case newarray t =>
    have hl : len = 2 := of_decide_eq_true hch
    subst hl
    cases t
    case int =>
      replace h : zi_newarray zNC pc ls st w = some lf := h
      unfold zi_newarray zgo at h
      split at h
      · split at h
        · rename_i hq
          cases h
          exact zok_new (fun _ _ _ _ _ _ _ _ _ _ _ _ _ _ _ hX hc1 hs1 hk => zs_newi hX hdg hq.1 hq.2 zw_int hc1 hs1 hk)
        · cases h
      · cases h
    case boolean =>
      replace h : zi_newarray (zNC + 1) pc ls st w = some lf := h
      unfold zi_newarray zgo at h
      split at h
      · split at h
        · rename_i hq
          cases h
          exact zok_new (fun _ _ _ _ _ _ _ _ _ _ _ _ _ _ _ hX hc1 hs1 hk => zs_newz hX hdg hq.1 hq.2 zw_boolean hc1 hs1 hk)
        · cases h
      · cases h
    all_goals exact absurd (show (none : Option zLf) = some lf from h) (fun q => by cases q)
  case anewarray ix =>
    have hl : len = 3 := of_decide_eq_true hch
    subst hl
    replace hw : zall (zAok (zY i).cls ix) res := hw
    replace h : zi_anewarray res pc ls st w = some lf := h
    unfold zi_anewarray zgo at h
    split at h
    · split at h
      · rename_i hq
        cases h
        exact zok_new (fun _ _ _ _ _ _ _ _ _ _ _ _ _ _ _ hX hc1 hs1 hk => zs_newq hX hdg hw.1 hq.1 hq.2 hc1 hs1 hk)
      · cases h
    · cases h
  case new ix =>
    have hl : len = 3 := of_decide_eq_true hch
    subst hl
    replace hw : zall (zNok (zY i).cls ix) res := hw
    replace h : zi_new res pc ls st w = some lf := h
    unfold zi_new zgo at h
    split at h
    · cases h
      exact zok_new (fun _ _ _ _ _ _ _ _ _ _ _ _ _ _ _ hX hc1 hs1 hk => zs_new hX hdg hw.1 hc1 hs1 hk)
    · cases h
  case getfield ix =>
    have hl : len = 3 := of_decide_eq_true hch
    subst hl
    replace hw : zall (zFok (zY i).name (zY i).cls ix false) res := hw
    replace h : zi_get res pc ls st w = some lf := h
    unfold zi_get zgo at h
    split at h
    · split at h
      · rename_i hf
        cases h
        exact zok_go (fun _ _ _ _ _ _ _ _ _ _ _ _ _ _ _ hX hc1 hs1 hk => zs_get hX hdg hw hf hk)
      · cases h
    · cases h
  case putfield ix =>
    have hl : len = 3 := of_decide_eq_true hch
    subst hl
    replace hw : zall (zFok (zY i).name (zY i).cls ix true) res := hw
    replace h : zi_put res pc ls st w = some lf := h
    unfold zi_put zgo at h
    split at h
    · split at h
      · rename_i hf
        split at h
        · rename_i hq
          cases h
          exact zok_st rfl (fun _ _ _ _ _ _ _ _ _ _ _ _ _ _ _ hX hc1 hs1 hk => zs_put0 hX hdg hw hf hq hk)
        · cases h
      · cases h
    · split at h
      · rename_i hf
        split at h
        · rename_i hq
          cases h
          exact zok_st rfl (fun _ _ _ _ _ _ _ _ _ _ _ _ _ _ _ hX hc1 hs1 hk => zs_put2 hX hdg hw hf hq hk)
        · cases h
      · cases h
    · cases h
  case invokestatic ix =>
    obtain ⟨hl, hrm⟩ := zand hch
    replace hl : len = 3 := of_decide_eq_true hl
    subst hl
    replace hw : zall (zSok (zY i).cls ix z) res := hw
    replace h : zi_static z res pc ls st w = some lf := h
    unfold zi_static zgo at h
    split at h
    · have hlf : zleaf i = true := (List.all_eq_true.mp hrm) (0, 0) (List.mem_cons_self)
      have hw2 := hw.1
      split at h
      · split at h
        · rename_i hq
          cases h
          obtain ⟨q1, q2, q3, q4, q5, q6, q7, q8⟩ := hq
          rcases hw2 with ⟨-, hw2⟩ | ⟨hne, -⟩ | ⟨hne, -⟩
          · exact zok_st rfl (fun _ _ _ _ _ _ _ _ _ _ _ _ _ _ _ hX hc1 hs1 hk => zs_copy hX hdg hlf hw2 q1 q2 q3 q4 q5 q6 q7 q8 hk)
          · cases hne
          · cases hne
        · cases h
      · cases h
    · have hlf : zleaf i = true := (List.all_eq_true.mp hrm) (1, 0) (List.mem_cons_self)
      have hw2 := hw.1
      split at h
      · split at h
        · rename_i hq
          cases h
          rcases hw2 with ⟨hne, -⟩ | ⟨-, hw2⟩ | ⟨hne, -⟩
          · cases hne
          · exact zok_go (fun _ _ _ _ _ _ _ _ _ _ _ _ _ _ _ hX hc1 hs1 hk => zs_min hX hdg hlf hw2 hq hc1 hs1 hk)
          · cases hne
        · cases h
      · cases h
    · rename_i j
      have hlf : zroom i j z.toNat = true := (List.all_eq_true.mp hrm) (j, 1) (List.mem_cons_self)
      have hw2 := hw.1
      split at h
      · rename_i hq
        cases h
        rcases hw2 with ⟨hne, -⟩ | ⟨hne, -⟩ | ⟨-, hJ, hpar, hst, hlk⟩
        · cases hne
        · cases hne
        · refine ⟨hJ, ?_, fun r w' hm _ _ _ _ _ _ _ _ _ _ _ _ _ _ _ hM hX hc1 hs1 hk => zs_static hdg hX hlf hJ hpar hst hlk hq.1 hq.2 hM hm hc1 hs1 hk⟩
          have := (zrm hlf).2.2
          show (st.take z.toNat).reverse.length ≤ zL j
          simp
          omega
      · cases h
    · cases h
  case invokevirtual ix =>
    obtain ⟨hl, hrm⟩ := zand hch
    replace hl : len = 3 := of_decide_eq_true hl
    subst hl
    replace hw : (z = (-1 : Int) → zClw (zY i).cls ix) ∧ zall (zVok (zY i).cls ix z) res := hw
    replace h : (if z = -1 then zi_clone pc ls st w else zi_virtual z res pc st w) = some lf := h
    have hrm : (if z = -1 then zleaf i else res.all (fun r => zroom i r.2 (z.toNat + 1))) = true := hrm
    by_cases hz : z = -1
    · rw [if_pos hz] at h hrm
      unfold zi_clone zgo at h
      split at h
      · split at h
        · rename_i hq
          cases h
          exact ⟨⟨Nat.le_succ _, Nat.le_add_right _ _⟩, (fun _ _ _ _ _ _ _ _ _ _ _ _ _ _ _ hX hc1 hs1 hk => zs_clone hX hdg hrm (hw.1 hz) hq.1 hq.2 hc1 hs1 hk)⟩
        · cases h
      · cases h
    rw [if_neg hz] at h hrm
    unfold zi_virtual at h
    split at h
    · rename_i hd
      split at h
      · rename_i j hj
        split at h
        · rename_i hq
          cases h
          have hmem := zlk_mem _ _ _ hj
          have hlf : zroom i j (z.toNat + 1) = true := (List.all_eq_true.mp hrm) _ hmem
          have hV := hw.2.get _ hmem
          refine ⟨?_, ?_, fun r w' hm _ _ _ _ _ _ _ _ _ _ _ _ _ _ _ hM hX hc1 hs1 hk => zs_virtual hdg hX hlf hV hd hq hM hm hc1 hs1 hk⟩
          · obtain ⟨C, TT, N, -, -, hJ, -⟩ := hV
            exact hJ
          · have := (zrm hlf).2.2
            show (_ :: (st.take z.toNat).reverse).length ≤ zL j
            simp
            omega
        · cases h
      · cases h
    · cases h
  case invokespecial ix =>
    obtain ⟨hl, hrm⟩ := zand hch
    replace hl : len = 3 := of_decide_eq_true hl
    subst hl
    replace hw : (res = [] → zOb (zY i).cls ix) ∧ zall (zIok (zY i).cls ix z) res := hw
    replace h : zi_special z res pc ls st w = some lf := h
    unfold zi_special zgo at h
    split at h
    · have hlf : zleaf i = true := hrm
      split at h
      · split at h
        · rename_i hq
          cases h
          exact zok_go (fun _ _ _ _ _ _ _ _ _ _ _ _ _ _ _ hX hc1 hs1 hk => zs_objinit hX hdg hlf (hw.1 rfl) hq hk)
        · cases h
      · cases h
    · rename_i j _
      have hlf : zroom i j (z.toNat + 1) = true := (List.all_eq_true.mp hrm) _ (List.mem_cons_self)
      obtain ⟨hJ, hpar, hnam, hre, hin, hlk⟩ := hw.2.1
      split at h
      · rename_i hd
        split at h
        · rename_i hq
          cases h
          refine ⟨hJ, ?_, fun r w' hm _ _ _ _ _ _ _ _ _ _ _ _ _ _ _ hM hX hc1 hs1 hk => zs_special hdg hX hlf hJ hpar hnam hre hin hlk hd hq.1 hM hm hc1 hs1 hk⟩
          have := (zrm hlf).2.2
          show (_ :: (st.take z.toNat).reverse).length ≤ zL j
          simp
          omega
        · cases h
      · cases h
    · cases h
  case return_ =>
    have hl : len = 1 := of_decide_eq_true hch
    subst hl
    replace h : zi_ret i st = some lf := h
    unfold zi_ret at h
    split at h
    · split at h
      · rename_i hq
        cases h
        exact ⟨_, hdg, rfl, Or.inl ⟨rfl, rfl, hq⟩⟩
      · cases h
    · cases h
  case ireturn =>
    have hl : len = 1 := of_decide_eq_true hch
    subst hl
    replace h : zi_iret i st = some lf := h
    unfold zi_iret at h
    split at h
    · split at h
      · rename_i hq
        cases h
        exact ⟨_, hdg, rfl, Or.inr (Or.inl ⟨rfl, _, rfl, hq⟩)⟩
      · cases h
    · cases h
  case areturn =>
    have hl : len = 1 := of_decide_eq_true hch
    subst hl
    replace h : zi_aret i st = some lf := h
    unfold zi_aret at h
    split at h
    · split at h
      · rename_i hq
        cases h
        exact ⟨_, hdg, rfl, Or.inr (Or.inr ⟨rfl, _, rfl, hq⟩)⟩
      · cases h
    · cases h
  all_goals exact absurd (show (none : Option zLf) = some lf from h) (fun q => by cases q)
