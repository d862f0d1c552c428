-- the script laid over a world that has none (there handle 0 is of kind 1000: a run that touches it ends in nothing)
def zo (L : Nat) (xs : Nat → Int) (w : zW) : zW := ((zn w, zsl w, fun h => if h = 0 then zNC + 2 else zk w h, fun h => if h = 0 then L else zl w h), w.2.1, w.2.2.1, fun h j => if h = 0 then xs j else za w h j, w.2.2.2.2)
theorem zo_k {L : Nat} {xs : Nat → Int} {w : zW} {h : Nat} (hh : h ≠ 0) : zk (zo L xs w) h = zk w h := if_neg hh
theorem zo_l {L : Nat} {xs : Nat → Int} {w : zW} {h : Nat} (hh : h ≠ 0) : zl (zo L xs w) h = zl w h := if_neg hh
theorem zo_a {L : Nat} {xs : Nat → Int} {w : zW} {h j : Nat} (hh : h ≠ 0) : za (zo L xs w) h j = za w h j := if_neg hh
theorem zW_ext {w v : zW} (h1 : w.1 = v.1) (h2 : w.2.1 = v.2.1) (h3 : w.2.2.1 = v.2.2.1) (h4 : w.2.2.2.1 = v.2.2.2.1) (h5 : w.2.2.2.2 = v.2.2.2.2) : w = v := by
  obtain ⟨a, b, c, d, e⟩ := w
  obtain ⟨a2, b2, c2, d2, e2⟩ := v
  cases h1; cases h2; cases h3; cases h4; cases h5
  rfl
theorem zo_sa {L : Nat} {xs : Nat → Int} {w : zW} {h j : Nat} {x : Int} (hh : h ≠ 0) : zo L xs (zsa w h j x) = zsa (zo L xs w) h j x := by
  refine zW_ext rfl rfl rfl ?_ rfl
  funext g k
  show (if g = 0 then xs k else zu w.2.2.2.1 h j x g k) = zu (fun h j => if h = 0 then xs j else za w h j) h j x g k
  unfold zu
  by_cases hg : g = 0
  · subst hg
    simp [hh.symm]
  · simp [hg]
theorem zo_cp {L : Nat} {xs : Nat → Int} {w : zW} {h sp g dp n : Nat} (hh : h ≠ 0) (hg : g ≠ 0) : zo L xs (zcp w h sp g dp n) = zcp (zo L xs w) h sp g dp n := by
  refine zW_ext rfl rfl rfl ?_ rfl
  funext a k
  show (if a = 0 then xs k else if a = g then (if dp ≤ k ∧ k < dp + n then za w h (sp + (k - dp)) else za w a k) else za w a k) = (if a = g then (if dp ≤ k ∧ k < dp + n then za (zo L xs w) h (sp + (k - dp)) else za (zo L xs w) a k) else za (zo L xs w) a k)
  by_cases ha : a = 0
  · subst ha
    rw [if_pos rfl, if_neg hg.symm]
    rfl
  · rw [if_neg ha, zo_a hh, zo_a ha]
theorem zo_new {L : Nat} {xs : Nat → Int} {w : zW} {k n : Nat} : zo L xs (znew w k n) = znew (zo L xs w) k n := by
  refine zW_ext ?_ rfl rfl ?_ rfl
  · refine congrArg (Prod.mk _) (congrArg (Prod.mk _) ?_)
    refine Prod.ext (funext fun h => ?_) (funext fun h => ?_)
    · show (if h = 0 then zNC + 2 else if h = zn w + 1 then k else zk w h) = (if h = zn w + 1 then k else if h = 0 then zNC + 2 else zk w h)
      by_cases h0 : h = 0
      · subst h0
        rw [if_pos rfl, if_neg (Nat.succ_ne_zero _).symm]
        rfl
      · rw [if_neg h0, if_neg h0]
    · show (if h = 0 then L else if h = zn w + 1 then n else zl w h) = (if h = zn w + 1 then n else if h = 0 then L else zl w h)
      by_cases h0 : h = 0
      · subst h0
        rw [if_pos rfl, if_neg (Nat.succ_ne_zero _).symm]
        rfl
      · rw [if_neg h0, if_neg h0]
  · funext h j
    show (if h = 0 then xs j else if h = zn w + 1 then 0 else za w h j) = (if h = zn w + 1 then 0 else if h = 0 then xs j else za w h j)
    by_cases h0 : h = 0
    · subst h0
      rw [if_pos rfl, if_neg (Nat.succ_ne_zero _).symm]
      rfl
    · rw [if_neg h0, if_neg h0]
theorem zo_clone {L : Nat} {xs : Nat → Int} {w : zW} {h : Nat} (hh : h ≠ 0) : zo L xs (zclone w h) = zclone (zo L xs w) h := by
  have e1 := zo_new (L := L) (xs := xs) (w := w) (k := zNC) (n := zl w h)
  have e2 : zl (zo L xs w) h = zl w h := zo_l hh
  unfold zclone
  rw [e2, ← e1]
  refine zW_ext rfl rfl rfl ?_ rfl
  funext g j
  show (if g = 0 then xs j else if g = zn w + 1 then za w h j else za w g j) = (if g = zn w + 1 then za (zo L xs w) h j else za (zo L xs w) g j)
  by_cases h0 : g = 0
  · subst h0
    rw [if_pos rfl, if_neg (Nat.succ_ne_zero _).symm]
    rfl
  · rw [if_neg h0, zo_a hh, zo_a h0]
def zoL (L : Nat) (xs : Nat → Int) (lf : zLf) : zLf := match lf with
  | .inl q => .inl (q.1, q.2.1, q.2.2.1, zo L xs q.2.2.2)
  | .inr q => .inr q
def zoOK (lf : zLf) : Prop := match lf with
  | .inl q => zk q.2.2.2 0 = 1000
  | .inr _ => True
set_option maxHeartbeats 4000000 in
theorem zo_ins {L : Nat} {xs : Nat → Int} {i pc : Nat} {ls : List (Option zV)} {st : List zV} {w : zW} {ins : Jvm.ClassFile.Instr} {len : Nat} {z : Int} {res : List (Nat × Nat)} {lf : zLf} (hres : ∀ r ∈ res, r.1 ≠ 1000) (h0 : zk w 0 = 1000)
    (h : zins ins len z res i pc ls st w = some lf) : zins ins len z res i pc ls st (zo L xs w) = some (zoL L xs lf) ∧ zoOK lf := by
  have hz := zNC_lt
  cases ins
  case aconst_null =>
    replace h : zgo (pc + 1) ls (.inr none :: st) w = some lf := h
    show zgo (pc + 1) ls (.inr none :: st) (zo L xs w) = _ ∧ _
    unfold zgo at h ⊢
    cases h
    exact ⟨rfl, h0⟩
  case iconst n =>
    replace h : zgo (pc + 1) ls (.inl n :: st) w = some lf := h
    show zgo (pc + 1) ls (.inl n :: st) (zo L xs w) = _ ∧ _
    unfold zgo at h ⊢
    cases h
    exact ⟨rfl, h0⟩
  case bipush n =>
    replace h : zgo (pc + 2) ls (.inl n :: st) w = some lf := h
    show zgo (pc + 2) ls (.inl n :: st) (zo L xs w) = _ ∧ _
    unfold zgo at h ⊢
    cases h
    exact ⟨rfl, h0⟩
  case sipush n =>
    replace h : zgo (pc + 3) ls (.inl n :: st) w = some lf := h
    show zgo (pc + 3) ls (.inl n :: st) (zo L xs w) = _ ∧ _
    unfold zgo at h ⊢
    cases h
    exact ⟨rfl, h0⟩
  case ldc ix =>
    replace h : zgo (pc + 2) ls (.inl z :: st) w = some lf := h
    show zgo (pc + 2) ls (.inl z :: st) (zo L xs w) = _ ∧ _
    unfold zgo at h ⊢
    cases h
    exact ⟨rfl, h0⟩
  case ldc_w ix =>
    replace h : zgo (pc + 3) ls (.inl z :: st) w = some lf := h
    show zgo (pc + 3) ls (.inl z :: st) (zo L xs w) = _ ∧ _
    unfold zgo at h ⊢
    cases h
    exact ⟨rfl, h0⟩
  case goto off =>
    replace h : zgo (zto pc off) ls st w = some lf := h
    show zgo (zto pc off) ls st (zo L xs w) = _ ∧ _
    unfold zgo at h ⊢
    cases h
    exact ⟨rfl, h0⟩
  case iload ix =>
    replace h : zi_iload 2 ix pc ls st w = some lf := h
    show zi_iload 2 ix pc ls st (zo L xs w) = _ ∧ _
    unfold zi_iload zgo at h ⊢
    split at h
    all_goals first | (cases h; done) | skip
    all_goals cases h
    all_goals exact ⟨by first | rfl | simp_all [zoL], h0⟩
  case iload_n ix =>
    replace h : zi_iload 1 ix.val pc ls st w = some lf := h
    show zi_iload 1 ix.val pc ls st (zo L xs w) = _ ∧ _
    unfold zi_iload zgo at h ⊢
    split at h
    all_goals first | (cases h; done) | skip
    all_goals cases h
    all_goals exact ⟨by first | rfl | simp_all [zoL], h0⟩
  case aload ix =>
    replace h : zi_aload 2 ix pc ls st w = some lf := h
    show zi_aload 2 ix pc ls st (zo L xs w) = _ ∧ _
    unfold zi_aload zgo at h ⊢
    split at h
    all_goals first | (cases h; done) | skip
    all_goals cases h
    all_goals exact ⟨by first | rfl | simp_all [zoL], h0⟩
  case aload_n ix =>
    replace h : zi_aload 1 ix.val pc ls st w = some lf := h
    show zi_aload 1 ix.val pc ls st (zo L xs w) = _ ∧ _
    unfold zi_aload zgo at h ⊢
    split at h
    all_goals first | (cases h; done) | skip
    all_goals cases h
    all_goals exact ⟨by first | rfl | simp_all [zoL], h0⟩
  case iinc ix n =>
    replace h : zi_iinc len ix n pc ls st w = some lf := h
    show zi_iinc len ix n pc ls st (zo L xs w) = _ ∧ _
    unfold zi_iinc zgo at h ⊢
    split at h
    all_goals first | (cases h; done) | skip
    all_goals cases h
    all_goals exact ⟨by first | rfl | simp_all [zoL], h0⟩
  case pop =>
    replace h : zi_pop pc ls st w = some lf := h
    show zi_pop pc ls st (zo L xs w) = _ ∧ _
    unfold zi_pop zgo at h ⊢
    split at h
    all_goals first | (cases h; done) | skip
    all_goals cases h
    all_goals exact ⟨by first | rfl | simp_all [zoL], h0⟩
  case dup =>
    replace h : zi_dup pc ls st w = some lf := h
    show zi_dup pc ls st (zo L xs w) = _ ∧ _
    unfold zi_dup zgo at h ⊢
    split at h
    all_goals first | (cases h; done) | skip
    all_goals cases h
    all_goals exact ⟨by first | rfl | simp_all [zoL], h0⟩
  case dup_x1 =>
    replace h : zi_dup_x1 pc ls st w = some lf := h
    show zi_dup_x1 pc ls st (zo L xs w) = _ ∧ _
    unfold zi_dup_x1 zgo at h ⊢
    split at h
    all_goals first | (cases h; done) | skip
    all_goals cases h
    all_goals exact ⟨by first | rfl | simp_all [zoL], h0⟩
  case dup2 =>
    replace h : zi_dup2 pc ls st w = some lf := h
    show zi_dup2 pc ls st (zo L xs w) = _ ∧ _
    unfold zi_dup2 zgo at h ⊢
    split at h
    all_goals first | (cases h; done) | skip
    all_goals cases h
    all_goals exact ⟨by first | rfl | simp_all [zoL], h0⟩
  case ifnull off =>
    replace h : zi_ifnull off pc ls st w = some lf := h
    show zi_ifnull off pc ls st (zo L xs w) = _ ∧ _
    unfold zi_ifnull zgo at h ⊢
    split at h
    all_goals first | (cases h; done) | skip
    all_goals cases h
    all_goals exact ⟨by first | rfl | simp_all [zoL], h0⟩
  case ifnonnull off =>
    replace h : zi_ifnonnull off pc ls st w = some lf := h
    show zi_ifnonnull off pc ls st (zo L xs w) = _ ∧ _
    unfold zi_ifnonnull zgo at h ⊢
    split at h
    all_goals first | (cases h; done) | skip
    all_goals cases h
    all_goals exact ⟨by first | rfl | simp_all [zoL], h0⟩
  case iadd =>
    replace h : zi_bin (fun x y => x + y) pc ls st w = some lf := h
    show zi_bin (fun x y => x + y) pc ls st (zo L xs w) = _ ∧ _
    unfold zi_bin zgo at h ⊢
    split at h
    all_goals first | (cases h; done) | skip
    all_goals cases h
    all_goals exact ⟨by first | rfl | simp_all [zoL], h0⟩
  case isub =>
    replace h : zi_bin (fun x y => x - y) pc ls st w = some lf := h
    show zi_bin (fun x y => x - y) pc ls st (zo L xs w) = _ ∧ _
    unfold zi_bin zgo at h ⊢
    split at h
    all_goals first | (cases h; done) | skip
    all_goals cases h
    all_goals exact ⟨by first | rfl | simp_all [zoL], h0⟩
  case imul =>
    replace h : zi_bin (fun x y => x * y) pc ls st w = some lf := h
    show zi_bin (fun x y => x * y) pc ls st (zo L xs w) = _ ∧ _
    unfold zi_bin zgo at h ⊢
    split at h
    all_goals first | (cases h; done) | skip
    all_goals cases h
    all_goals exact ⟨by first | rfl | simp_all [zoL], h0⟩
  case iand =>
    replace h : zi_bin zo_and pc ls st w = some lf := h
    show zi_bin zo_and pc ls st (zo L xs w) = _ ∧ _
    unfold zi_bin zgo at h ⊢
    split at h
    all_goals first | (cases h; done) | skip
    all_goals cases h
    all_goals exact ⟨by first | rfl | simp_all [zoL], h0⟩
  case ior =>
    replace h : zi_bin zo_or pc ls st w = some lf := h
    show zi_bin zo_or pc ls st (zo L xs w) = _ ∧ _
    unfold zi_bin zgo at h ⊢
    split at h
    all_goals first | (cases h; done) | skip
    all_goals cases h
    all_goals exact ⟨by first | rfl | simp_all [zoL], h0⟩
  case ixor =>
    replace h : zi_bin zo_xor pc ls st w = some lf := h
    show zi_bin zo_xor pc ls st (zo L xs w) = _ ∧ _
    unfold zi_bin zgo at h ⊢
    split at h
    all_goals first | (cases h; done) | skip
    all_goals cases h
    all_goals exact ⟨by first | rfl | simp_all [zoL], h0⟩
  case ishl =>
    replace h : zi_bin zo_shl pc ls st w = some lf := h
    show zi_bin zo_shl pc ls st (zo L xs w) = _ ∧ _
    unfold zi_bin zgo at h ⊢
    split at h
    all_goals first | (cases h; done) | skip
    all_goals cases h
    all_goals exact ⟨by first | rfl | simp_all [zoL], h0⟩
  case ishr =>
    replace h : zi_bin zo_shr pc ls st w = some lf := h
    show zi_bin zo_shr pc ls st (zo L xs w) = _ ∧ _
    unfold zi_bin zgo at h ⊢
    split at h
    all_goals first | (cases h; done) | skip
    all_goals cases h
    all_goals exact ⟨by first | rfl | simp_all [zoL], h0⟩
  case ineg =>
    replace h : zi_un (fun x => -x) pc ls st w = some lf := h
    show zi_un (fun x => -x) pc ls st (zo L xs w) = _ ∧ _
    unfold zi_un zgo at h ⊢
    split at h
    all_goals first | (cases h; done) | skip
    all_goals cases h
    all_goals exact ⟨by first | rfl | simp_all [zoL], h0⟩
  case i2s =>
    replace h : zi_un zo_i2s pc ls st w = some lf := h
    show zi_un zo_i2s pc ls st (zo L xs w) = _ ∧ _
    unfold zi_un zgo at h ⊢
    split at h
    all_goals first | (cases h; done) | skip
    all_goals cases h
    all_goals exact ⟨by first | rfl | simp_all [zoL], h0⟩
  case i2b =>
    replace h : zi_un zo_i2b pc ls st w = some lf := h
    show zi_un zo_i2b pc ls st (zo L xs w) = _ ∧ _
    unfold zi_un zgo at h ⊢
    split at h
    all_goals first | (cases h; done) | skip
    all_goals cases h
    all_goals exact ⟨by first | rfl | simp_all [zoL], h0⟩
  case istore ix =>
    replace h : zi_istore 2 ix pc ls st w = some lf := h
    show zi_istore 2 ix pc ls st (zo L xs w) = _ ∧ _
    unfold zi_istore zgo at h ⊢
    split at h
    · split at h <;> first | (cases h; done) | (rename_i hq; cases h; exact ⟨by first | rfl | (rw [if_pos hq]; rfl) | (rw [if_neg hq]; rfl), h0⟩)
    · cases h
  case istore_n ix =>
    replace h : zi_istore 1 ix.val pc ls st w = some lf := h
    show zi_istore 1 ix.val pc ls st (zo L xs w) = _ ∧ _
    unfold zi_istore zgo at h ⊢
    split at h
    · split at h <;> first | (cases h; done) | (rename_i hq; cases h; exact ⟨by first | rfl | (rw [if_pos hq]; rfl) | (rw [if_neg hq]; rfl), h0⟩)
    · cases h
  case astore ix =>
    replace h : zi_astore 2 ix pc ls st w = some lf := h
    show zi_astore 2 ix pc ls st (zo L xs w) = _ ∧ _
    unfold zi_astore zgo at h ⊢
    split at h
    · split at h <;> first | (cases h; done) | (rename_i hq; cases h; exact ⟨by first | rfl | (rw [if_pos hq]; rfl) | (rw [if_neg hq]; rfl), h0⟩)
    · cases h
  case astore_n ix =>
    replace h : zi_astore 1 ix.val pc ls st w = some lf := h
    show zi_astore 1 ix.val pc ls st (zo L xs w) = _ ∧ _
    unfold zi_astore zgo at h ⊢
    split at h
    · split at h <;> first | (cases h; done) | (rename_i hq; cases h; exact ⟨by first | rfl | (rw [if_pos hq]; rfl) | (rw [if_neg hq]; rfl), h0⟩)
    · cases h
  case idiv =>
    replace h : zi_div zo_div pc ls st w = some lf := h
    show zi_div zo_div pc ls st (zo L xs w) = _ ∧ _
    unfold zi_div zgo at h ⊢
    split at h
    · split at h <;> first | (cases h; done) | (rename_i hq; cases h; exact ⟨by first | rfl | (rw [if_pos hq]; rfl) | (rw [if_neg hq]; rfl), h0⟩)
    · cases h
  case irem =>
    replace h : zi_div zo_rem pc ls st w = some lf := h
    show zi_div zo_rem pc ls st (zo L xs w) = _ ∧ _
    unfold zi_div zgo at h ⊢
    split at h
    · split at h <;> first | (cases h; done) | (rename_i hq; cases h; exact ⟨by first | rfl | (rw [if_pos hq]; rfl) | (rw [if_neg hq]; rfl), h0⟩)
    · cases h
  case if_icmp cnd off =>
    replace h : zi_icmp cnd off pc ls st w = some lf := h
    show zi_icmp cnd off pc ls st (zo L xs w) = _ ∧ _
    unfold zi_icmp zgo at h ⊢
    split at h
    · split at h <;> first | (cases h; done) | (rename_i hq; cases h; exact ⟨by first | rfl | (rw [if_pos hq]; rfl) | (rw [if_neg hq]; rfl), h0⟩)
    · cases h
  case ifCond cnd off =>
    replace h : zi_if cnd off pc ls st w = some lf := h
    show zi_if cnd off pc ls st (zo L xs w) = _ ∧ _
    unfold zi_if zgo at h ⊢
    split at h
    · split at h <;> first | (cases h; done) | (rename_i hq; cases h; exact ⟨by first | rfl | (rw [if_pos hq]; rfl) | (rw [if_neg hq]; rfl), h0⟩)
    · cases h
  case if_acmp cnd off =>
    replace h : zi_acmp cnd off pc ls st w = some lf := h
    show zi_acmp cnd off pc ls st (zo L xs w) = _ ∧ _
    unfold zi_acmp zgo at h ⊢
    split at h
    · split at h <;> first | (cases h; done) | (rename_i hq; cases h; exact ⟨by first | rfl | (rw [if_pos hq]; rfl) | (rw [if_neg hq]; rfl), h0⟩)
    · cases h
  case lookupswitch d ps =>
    replace h : zi_lookup d ps pc ls st w = some lf := h
    show zi_lookup d ps pc ls st (zo L xs w) = _ ∧ _
    unfold zi_lookup zgo at h ⊢
    split at h
    · split at h <;> first | (cases h; done) | (rename_i hq; cases h; exact ⟨by first | rfl | (rw [if_pos hq]; rfl) | (rw [if_neg hq]; rfl), h0⟩)
    · cases h
  case tableswitch d lo hi offs =>
    replace h : zi_table d lo hi offs pc ls st w = some lf := h
    show zi_table d lo hi offs pc ls st (zo L xs w) = _ ∧ _
    unfold zi_table zgo at h ⊢
    split at h
    · split at h
      · rename_i hq
        cases h
        try dsimp only
        rw [if_pos hq]
        exact ⟨rfl, h0⟩
      · rename_i hq
        split at h
        · rename_i ho
          split at h
          · rename_i ht
            cases h
            try dsimp only
            rw [if_neg hq]
            try rw [ho]
            try dsimp only
            rw [if_pos ht]
            exact ⟨rfl, h0⟩
          · cases h
        · cases h
    · cases h
  case iaload =>
    replace h : zi_iaload pc ls st w = some lf := h
    show zi_iaload pc ls st (zo L xs w) = _ ∧ _
    unfold zi_iaload zgo at h ⊢
    split at h
    · split at h
      · rename_i hq
        cases h
        have hA : ∀ a, zk w a < 1000 → a ≠ 0 := fun a ha h1 => absurd ha (by rw [h1, h0]; omega)
        have hE : ∀ a c, zk w a = c → c < 1000 → a ≠ 0 := fun a c ha hc => hA a (by rw [ha]; exact hc)
        have hn := hq.1.elim (fun h => hE _ _ h (by omega)) (fun h => hE _ _ h (by omega))
        try dsimp only
        rw [zo_k hn, zo_l hn, zo_a hn, if_pos hq]
        exact ⟨rfl, h0⟩
      · cases h
    · cases h
  case baload =>
    replace h : zi_baload pc ls st w = some lf := h
    show zi_baload pc ls st (zo L xs w) = _ ∧ _
    unfold zi_baload zgo at h ⊢
    split at h
    · split at h
      · rename_i hq
        cases h
        have hA : ∀ a, zk w a < 1000 → a ≠ 0 := fun a ha h1 => absurd ha (by rw [h1, h0]; omega)
        have hE : ∀ a c, zk w a = c → c < 1000 → a ≠ 0 := fun a c ha hc => hA a (by rw [ha]; exact hc)
        have hn := hE _ _ hq.1 (by omega)
        try dsimp only
        rw [zo_k hn, zo_l hn, zo_a hn, if_pos hq]
        exact ⟨rfl, h0⟩
      · cases h
    · cases h
  case aaload =>
    replace h : zi_aaload pc ls st w = some lf := h
    show zi_aaload pc ls st (zo L xs w) = _ ∧ _
    unfold zi_aaload zgo at h ⊢
    split at h
    · split at h
      · rename_i hq
        cases h
        have hA : ∀ a, zk w a < 1000 → a ≠ 0 := fun a ha h1 => absurd ha (by rw [h1, h0]; omega)
        have hE : ∀ a c, zk w a = c → c < 1000 → a ≠ 0 := fun a c ha hc => hA a (by rw [ha]; exact hc)
        have hn := hA _ hq.2.1
        try dsimp only
        rw [zo_k hn, zo_l hn, if_pos hq]
        exact ⟨rfl, h0⟩
      · cases h
    · cases h
  case iastore =>
    replace h : zi_iastore pc ls st w = some lf := h
    show zi_iastore pc ls st (zo L xs w) = _ ∧ _
    unfold zi_iastore zgo at h ⊢
    split at h
    · split at h
      · rename_i hq
        cases h
        have hA : ∀ a, zk w a < 1000 → a ≠ 0 := fun a ha h1 => absurd ha (by rw [h1, h0]; omega)
        have hE : ∀ a c, zk w a = c → c < 1000 → a ≠ 0 := fun a c ha hc => hA a (by rw [ha]; exact hc)
        have hn := hE _ _ hq.1 (by omega)
        try dsimp only
        rw [zo_k hn, zo_l hn, if_pos hq, ← zo_sa hn]
        exact ⟨rfl, h0⟩
      · cases h
    · cases h
  case bastore =>
    replace h : zi_bastore pc ls st w = some lf := h
    show zi_bastore pc ls st (zo L xs w) = _ ∧ _
    unfold zi_bastore zgo at h ⊢
    split at h
    · split at h
      · rename_i hq
        cases h
        have hA : ∀ a, zk w a < 1000 → a ≠ 0 := fun a ha h1 => absurd ha (by rw [h1, h0]; omega)
        have hE : ∀ a c, zk w a = c → c < 1000 → a ≠ 0 := fun a c ha hc => hA a (by rw [ha]; exact hc)
        have hn := hE _ _ hq.1 (by omega)
        try dsimp only
        rw [zo_k hn, zo_l hn, if_pos hq, ← zo_sa hn]
        exact ⟨rfl, h0⟩
      · cases h
    · cases h
  case arraylength =>
    replace h : zi_alen pc ls st w = some lf := h
    show zi_alen pc ls st (zo L xs w) = _ ∧ _
    unfold zi_alen zgo at h ⊢
    split at h
    · split at h
      · rename_i hq
        cases h
        have hA : ∀ a, zk w a < 1000 → a ≠ 0 := fun a ha h1 => absurd ha (by rw [h1, h0]; omega)
        have hE : ∀ a c, zk w a = c → c < 1000 → a ≠ 0 := fun a c ha hc => hA a (by rw [ha]; exact hc)
        have hn := hA _ hq.2
        try dsimp only
        rw [zo_k hn, zo_l hn, if_pos hq]
        exact ⟨rfl, h0⟩
      · cases h
    · cases h
  case checkcast ix =>
    replace h : zi_cast pc ls st w = some lf := h
    show zi_cast pc ls st (zo L xs w) = _ ∧ _
    unfold zi_cast zgo at h ⊢
    split at h
    · split at h
      · rename_i hq
        cases h
        have hA : ∀ a, zk w a < 1000 → a ≠ 0 := fun a ha h1 => absurd ha (by rw [h1, h0]; omega)
        have hE : ∀ a c, zk w a = c → c < 1000 → a ≠ 0 := fun a c ha hc => hA a (by rw [ha]; exact hc)
        have hn := hE _ _ hq (by omega)
        try dsimp only
        rw [zo_k hn, if_pos hq]
        exact ⟨rfl, h0⟩
      · cases h
    · cases h
  case aastore =>
    replace h : zi_aastore pc ls st w = some lf := h
    show zi_aastore pc ls st (zo L xs w) = _ ∧ _
    unfold zi_aastore zgo at h ⊢
    have hA : ∀ a, zk w a < 1000 → a ≠ 0 := fun a ha h1 => absurd ha (by rw [h1, h0]; omega)
    have hE : ∀ a c, zk w a = c → c < 1000 → a ≠ 0 := fun a c ha hc => hA a (by rw [ha]; exact hc)
    split at h
    · split at h
      · rename_i hq
        cases h
        have hn := hA _ hq.2.1
        try dsimp only
        rw [zo_k hn, zo_l hn, if_pos hq]
        exact ⟨rfl, h0⟩
      · cases h
    · split at h
      · rename_i hq
        cases h
        have hn := hA _ hq.2.1
        obtain ⟨r, E, -, hc, -⟩ := zASok hq.2.2.2.2
        have hv := hA _ (Nat.lt_trans hc (by omega))
        try dsimp only
        rw [zo_k hn, zo_l hn, zo_k hv, if_pos hq]
        exact ⟨rfl, h0⟩
      · cases h
    · cases h
  case newarray t =>
    cases t
    case int =>
      replace h : zi_newarray zNC pc ls st w = some lf := h
      show zi_newarray zNC pc ls st (zo L xs w) = _ ∧ _
      unfold zi_newarray zgo at h ⊢
      split at h
      · split at h
        · rename_i hq
          cases h
          try dsimp only
          rw [if_pos hq, ← zo_new]
          exact ⟨rfl, h0⟩
        · cases h
      · cases h
    case boolean =>
      replace h : zi_newarray (zNC + 1) pc ls st w = some lf := h
      show zi_newarray (zNC + 1) pc ls st (zo L xs w) = _ ∧ _
      unfold zi_newarray zgo at h ⊢
      split at h
      · split at h
        · rename_i hq
          cases h
          try dsimp only
          rw [if_pos hq, ← zo_new]
          exact ⟨rfl, h0⟩
        · cases h
      · cases h
    all_goals exact absurd (show (none : Option zLf) = some lf from h) (fun q => by cases q)
  case anewarray ix =>
    replace h : zi_anewarray res pc ls st w = some lf := h
    show zi_anewarray res pc ls st (zo L xs w) = _ ∧ _
    unfold zi_anewarray zgo at h ⊢
    split at h
    · split at h
      · rename_i hq
        cases h
        try dsimp only
        rw [if_pos hq, ← zo_new]
        exact ⟨rfl, h0⟩
      · cases h
    · cases h
  case new ix =>
    replace h : zi_new res pc ls st w = some lf := h
    show zi_new res pc ls st (zo L xs w) = _ ∧ _
    unfold zi_new zgo at h ⊢
    split at h
    · cases h
      try dsimp only
      rw [← zo_new]
      exact ⟨rfl, h0⟩
    · cases h
  case getfield ix =>
    replace h : zi_get res pc ls st w = some lf := h
    show zi_get res pc ls st (zo L xs w) = _ ∧ _
    unfold zi_get zgo at h ⊢
    split at h
    · rename_i a _
      split at h
      · rename_i hf
        cases h
        have hn : a ≠ 0 := by
          intro h1
          subst h1
          obtain ⟨k, hm, -⟩ := zfid_some hf
          exact hres _ hm h0
        try dsimp only
        rw [zo_k hn, hf]
        exact ⟨rfl, h0⟩
      · cases h
    · cases h
  case putfield ix =>
    replace h : zi_put res pc ls st w = some lf := h
    show zi_put res pc ls st (zo L xs w) = _ ∧ _
    unfold zi_put zgo at h ⊢
    split at h
    · rename_i x a _
      split at h
      · rename_i hf
        split at h
        · rename_i hq
          cases h
          have hn : a ≠ 0 := by
            intro h1
            subst h1
            obtain ⟨k, hm, -⟩ := zfid_some hf
            exact hres _ hm h0
          try dsimp only
          rw [zo_k hn, hf]
          try dsimp only
          rw [if_pos hq]
          exact ⟨rfl, h0⟩
        · cases h
      · cases h
    · rename_i x a _
      split at h
      · rename_i hf
        split at h
        · rename_i hq
          cases h
          have hn : a ≠ 0 := by
            intro h1
            subst h1
            obtain ⟨k, hm, -⟩ := zfid_some hf
            exact hres _ hm h0
          try dsimp only
          rw [zo_k hn, hf]
          try dsimp only
          rw [if_pos hq]
          exact ⟨rfl, h0⟩
        · cases h
      · cases h
    · cases h
  case invokestatic ix =>
    replace h : zi_static z res pc ls st w = some lf := h
    show zi_static z res pc ls st (zo L xs w) = _ ∧ _
    unfold zi_static zgo at h ⊢
    split at h
    · split at h
      · split at h
        · rename_i hq
          cases h
          have hA : ∀ a, zk w a < 1000 → a ≠ 0 := fun a ha h1 => absurd ha (by rw [h1, h0]; omega)
          have hE : ∀ a c, zk w a = c → c < 1000 → a ≠ 0 := fun a c ha hc => hA a (by rw [ha]; exact hc)
          have hn := hE _ _ hq.1 (by omega)
          have hn2 := hE _ _ hq.2.1 (by omega)
          try dsimp only
          rw [zo_k hn, zo_k hn2, zo_l hn, zo_l hn2, if_pos hq, ← zo_cp hn hn2]
          exact ⟨rfl, h0⟩
        · cases h
      · cases h
    · split at h
      · split at h
        · rename_i hq
          cases h
          try dsimp only
          rw [if_pos hq]
          exact ⟨rfl, h0⟩
        · cases h
      · cases h
    · split at h
      · rename_i hq
        cases h
        rw [if_pos hq]
        exact ⟨rfl, trivial⟩
      · cases h
    · cases h
  case invokevirtual ix =>
    replace h : (if z = -1 then zi_clone pc ls st w else zi_virtual z res pc st w) = some lf := h
    show (if z = -1 then zi_clone pc ls st (zo L xs w) else zi_virtual z res pc st (zo L xs w)) = _ ∧ _
    by_cases hz1 : z = -1
    · rw [if_pos hz1] at h ⊢
      unfold zi_clone zgo at h ⊢
      split at h
      · split at h
        · rename_i hq
          cases h
          have hA : ∀ a, zk w a < 1000 → a ≠ 0 := fun a ha h1 => absurd ha (by rw [h1, h0]; omega)
          have hE : ∀ a c, zk w a = c → c < 1000 → a ≠ 0 := fun a c ha hc => hA a (by rw [ha]; exact hc)
          have hn := hE _ _ hq.1 (by omega)
          try dsimp only
          rw [zo_k hn, if_pos hq, ← zo_clone hn]
          exact ⟨rfl, h0⟩
        · cases h
      · cases h
    rw [if_neg hz1] at h ⊢
    unfold zi_virtual at h ⊢
    split at h
    · rename_i a _ hd
      split at h
      · rename_i j hj
        split at h
        · rename_i hq
          cases h
          have hn : a ≠ 0 := by
            intro h1
            subst h1
            exact hres _ (zlk_mem _ _ _ hj) h0
          try rw [hd]
          try dsimp only
          rw [zo_k hn, hj]
          try dsimp only
          rw [if_pos hq]
          exact ⟨rfl, trivial⟩
        · cases h
      · cases h
    · cases h
  case invokespecial ix =>
    replace h : zi_special z res pc ls st w = some lf := h
    show zi_special z res pc ls st (zo L xs w) = _ ∧ _
    unfold zi_special zgo at h ⊢
    split at h
    · split at h
      · split at h
        · rename_i hq
          cases h
          try dsimp only
          rw [if_pos hq]
          exact ⟨rfl, h0⟩
        · cases h
      · cases h
    · split at h
      · rename_i a _ hd
        split at h
        · rename_i hq
          cases h
          have hn : a ≠ 0 := by
            intro h1
            subst h1
            have := hq.2
            omega
          try dsimp only
          try rw [hd]
          try dsimp only
          rw [zo_k hn, if_pos hq]
          exact ⟨rfl, trivial⟩
        · cases h
      · cases h
    · cases h
  case return_ =>
    replace h : zi_ret i st = some lf := h
    show zi_ret i st = _ ∧ _
    unfold zi_ret at h ⊢
    split at h
    · split at h
      · rename_i hq
        cases h
        rw [if_pos hq]
        exact ⟨rfl, trivial⟩
      · cases h
    · cases h
  case ireturn =>
    replace h : zi_iret i st = some lf := h
    show zi_iret i st = _ ∧ _
    unfold zi_iret at h ⊢
    split at h
    · split at h
      · rename_i hq
        cases h
        try dsimp only
        rw [if_pos hq]
        exact ⟨rfl, trivial⟩
      · cases h
    · cases h
  case areturn =>
    replace h : zi_aret i st = some lf := h
    show zi_aret i st = _ ∧ _
    unfold zi_aret at h ⊢
    split at h
    · split at h
      · rename_i hq
        cases h
        try dsimp only
        rw [if_pos hq]
        exact ⟨rfl, trivial⟩
      · cases h
    · cases h
  all_goals exact absurd (show (none : Option zLf) = some lf from h) (fun q => by cases q)
def zresB (e : Nat × zJ) : Bool := e.2.2.2.2.all fun r => decide (r.1 ≠ 1000)
theorem zres_l : ∀ tc ∈ zTs, ∀ t ∈ tc, ∀ e ∈ t, zresB e = true := by decide +kernel
theorem zres_ok {i pc : Nat} {j : zJ} (h : zT i pc = some j) : ∀ r ∈ j.2.2.2, r.1 ≠ 1000 := by
  obtain ⟨t, ht, hm⟩ := zT_mem h
  have hi : zTc i ∈ zTs := by
    unfold zTc at ht ⊢
    by_cases hl : i < zTs.length
    · rw [List.getD_eq_getElem?_getD, List.getElem?_eq_getElem hl]
      exact List.getElem_mem hl
    · rw [List.getD_eq_getElem?_getD, List.getElem?_eq_none (by omega)] at ht
      cases ht
  have h1 := zres_l _ hi t ht _ hm
  intro r hr
  exact of_decide_eq_true (List.all_eq_true.mp h1 r hr)
theorem zo_run {L : Nat} {xs : Nat → Int} : ∀ (n i pc : Nat) (ls : List (Option zV)) (st : List zV) (w : zW) (r : Option zV) (w' : zW), zk w 0 = 1000 → zx n i pc ls st w = some (r, w') → zx n i pc ls st (zo L xs w) = some (r, zo L xs w') ∧ zk w' 0 = 1000
  | 0, _, _, _, _, _, _, _, _, h => by cases h
  | n + 1, i, pc, ls, st, w, r, w', h0, h => by
    have key : ∀ lf, zstep i pc ls st w = some lf → zstep i pc ls st (zo L xs w) = some (zoL L xs lf) ∧ zoOK lf := by
      intro lf hs
      unfold zstep at hs ⊢
      cases hT : zT i pc with
      | none => rw [hT] at hs; cases hs
      | some j =>
        rw [hT] at hs
        exact zo_ins (zres_ok hT) h0 hs
    unfold zx at h ⊢
    cases hs : zstep i pc ls st w with
    | none => rw [hs] at h; cases h
    | some lf =>
      obtain ⟨k1, k2⟩ := key lf hs
      rw [hs] at h
      rw [k1]
      rcases lf with ⟨pc', ls', st', w1⟩ | ⟨j, vs, pc', rest⟩ | v
      · exact zo_run n _ _ _ _ _ _ _ k2 h
      · dsimp only at h
        cases hc : zx n j 0 (zent j vs) [] w with
        | none => rw [hc] at h; cases h
        | some q =>
          obtain ⟨r1, w1⟩ := q
          rw [hc] at h
          obtain ⟨h1, h2⟩ := zo_run n _ _ _ _ _ _ _ h0 hc
          show (match zx n j 0 (zent j vs) [] (zo L xs w) with | some (r, w') => zx n i pc' ls (r.toList ++ rest) w' | none => none) = _ ∧ _
          rw [h1]
          exact zo_run n _ _ _ _ _ _ _ h2 h
      · cases h
        exact ⟨rfl, h0⟩
