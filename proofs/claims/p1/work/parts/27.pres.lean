-- a property of worlds that each single change keeps is kept by every run
def zPres (P : zW → Prop) : Prop := (∀ w f h x, zk w h < zNC → P w → P (zsf w f h x)) ∧ (∀ w f h x, zk w h < zNC → P w → P (zsp w f h x)) ∧ (∀ w h j x, zk w h = zNC ∨ zk w h = zNC + 1 → P w → P (zsa w h j x)) ∧ (∀ w h j x, zNC + 2 < zk w h → zk w h < 1000 → P w → P (zsb w h j x)) ∧
  (∀ w h sp g dp n, zk w g = zNC → P w → P (zcp w h sp g dp n)) ∧ (∀ w k n, P w → P (znew w k n)) ∧ ∀ w h, P w → P (zclone w h)
def zpOK (P : zW → Prop) (lf : zLf) : Prop := match lf with
  | .inl q => P q.2.2.2
  | .inr _ => True
set_option maxHeartbeats 4000000 in
theorem zp_ins {P : zW → Prop} (hP : zPres P) {i pc : Nat} {ls : List (Option zV)} {st : List zV} {w : zW} {ins : Jvm.ClassFile.Instr} {len : Nat} {z : Int} {res : List (Nat × Nat)} {lf : zLf} (hres : ∀ c k, (c, k) ∈ res → (ins = .getfield 0 ∨ True) → (∃ ix, ins = .putfield ix) → c < zNC) (h0 : P w)
    (h : zins ins len z res i pc ls st w = some lf) : zpOK P lf := by
  obtain ⟨p1, p2, p3, p4, p5, p6, p7⟩ := hP
  cases ins
  case aconst_null =>
    replace h : zgo (pc + 1) ls (.inr none :: st) w = some lf := h
    unfold zgo at h
    cases h
    exact h0
  case iconst n =>
    replace h : zgo (pc + 1) ls (.inl n :: st) w = some lf := h
    unfold zgo at h
    cases h
    exact h0
  case bipush n =>
    replace h : zgo (pc + 2) ls (.inl n :: st) w = some lf := h
    unfold zgo at h
    cases h
    exact h0
  case sipush n =>
    replace h : zgo (pc + 3) ls (.inl n :: st) w = some lf := h
    unfold zgo at h
    cases h
    exact h0
  case ldc ix =>
    replace h : zgo (pc + 2) ls (.inl z :: st) w = some lf := h
    unfold zgo at h
    cases h
    exact h0
  case ldc_w ix =>
    replace h : zgo (pc + 3) ls (.inl z :: st) w = some lf := h
    unfold zgo at h
    cases h
    exact h0
  case goto off =>
    replace h : zgo (zto pc off) ls st w = some lf := h
    unfold zgo at h
    cases h
    exact h0
  case iload ix =>
    replace h : zi_iload 2 ix pc ls st w = some lf := h
    unfold zi_iload zgo at h
    repeat' split at h
    all_goals cases h
    all_goals first | exact h0 | trivial
  case iload_n ix =>
    replace h : zi_iload 1 ix.val pc ls st w = some lf := h
    unfold zi_iload zgo at h
    repeat' split at h
    all_goals cases h
    all_goals first | exact h0 | trivial
  case aload ix =>
    replace h : zi_aload 2 ix pc ls st w = some lf := h
    unfold zi_aload zgo at h
    repeat' split at h
    all_goals cases h
    all_goals first | exact h0 | trivial
  case aload_n ix =>
    replace h : zi_aload 1 ix.val pc ls st w = some lf := h
    unfold zi_aload zgo at h
    repeat' split at h
    all_goals cases h
    all_goals first | exact h0 | trivial
  case iinc ix n =>
    replace h : zi_iinc len ix n pc ls st w = some lf := h
    unfold zi_iinc zgo at h
    repeat' split at h
    all_goals cases h
    all_goals first | exact h0 | trivial
  case pop =>
    replace h : zi_pop pc ls st w = some lf := h
    unfold zi_pop zgo at h
    repeat' split at h
    all_goals cases h
    all_goals first | exact h0 | trivial
  case dup =>
    replace h : zi_dup pc ls st w = some lf := h
    unfold zi_dup zgo at h
    repeat' split at h
    all_goals cases h
    all_goals first | exact h0 | trivial
  case dup_x1 =>
    replace h : zi_dup_x1 pc ls st w = some lf := h
    unfold zi_dup_x1 zgo at h
    repeat' split at h
    all_goals cases h
    all_goals first | exact h0 | trivial
  case dup2 =>
    replace h : zi_dup2 pc ls st w = some lf := h
    unfold zi_dup2 zgo at h
    repeat' split at h
    all_goals cases h
    all_goals first | exact h0 | trivial
  case ifnull off =>
    replace h : zi_ifnull off pc ls st w = some lf := h
    unfold zi_ifnull zgo at h
    repeat' split at h
    all_goals cases h
    all_goals first | exact h0 | trivial
  case ifnonnull off =>
    replace h : zi_ifnonnull off pc ls st w = some lf := h
    unfold zi_ifnonnull zgo at h
    repeat' split at h
    all_goals cases h
    all_goals first | exact h0 | trivial
  case istore ix =>
    replace h : zi_istore 2 ix pc ls st w = some lf := h
    unfold zi_istore zgo at h
    repeat' split at h
    all_goals cases h
    all_goals first | exact h0 | trivial
  case istore_n ix =>
    replace h : zi_istore 1 ix.val pc ls st w = some lf := h
    unfold zi_istore zgo at h
    repeat' split at h
    all_goals cases h
    all_goals first | exact h0 | trivial
  case astore ix =>
    replace h : zi_astore 2 ix pc ls st w = some lf := h
    unfold zi_astore zgo at h
    repeat' split at h
    all_goals cases h
    all_goals first | exact h0 | trivial
  case astore_n ix =>
    replace h : zi_astore 1 ix.val pc ls st w = some lf := h
    unfold zi_astore zgo at h
    repeat' split at h
    all_goals cases h
    all_goals first | exact h0 | trivial
  case idiv =>
    replace h : zi_div zo_div pc ls st w = some lf := h
    unfold zi_div zgo at h
    repeat' split at h
    all_goals cases h
    all_goals first | exact h0 | trivial
  case irem =>
    replace h : zi_div zo_rem pc ls st w = some lf := h
    unfold zi_div zgo at h
    repeat' split at h
    all_goals cases h
    all_goals first | exact h0 | trivial
  case if_icmp cnd off =>
    replace h : zi_icmp cnd off pc ls st w = some lf := h
    unfold zi_icmp zgo at h
    repeat' split at h
    all_goals cases h
    all_goals first | exact h0 | trivial
  case ifCond cnd off =>
    replace h : zi_if cnd off pc ls st w = some lf := h
    unfold zi_if zgo at h
    repeat' split at h
    all_goals cases h
    all_goals first | exact h0 | trivial
  case if_acmp cnd off =>
    replace h : zi_acmp cnd off pc ls st w = some lf := h
    unfold zi_acmp zgo at h
    repeat' split at h
    all_goals cases h
    all_goals first | exact h0 | trivial
  case lookupswitch d ps =>
    replace h : zi_lookup d ps pc ls st w = some lf := h
    unfold zi_lookup zgo at h
    repeat' split at h
    all_goals cases h
    all_goals first | exact h0 | trivial
  case tableswitch d lo hi offs =>
    replace h : zi_table d lo hi offs pc ls st w = some lf := h
    unfold zi_table zgo at h
    repeat' split at h
    all_goals cases h
    all_goals first | exact h0 | trivial
  case iaload =>
    replace h : zi_iaload pc ls st w = some lf := h
    unfold zi_iaload zgo at h
    repeat' split at h
    all_goals cases h
    all_goals first | exact h0 | trivial
  case baload =>
    replace h : zi_baload pc ls st w = some lf := h
    unfold zi_baload zgo at h
    repeat' split at h
    all_goals cases h
    all_goals first | exact h0 | trivial
  case aaload =>
    replace h : zi_aaload pc ls st w = some lf := h
    unfold zi_aaload zgo at h
    repeat' split at h
    all_goals cases h
    all_goals first | exact h0 | trivial
  case arraylength =>
    replace h : zi_alen pc ls st w = some lf := h
    unfold zi_alen zgo at h
    repeat' split at h
    all_goals cases h
    all_goals first | exact h0 | trivial
  case checkcast ix =>
    replace h : zi_cast pc ls st w = some lf := h
    unfold zi_cast zgo at h
    repeat' split at h
    all_goals cases h
    all_goals first | exact h0 | trivial
  case getfield ix =>
    replace h : zi_get res pc ls st w = some lf := h
    unfold zi_get zgo at h
    repeat' split at h
    all_goals cases h
    all_goals first | exact h0 | trivial
  case invokespecial ix =>
    replace h : zi_special z res pc ls st w = some lf := h
    unfold zi_special zgo at h
    repeat' split at h
    all_goals cases h
    all_goals first | exact h0 | trivial
  case iadd =>
    replace h : zi_bin (fun x y => x + y) pc ls st w = some lf := h
    unfold zi_bin zgo at h
    repeat' split at h
    all_goals cases h
    all_goals first | exact h0 | trivial
  case isub =>
    replace h : zi_bin (fun x y => x - y) pc ls st w = some lf := h
    unfold zi_bin zgo at h
    repeat' split at h
    all_goals cases h
    all_goals first | exact h0 | trivial
  case imul =>
    replace h : zi_bin (fun x y => x * y) pc ls st w = some lf := h
    unfold zi_bin zgo at h
    repeat' split at h
    all_goals cases h
    all_goals first | exact h0 | trivial
  case iand =>
    replace h : zi_bin zo_and pc ls st w = some lf := h
    unfold zi_bin zgo at h
    repeat' split at h
    all_goals cases h
    all_goals first | exact h0 | trivial
  case ior =>
    replace h : zi_bin zo_or pc ls st w = some lf := h
    unfold zi_bin zgo at h
    repeat' split at h
    all_goals cases h
    all_goals first | exact h0 | trivial
  case ixor =>
    replace h : zi_bin zo_xor pc ls st w = some lf := h
    unfold zi_bin zgo at h
    repeat' split at h
    all_goals cases h
    all_goals first | exact h0 | trivial
  case ishl =>
    replace h : zi_bin zo_shl pc ls st w = some lf := h
    unfold zi_bin zgo at h
    repeat' split at h
    all_goals cases h
    all_goals first | exact h0 | trivial
  case ishr =>
    replace h : zi_bin zo_shr pc ls st w = some lf := h
    unfold zi_bin zgo at h
    repeat' split at h
    all_goals cases h
    all_goals first | exact h0 | trivial
  case ineg =>
    replace h : zi_un (fun x => -x) pc ls st w = some lf := h
    unfold zi_un zgo at h
    repeat' split at h
    all_goals cases h
    all_goals first | exact h0 | trivial
  case i2s =>
    replace h : zi_un zo_i2s pc ls st w = some lf := h
    unfold zi_un zgo at h
    repeat' split at h
    all_goals cases h
    all_goals first | exact h0 | trivial
  case i2b =>
    replace h : zi_un zo_i2b pc ls st w = some lf := h
    unfold zi_un zgo at h
    repeat' split at h
    all_goals cases h
    all_goals first | exact h0 | trivial
  case return_ =>
    replace h : zi_ret i st = some lf := h
    unfold zi_ret at h
    repeat' split at h
    all_goals cases h
    all_goals first | exact h0 | trivial
  case ireturn =>
    replace h : zi_iret i st = some lf := h
    unfold zi_iret at h
    repeat' split at h
    all_goals cases h
    all_goals first | exact h0 | trivial
  case areturn =>
    replace h : zi_aret i st = some lf := h
    unfold zi_aret at h
    repeat' split at h
    all_goals cases h
    all_goals first | exact h0 | trivial
  case iastore =>
    replace h : zi_iastore pc ls st w = some lf := h
    unfold zi_iastore zgo at h
    repeat' split at h
    all_goals cases h
    rename_i hq
    exact p3 _ _ _ _ (Or.inl hq.1) h0
  case bastore =>
    replace h : zi_bastore pc ls st w = some lf := h
    unfold zi_bastore zgo at h
    repeat' split at h
    all_goals cases h
    rename_i hq
    exact p3 _ _ _ _ (Or.inr hq.1) h0
  case aastore =>
    replace h : zi_aastore pc ls st w = some lf := h
    unfold zi_aastore zgo at h
    repeat' split at h
    all_goals cases h
    all_goals rename_i hq
    all_goals exact p4 _ _ _ _ hq.1 hq.2.1 h0
  case newarray t =>
    cases t
    case int =>
      replace h : zi_newarray zNC pc ls st w = some lf := h
      unfold zi_newarray zgo at h
      repeat' split at h
      all_goals cases h
      exact p6 _ _ _ h0
    case boolean =>
      replace h : zi_newarray (zNC + 1) pc ls st w = some lf := h
      unfold zi_newarray zgo at h
      repeat' split at h
      all_goals cases h
      exact p6 _ _ _ h0
    all_goals exact absurd (show (none : Option zLf) = some lf from h) (fun q => by cases q)
  case anewarray ix =>
    replace h : zi_anewarray res pc ls st w = some lf := h
    unfold zi_anewarray zgo at h
    repeat' split at h
    all_goals cases h
    exact p6 _ _ _ h0
  case new ix =>
    replace h : zi_new res pc ls st w = some lf := h
    unfold zi_new zgo at h
    repeat' split at h
    all_goals cases h
    exact p6 _ _ _ h0
  case putfield ix =>
    replace h : zi_put res pc ls st w = some lf := h
    unfold zi_put zgo at h
    split at h
    · split at h
      · rename_i hf
        obtain ⟨k, hm, -⟩ := zfid_some hf
        have hc := hres _ _ hm (Or.inr trivial) ⟨ix, rfl⟩
        split at h
        · cases h
          exact p1 _ _ _ _ hc h0
        · cases h
      · cases h
    · split at h
      · rename_i hf
        obtain ⟨k, hm, -⟩ := zfid_some hf
        have hc := hres _ _ hm (Or.inr trivial) ⟨ix, rfl⟩
        split at h
        · cases h
          exact p2 _ _ _ _ hc h0
        · cases h
      · cases h
    · cases h
  case invokestatic ix =>
    replace h : zi_static z res pc ls st w = some lf := h
    unfold zi_static zgo at h
    split at h
    · repeat' split at h
      all_goals cases h
      rename_i hq
      exact p5 _ _ _ _ _ _ hq.2.1 h0
    · repeat' split at h
      all_goals cases h
      all_goals exact h0
    · repeat' split at h
      all_goals cases h
      trivial
    · cases h
  case invokevirtual ix =>
    replace h : (if z = -1 then zi_clone pc ls st w else zi_virtual z res pc st w) = some lf := h
    split at h
    · unfold zi_clone zgo at h
      repeat' split at h
      all_goals cases h
      exact p7 _ _ h0
    · unfold zi_virtual at h
      repeat' split at h
      all_goals cases h
      trivial
  all_goals exact absurd (show (none : Option zLf) = some lf from h) (fun q => by cases q)
theorem zp_run {P : zW → Prop} (hP : zPres P) : ∀ (n i pc : Nat) (ls : List (Option zV)) (st : List zV) (w : zW) (r : Option zV) (w' : zW), P w → zx n i pc ls st w = some (r, w') → P w'
  | 0, _, _, _, _, _, _, _, _, h => by cases h
  | n + 1, i, pc, ls, st, w, r, w', h0, h => by
    have key : ∀ lf, zstep i pc ls st w = some lf → zpOK P lf := by
      intro lf hs
      unfold zstep at hs
      cases hT : zT i pc with
      | none => rw [hT] at hs; cases hs
      | some j =>
        rw [hT] at hs
        obtain ⟨-, -, hw⟩ := zT_ok hT
        refine zp_ins hP (fun c k hm _ hx => ?_) h0 hs
        obtain ⟨ix, hx⟩ := hx
        obtain ⟨ins, len, z, res⟩ := j
        dsimp only at hx
        subst hx
        have hw : zall (zFok (zY i).name (zY i).cls ix true) res := hw
        obtain ⟨C, T, N, ty, ref, hK, -⟩ := hw.get _ hm
        exact hK.2.1
    unfold zx at h
    cases hs : zstep i pc ls st w with
    | none => rw [hs] at h; cases h
    | some lf =>
      have k1 := key lf hs
      rw [hs] at h
      rcases lf with ⟨pc', ls', st', w1⟩ | ⟨j, vs, pc', rest⟩ | v
      · exact zp_run hP n _ _ _ _ _ _ _ k1 h
      · dsimp only at h
        cases hc : zx n j 0 (zent j vs) [] w with
        | none => rw [hc] at h; cases h
        | some q =>
          obtain ⟨r1, w1⟩ := q
          rw [hc] at h
          exact zp_run hP n _ _ _ _ _ _ _ (zp_run hP n _ _ _ _ _ _ _ h0 hc) h
      · cases h
        exact h0
theorem zR_keep {P : zW → Prop} (hP : zPres P) {i pc : Nat} {ls : List (Option zV)} {st : List zV} {w : zW} {Q : Option zV → zW → Prop} (h0 : P w) (h : zR i pc ls st w Q) : zR i pc ls st w (fun r w' => Q r w' ∧ P w') := by
  obtain ⟨n, r, w', hx, hq⟩ := h
  exact ⟨n, r, w', hx, hq, zp_run hP n _ _ _ _ _ _ _ h0 hx⟩
-- the script stays
def zScr (L : Nat) (xs : Nat → Int) (w : zW) : Prop := zk w 0 = zNC + 2 ∧ zl w 0 = L ∧ ∀ j, za w 0 j = xs j
theorem zScr_pres (L : Nat) (xs : Nat → Int) : zPres (zScr L xs) := by
  have hz := zNC_lt
  refine ⟨fun _ _ _ _ _ h => h, fun _ _ _ _ _ h => h, fun w h j x hk hs => ?_, fun _ _ _ _ _ _ h => h, fun w h sp g dp n hk hs => ?_, fun w k n hs => ?_, fun w h hs => ?_⟩
  · obtain ⟨h1, h2, h3⟩ := hs
    refine ⟨h1, h2, fun k => ?_⟩
    have hne : (0 : Nat) ≠ h := by
      rintro rfl
      rcases hk with hk | hk <;> omega
    rw [zsa_old hne]
    exact h3 k
  · obtain ⟨h1, h2, h3⟩ := hs
    refine ⟨h1, h2, fun k => ?_⟩
    have hne : (0 : Nat) ≠ g := by
      rintro rfl
      omega
    rw [zcp_old hne]
    exact h3 k
  · obtain ⟨h1, h2, h3⟩ := hs
    have h0 : (0 : Nat) ≠ zn w + 1 := (Nat.succ_ne_zero _).symm
    refine ⟨?_, ?_, fun j => ?_⟩
    · show (if 0 = zn w + 1 then k else zk w 0) = _
      rw [if_neg h0]; exact h1
    · show (if 0 = zn w + 1 then n else zl w 0) = _
      rw [if_neg h0]; exact h2
    · show (if 0 = zn w + 1 then 0 else za w 0 j) = _
      rw [if_neg h0]; exact h3 j
  · obtain ⟨h1, h2, h3⟩ := hs
    have h0 : (0 : Nat) ≠ zn w + 1 := (Nat.succ_ne_zero _).symm
    refine ⟨?_, ?_, fun j => ?_⟩
    · show (if 0 = zn w + 1 then zNC else zk w 0) = _
      rw [if_neg h0]; exact h1
    · show (if 0 = zn w + 1 then zl w h else zl w 0) = _
      rw [if_neg h0]; exact h2
    · show (if 0 = zn w + 1 then za w h j else za w 0 j) = _
      rw [if_neg h0]; exact h3 j
