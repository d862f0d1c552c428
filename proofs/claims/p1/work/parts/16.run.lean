-- runs: there is fuel enough, and what comes out has Q
theorem zx_more : ∀ (n k i pc : Nat) (ls : List (Option zV)) (st : List zV) (w : zW) (x : Option zV × zW), zx n i pc ls st w = some x → zx (n + k) i pc ls st w = some x
  | 0, _, _, _, _, _, _, _, h => by cases h
  | n + 1, k, i, pc, ls, st, w, x, h => by
    rw [show n + 1 + k = (n + k) + 1 by omega]
    unfold zx at h ⊢
    split at h
    · rename_i pc' ls' st' w1 hst
      exact zx_more n k _ _ _ _ _ _ h
    · rename_i j vs pc' rest hst
      split at h
      · rename_i r1 w1 hcl
        rw [zx_more n k _ _ _ _ _ _ hcl]
        exact zx_more n k _ _ _ _ _ _ h
      · cases h
    · rename_i v hst
      exact h
    · cases h
def zR (i pc : Nat) (ls : List (Option zV)) (st : List zV) (w : zW) (Q : Option zV → zW → Prop) : Prop := ∃ (n : Nat) (r : Option zV) (w' : zW), zx n i pc ls st w = some (r, w') ∧ Q r w'
theorem zx_det {n k i pc : Nat} {ls : List (Option zV)} {st : List zV} {w : zW} {x y : Option zV × zW} (h1 : zx n i pc ls st w = some x) (h2 : zx k i pc ls st w = some y) : x = y := by
  have h3 := zx_more n k _ _ _ _ _ _ h1
  have h4 := zx_more k n _ _ _ _ _ _ h2
  rw [Nat.add_comm] at h4
  exact Option.some.inj (h3.symm.trans h4)
theorem zR_go {i pc : Nat} {ls : List (Option zV)} {st : List zV} {w : zW} {Q : Option zV → zW → Prop} {pc' : Nat} {ls' : List (Option zV)} {st' : List zV} {w' : zW} (h : zstep i pc ls st w = some (.inl (pc', ls', st', w'))) : zR i pc ls st w Q = zR i pc' ls' st' w' Q := by
  apply propext
  constructor
  · rintro ⟨n, r, w2, hx, hq⟩
    cases n with
    | zero => cases hx
    | succ n =>
      unfold zx at hx
      rw [h] at hx
      exact ⟨n, r, w2, hx, hq⟩
  · rintro ⟨n, r, w2, hx, hq⟩
    refine ⟨n + 1, r, w2, ?_, hq⟩
    unfold zx
    rw [h]
    exact hx
theorem zR_call {i pc : Nat} {ls : List (Option zV)} {st : List zV} {w : zW} {Q : Option zV → zW → Prop} {j : Nat} {vs : List zV} {pc' : Nat} {rest : List zV} (h : zstep i pc ls st w = some (.inr (.inl (j, vs, pc', rest)))) :
    zR i pc ls st w Q = zR j 0 (zent j vs) [] w (fun r w' => zR i pc' ls (r.toList ++ rest) w' Q) := by
  apply propext
  constructor
  · rintro ⟨n, r, w2, hx, hq⟩
    cases n with
    | zero => cases hx
    | succ n =>
      unfold zx at hx
      rw [h] at hx
      dsimp only at hx
      split at hx
      · rename_i r1 w1 hcl
        exact ⟨n, r1, w1, hcl, n, r, w2, hx, hq⟩
      · cases hx
  · rintro ⟨n, r1, w1, hcl, k, r, w2, hx, hq⟩
    refine ⟨n + k + 1, r, w2, ?_, hq⟩
    unfold zx
    rw [h]
    dsimp only
    rw [zx_more n k _ _ _ _ _ _ hcl]
    dsimp only
    rw [Nat.add_comm]
    exact zx_more k n _ _ _ _ _ _ hx
theorem zR_ret {i pc : Nat} {ls : List (Option zV)} {st : List zV} {w : zW} {Q : Option zV → zW → Prop} {v : Option zV} (h : zstep i pc ls st w = some (.inr (.inr v))) : zR i pc ls st w Q = Q v w := by
  apply propext
  constructor
  · rintro ⟨n, r, w2, hx, hq⟩
    cases n with
    | zero => cases hx
    | succ n =>
      unfold zx at hx
      rw [h] at hx
      cases hx
      exact hq
  · intro hq
    refine ⟨1, v, w, ?_, hq⟩
    unfold zx
    rw [h]
theorem zR_imp {i pc : Nat} {ls : List (Option zV)} {st : List zV} {w : zW} {Q Q' : Option zV → zW → Prop} (h : zR i pc ls st w Q) (hq : ∀ r w', Q r w' → Q' r w') : zR i pc ls st w Q' := by
  obtain ⟨n, r, w2, hx, hq0⟩ := h
  exact ⟨n, r, w2, hx, hq r w2 hq0⟩
theorem zst {i pc : Nat} {ls : List (Option zV)} {st : List zV} {w : zW} {ins : Jvm.ClassFile.Instr} {len : Nat} {z : Int} {res : List (Nat × Nat)} {lf : zLf} (h : zT i pc = some (ins, len, z, res)) (h2 : zins ins len z res i pc ls st w = some lf) : zstep i pc ls st w = some lf := by
  unfold zstep
  rw [h]
  exact h2
theorem zR_if {i pc : Nat} {ls : List (Option zV)} {st : List zV} {w : zW} {Q : Option zV → zW → Prop} {p q : Nat} {ls' : List (Option zV)} {st' : List zV} {b : Bool} {P : Prop} [Decidable P] (h : zstep i pc ls st w = if b = true then zgo p ls' st' w else zgo q ls' st' w) (hb : b = true ↔ P) :
    zR i pc ls st w Q = if P then zR i p ls' st' w Q else zR i q ls' st' w Q := by
  by_cases hp : P
  · rw [if_pos hp]
    rw [if_pos (hb.mpr hp)] at h
    exact zR_go h
  · rw [if_neg hp]
    rw [if_neg (fun x => hp (hb.mp x))] at h
    exact zR_go h
theorem zstB {i pc : Nat} {ls : List (Option zV)} {st : List zV} {w : zW} {ins : Jvm.ClassFile.Instr} {len : Nat} {z : Int} {res : List (Nat × Nat)} {lf : Option zLf} (h : zT i pc = some (ins, len, z, res)) (h2 : zins ins len z res i pc ls st w = lf) : zstep i pc ls st w = lf := by
  unfold zstep
  rw [h]
  exact h2
theorem zget_i {res : List (Nat × Nat)} {pc : Nat} {ls : List (Option zV)} {st : List zV} {w : zW} {h c f : Nat} (hk : zk w h = c) (hf : zfid res c = some (f, 0) ∨ zfid res c = some (f, 1)) : zi_get res pc ls (.inr (some h) :: st) w = some (.inl (pc + 3, ls, .inl (zf w f h) :: st, w)) := by
  unfold zi_get
  dsimp only
  rw [hk]
  rcases hf with hf | hf <;> rw [hf] <;> rfl
theorem zget_r {res : List (Nat × Nat)} {pc : Nat} {ls : List (Option zV)} {st : List zV} {w : zW} {h c f : Nat} (hk : zk w h = c) (hf : zfid res c = some (f, 2)) : zi_get res pc ls (.inr (some h) :: st) w = some (.inl (pc + 3, ls, .inr (zp w f h) :: st, w)) := by
  unfold zi_get
  dsimp only
  rw [hk, hf]
  rfl
theorem zput_i {res : List (Nat × Nat)} {pc : Nat} {ls : List (Option zV)} {st : List zV} {w : zW} {h c f : Nat} {x : Int} (hk : zk w h = c) (hf : zfid res c = some (f, 0)) : zi_put res pc ls (.inl x :: .inr (some h) :: st) w = some (.inl (pc + 3, ls, st, zsf w f h x)) := by
  unfold zi_put
  dsimp only
  rw [hk, hf]
  exact if_pos (Or.inl rfl)
theorem zput_z {res : List (Nat × Nat)} {pc : Nat} {ls : List (Option zV)} {st : List zV} {w : zW} {h c f : Nat} {x : Int} (hk : zk w h = c) (hf : zfid res c = some (f, 1)) (hx : zN x = 0 ∨ zN x = 1) : zi_put res pc ls (.inl x :: .inr (some h) :: st) w = some (.inl (pc + 3, ls, st, zsf w f h x)) := by
  unfold zi_put
  dsimp only
  rw [hk, hf]
  exact if_pos (Or.inr ⟨rfl, hx⟩)
theorem zput_r {res : List (Nat × Nat)} {pc : Nat} {ls : List (Option zV)} {st : List zV} {w : zW} {h c f : Nat} {x : Option Nat} (hk : zk w h = c) (hf : zfid res c = some (f, 2)) : zi_put res pc ls (.inr x :: .inr (some h) :: st) w = some (.inl (pc + 3, ls, st, zsp w f h x)) := by
  unfold zi_put
  dsimp only
  rw [hk, hf]
  exact if_pos rfl
theorem zstat_eq {z : Int} {pc j : Nat} {ls : List (Option zV)} {st : List zV} {w : zW} : zi_static z [(j, 1)] pc ls st w = if z.toNat ≤ st.length ∧ (st.drop z.toNat).length ≤ 8 then some (.inr (.inl (j, (st.take z.toNat).reverse, pc + 3, st.drop z.toNat))) else none := by
  rcases j with _ | _ | j <;> rfl
theorem zcall_s {z : Int} {pc j : Nat} {ls : List (Option zV)} {w : zW} {rest : List zV} (as : List zV) (hz : z.toNat = as.length) (hs : rest.length ≤ 8) : zi_static z [(j, 1)] pc ls (as ++ rest) w = some (.inr (.inl (j, as.reverse, pc + 3, rest))) := by
  rw [zstat_eq, hz, List.drop_left, List.take_left, if_pos ⟨by simp, hs⟩]
theorem zcall_v {z : Int} {res : List (Nat × Nat)} {pc h c j : Nat} {w : zW} {rest : List zV} (as : List zV) (hz : z.toNat = as.length) (hs : rest.length ≤ 8) (hk : zk w h = c) (hj : res.lookup c = some j) : zi_virtual z res pc (as ++ .inr (some h) :: rest) w = some (.inr (.inl (j, .inr (some h) :: as.reverse, pc + 3, rest))) := by
  unfold zi_virtual
  rw [hz, List.drop_left]
  dsimp only
  rw [hk, hj]
  dsimp only
  rw [if_pos hs, List.take_left]
theorem zcall_i {z : Int} {pc h j n : Nat} {ls : List (Option zV)} {w : zW} {rest : List zV} (as : List zV) (hz : z.toNat = as.length) (hs : rest.length ≤ 8) (hk : zk w h < 1000) : zi_special z [(j, n)] pc ls (as ++ .inr (some h) :: rest) w = some (.inr (.inl (j, .inr (some h) :: as.reverse, pc + 3, rest))) := by
  unfold zi_special
  dsimp only
  rw [hz, List.drop_left]
  dsimp only
  rw [if_pos ⟨hs, hk⟩, List.take_left]
