-- the law: a run of the interpreter from the empty world gives the walk that the claim wants
def zw0 (L : Nat) (xs : Nat → Int) : zW := ((0, 0, fun h => if h = 0 then zNC + 2 else 1000, fun h => if h = 0 then L else 0), fun _ _ => 0, fun _ _ => none, fun h j => if h = 0 then xs j else 0, fun _ _ => none)
theorem zlw {w : Cond} (pos : Nat) (h : tables_1[pos]? = some w) : w ∈ lw_tbl := List.mem_append_right _ (List.mem_of_getElem? h)
theorem zn_pv : zall (fun q : MethodName => Cond.privateMethod q ∈ lw_tbl) zPv := zac (zlw 661 (by decide +kernel)) (zac (zlw 665 (by decide +kernel)) (zac (zlw 678 (by decide +kernel)) trivial))
theorem zn_nl : zall (fun q : String × Nat × MethodName × String => Cond.methodLinkNest q.1 q.2.1 q.2.2.1 q.2.2.2 ∈ lw_tbl) zNL := zac (zlw 51 (by decide +kernel)) (zac (zlw 247 (by decide +kernel)) (zac (zlw 282 (by decide +kernel)) (zac (zlw 668 (by decide +kernel)) (zac (zlw 720 (by decide +kernel)) trivial))))
theorem zn_dl : zall (fun q : MethodName => Cond.declares q ∈ lw_tbl) zDl := zac (zlw 383 (by decide +kernel)) (zac (zlw 645 (by decide +kernel)) (zac (zlw 683 (by decide +kernel)) trivial))
theorem zn_cs : zall (fun q : String × String => Cond.castable q.1 q.2 ∈ lw_tbl) zCs := zac (zlw 767 (by decide +kernel)) (zac (zlw 1225 (by decide +kernel)) (zac (zlw 1226 (by decide +kernel)) (zac (zlw 1227 (by decide +kernel)) (zac (zlw 1228 (by decide +kernel)) trivial))))
theorem zn_ao : zall (fun q : String => Cond.arrayOver (.object q) ∈ lw_tbl) zEls := zac (zlw 26 (by decide +kernel)) (zac (zlw 28 (by decide +kernel)) (zac (zlw 30 (by decide +kernel)) (zac (zlw 41 (by decide +kernel)) (zac (zlw 49 (by decide +kernel)) (zac (zlw 130 (by decide +kernel)) (zac (zlw 244 (by decide +kernel)) trivial))))))
theorem zcls : ∀ (c : Nat) (q : vw_C), zCl[c]? = some q → (∀ w ∈ u_ws q.1 q.2.1 q.2.2, w ∈ zGW) ∧ Cond.instantiable q.1 q.2.2 ∈ zGW
  | 0, q, h => by cases h; exact ⟨zuw_0.get, zw_18⟩
  | 1, q, h => by cases h; exact ⟨zuw_1.get, zw_32⟩
  | 2, q, h => by cases h; exact ⟨zuw_2.get, zw_43⟩
  | 3, q, h => by cases h; exact ⟨zuw_3.get, zw_50⟩
  | 4, q, h => by cases h; exact ⟨zuw_4.get, zw_185⟩
  | 5, q, h => by cases h; exact ⟨zuw_5.get, zw_238⟩
  | 6, q, h => by cases h; exact ⟨zuw_6.get, zw_246⟩
  | 7, q, h => by cases h; exact ⟨zuw_7.get, zw_281⟩
  | 8, q, h => by cases h; exact ⟨zuw_8.get, zw_326⟩
  | 9, q, h => by cases h; exact ⟨zuw_9.get, zw_589⟩
  | 10, q, h => by cases h; exact ⟨zuw_10.get, zw_771⟩
  | 11, q, h => by cases h; exact ⟨zuw_11.get, zw_861⟩
  | _ + 12, q, h => by simp [zCl] at h
theorem zknown {s : State} {args : Array Value} (hts : ∀ w ∈ zGW, w.before args s = true) : ∃ D : va_G, va_K D zCl [] s := by
  have h : ∀ c : Nat, ∃ p : ClassId × (Nat → Nat), ∀ q, zCl[c]? = some q → u_Kn s q.1 q.2.1 q.2.2 p.1 p.2 := by
    intro c
    cases hc : zCl[c]? with
    | none => exact ⟨(0, fun _ => 0), fun q hq => by cases hq⟩
    | some q =>
      obtain ⟨h1, h2⟩ := zcls c q hc
      obtain ⟨cC, iS, h3⟩ := u_known hts h1 (hts _ h2)
      exact ⟨(cC, iS), fun q2 hq => by cases hq; exact h3⟩
  exact ⟨(fun c => (Classical.choose (h c)).1, fun c => (Classical.choose (h c)).2), fun c q hq => Classical.choose_spec (h c) q hq, fun k q hk => by simp at hk⟩
theorem znice {s : State} {args : Array Value} (hts : ∀ w ∈ lw_tbl, w.before args s = true) : zNice s :=
  ⟨fun y hy => va_Nw.of rfl (hts _ (zn_pv.get y hy)), fun q hq => va_Nw.of rfl (hts _ (zn_nl.get q hq)), fun x hx => va_Nw.of rfl (hts _ (zn_dl.get x hx)), fun q hq => va_Nw.of rfl (hts _ (zn_cs.get q hq)), fun C hC => va_AO.of (hts _ (zn_ao.get C hC))⟩
