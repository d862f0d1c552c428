/-! THE CLAIM OUT OF ONE WALK OF THE LAW'S BODY. Your part is whole_start (and what it stands on); all else here is the same for every law, but numbers. -/
def R_law : String := "ManagedBusLaw"
def lw_P (b : Addr) (xs : List Int32) (args : Array Value) (s : State) : Prop := args = #[.ref b] ∧ s.IntsAt b xs ∧ xs.length ≤ 4 ∧ (Jvm.Cond.and given_1 narrow_1).before args s = true
def lw_Q (_ : Array Value) (s : State) (o : Outcome) (t : State) : Prop := o = .returned (some (.int 1)) ∧ Framed s o t [] 600000 7302250
def lw_Z (below : List Frame) (a : Array Value) (s : State) : State → Prop := fun t => ∃ o, t.status = .running ∧ Ended t below o ∧ lw_Q a s o t
/-- the law's own end, with 1 on the stack, nothing written that was there before, its room as the claim has it -/
theorem lw_ret {p : Program} {l : Launch} {e : Env} {s : State} {m : MethodId} {below : List Frame} {meth : Method} {c : Code} {b : Nat} (hx : p.tables.exec = Jvm.exec) (hb : c.code = code) (hr : meth.sig.returnType = ret) (hlocks : meth.locks = false) {pc : Nat} {H : Heap} {ls : Array Slot} (hdg : decode code pc = .ok (.ireturn, 1)) : W p l e room_1 s m #[Value.ref b] below meth c H [] 600000 7302250 (lw_Z below #[Value.ref b] s) (F0 m pc ls [.int 1]) := by
  intro T hT X
  obtain ⟨fs, hret, hrun, hended, hW, hframe⟩ := X.leave (v := some (.int 1)) (hlocks := hlocks) (fun h => by rw [hr] at h; cases h)
  have hmeth' : T.vm.method? m = some meth := X.method'
  refine ⟨T.setFrames fs, ?_, .returned (some (.int 1)), hrun, hended, rfl, ⟨_, rfl⟩, hW, hframe⟩
  jvm_step X.here [X.here.top, hx, hb, hdg, hmeth', hr, ret, narrow_b1]
  (try refine ⟨rfl, ?_⟩); (try refine ⟨rfl, ?_⟩)
  first | (intro acts; rw [hret _ acts rfl rfl rfl]) | rw [hret _ _ rfl rfl rfl]
  exact Steps.refl _
/-- what holds at the law's entry: the machine, the code, the tables' words (any of lw_tbl by 'hts w (by decide +kernel)'), the script of L ints xs at the cell b, what the Statement gives of the start (any of its parts by flat_of_before) -/
def lw_At (p : Program) (s : State) (m : MethodId) (meth : Method) (c : Code) (b L : Nat) (xs : Nat → Int32) : Prop :=
  p.tables.exec = Jvm.exec ∧ c.code = code ∧ meth.sig.returnType = ret ∧ c.maxLocals = 4 ∧ s.vm.findClass R_law = some m.cls ∧ (∀ w ∈ lw_tbl, w.before #[Value.ref b] s = true) ∧ va_X b L xs s s.heap ∧ b < s.heap.size ∧ meth.locks = false ∧ (Jvm.Cond.and given_1 narrow_1).before #[Value.ref b] s = true
theorem z_start {p : Program} {e : Env} {s : State} {m : MethodId} {below : List Frame} {meth : Method} {c : Code} (l : Launch) {b L : Nat} {xs : Nat → Int32} (C0 : lw_At p s m meth c b L xs)
    (hrun : ∃ (n : Nat) (w' : zW), zx n zLaw 0 (zent zLaw [.inr (some 0)]) [] (zw0 L (fun j => (xs j).toInt)) = some (some (.inl 1), w') ∧ zn w' ≤ 600000 ∧ zsl w' ≤ 7302250) : W p l e room_1 s m #[Value.ref b] below meth c s.heap [] 0 0 (lw_Z below #[Value.ref b] s) (entryFrame m ([Value.ref b] : List Value).toArray 4) := by
  obtain ⟨hx, hb, hr, hml, hown, hts, hX, hbl, hlocks, hgv⟩ := C0
  obtain ⟨n, w', hrun, hn, hs⟩ := hrun
  have htg : ∀ w ∈ zGW, w.before #[Value.ref b] s = true := fun w hw => hts w (List.mem_filter.mp hw).1
  obtain ⟨D, hK⟩ := zknown htg
  have hni := znice hts
  obtain ⟨-, hsim⟩ := zsim n _ _ _ _ _ _ _ hrun
  have hl := lv_entry ([Value.ref b] : List Value) (n := 4) (Nat.le_of_ble_eq_true rfl)
  rw [lg_entry_eq]
  have hz := zNC_lt
  have hrel : zRel s.heap.size b D (fun _ => 0) (zw0 L (fun j => (xs j).toInt)) s s.heap := by
    refine ⟨⟨rfl, fun h hh => ?_, fun h hh => ?_⟩, fun k q hk => absurd (zws_inv hk).1 (Nat.not_lt_zero _), fun h hh => absurd hh (Nat.not_lt_zero _), ?_, hbl⟩
    · have hh : 0 < h := hh
      show (if h = 0 then zNC + 2 else 1000) = 1000
      rw [if_neg (by omega)]
    · show (if h = 0 then zNC + 2 else 1000) ≠ zNC + 2
      rw [if_neg (by omega)]
      omega
    · have e1 : (fun j => zI (za (zw0 L (fun j => (xs j).toInt)) 0 j)) = xs := funext fun j => zI_toInt (xs j)
      rw [e1]
      exact hX
  refine hsim p l e room_1 s m #[Value.ref b] below meth c (lw_Z below #[Value.ref b] s) s.heap.size b D 0 ⟨hx, hb, hml, hown, htg, hni, hK, Nat.le_refl _, fun h => absurd h (by decide), by decide, by decide⟩ ?_ ?_ ?_ s.heap [] 0 0 _ ⟨_, hrel, va_S.rf, rfl, rfl, zent_len (by decide), zent_has (vs := [.inr (some 0)]) hl⟩
  · show s.heap.size + zn w' ≤ s.heap.size + 600000
    omega
  · show zsl w' ≤ 0 + 7302250
    omega
  · intro pc ls st hro H locs cells slots lsA hS
    obtain ⟨ins, hdg, rfl, hor⟩ := hro
    obtain ⟨cA2, hr2, hS1, hc, hs1, hll, hl2⟩ := hS
    rcases hor with ⟨-, h, -⟩ | ⟨rfl, x, hx1, -⟩ | ⟨-, x, h, -⟩
    · cases h
    · cases hx1
      exact va_forget (fun q hq => hS1.2.2 q hq) (W.widen (k := 600000) (n := 7302250) (by omega) (by omega) (lw_ret hx hb hr hlocks hdg))
    · cases h
