-- contracts out of runs; calls
def zPc (B b : Nat) (D : va_G) (vs : List zV) (w : zW) : Array Value → State → Prop := fun a U => a = (vs.map (zcv B b)).toArray ∧ zNice U ∧ va_K D zCl [] U ∧ (∃ cA, zRel B b D cA w U U.heap) ∧ U.heap.size = B + zn w
def zQc (B b : Nat) (D : va_G) (r : Option zV) (w' : zW) : Array Value → State → Outcome → State → Prop := fun _ st oc t => oc = .returned (r.map (zcv B b)) ∧ (∃ cA, zRel B b D cA w' t t.heap) ∧ va_F (fun q => B ≤ q) st t
def zMet (l : Launch) (B b : Nat) (D : va_G) (j : Nat) (vs : List zV) (w : zW) (r : Option zV) (w' : zW) : Prop :=
  Met l (zY j) (zWs j) { frames := zFr j, cells := zn w' - zn w, slots := zsl w' - zsl w, locals := zLo j } (zPc B b D vs w) (zQc B b D r w') (zn w' - zn w) (zsl w' - zsl w) (fun q => B ≤ q)
theorem zPc_blind (B b : Nat) (D : va_G) (vs : List zV) (w : zW) : FrameBlind (zPc B b D vs w) := by
  intro a U g mk h
  obtain ⟨h1, h2, h3, ⟨cA, h4⟩, h5⟩ := h
  exact ⟨h1, zNice.warm (s := U) (U := U.calling g mk a) (State.WarmedH.refl U) h2, va_K.moved (u := U) (U := U.calling g mk a) (Vm.Alike.refl U.vm) h3, ⟨cA, zRel.moved (u := U) (U := U.calling g mk a) (Vm.Alike.refl U.vm) h4⟩, h5⟩
theorem zselP {C : String} {y : MethodName} {s : State} {args : Array Value} {n k : Nat} (hy : y.cls ≠ "java/lang/invoke/MethodHandle" ∧ y.cls ≠ "java/lang/invoke/VarHandle") (hC : (Cond.instantiable C n).before args s = true) (hY : (Cond.instantiable y.cls k).before args s = true)
    (hpriv : (Cond.privateMethod y).before args s = true) (hinst : (Cond.instanceMethod y).before args s = true) : (Cond.selects C y y).before args s = true := by
  obtain ⟨c1, k1, hc1, -⟩ := Cond.instantiable_spec hC
  obtain ⟨c2, k2, hc2, hk2, -, hab, -⟩ := Cond.instantiable_spec hY
  obtain ⟨mk, methM, hnamed, hmethM, -⟩ := Cond.instanceMethod_spec hinst
  have hni : k2.isInterface = false := (Bool.or_eq_false_iff.mp hab).1
  have hfound : s.methodFound? y.cls y.name y.desc = some mk := State.methodFound?_of_named hnamed hy
  have hcls : mk.cls = c2 := Option.some.inj ((findClass_of_methodNamed hnamed).symm.trans hc2)
  have hsel : selectMethod {} s.vm c1 mk = .method mk := selectMethod_private hmethM (Cond.privateMethod_at hpriv mk methM hnamed hmethM)
  simp only [Cond.before, Cond.holds, Cond.value, hc1, hfound, hnamed, hsel, hcls, hk2]
  simp [hni]
theorem zGI {j : Nat} (hJ : zJok j) : GoodIn zGW (zWs j) := zGood fun w hw => by
  rcases List.mem_cons.mp hw with rfl | hw
  · exact hJ.2.1
  · exact hw
theorem zsize {B b : Nat} {D : va_G} {cA : Nat → ClassId} {w : zW} {s : State} {H : Heap} {locs : List Loc} {cells : Nat} (hr : zRel B b D cA w s H) (hB : B ≤ s.heap.size) (hS1 : va_S (fun q => B ≤ q) s.heap H locs) (hc : s.heap.size + cells = B + zn w) (hup : H.size ≤ s.heap.size + cells) : H.size = B + zn w := by
  have h1 : B + zn w ≤ H.size := by
    by_cases h0 : zn w = 0
    · have := hS1.1
      omega
    · have h2 := (hr.2.1 (zn w - 1) _ (zws_get (by omega))).lt
      have h3 : B + (zn w - 1) < H.size := h2
      omega
  omega
section ZC
variable {p : Program} {l : Launch} {e : Env} {R : Room} {s : State} {m : MethodId} {args : Array Value} {below : List Frame} {meth : Method} {c : Code} {Q : State → Prop}
variable {B b : Nat} {D : va_G} {S0 i : Nat} {pc : Nat} {ls : List (Option zV)} {st : List zV} {w : zW}
theorem zpre {vs : List zV} {cA : Nat → ClassId} {H : Heap} (hX : zCtx p R s m args meth c B D i) (hr : zRel B b D cA w s H) (hsz : H.size = B + zn w) : ∀ U : State, U.heap = H → s.WarmedH U.vm → zPc B b D vs w (vs.map (zcv B b)).toArray U := by
  obtain ⟨hx, hb, hml, hown, hts, hni, hK, hB, hnm, hfr, hlo⟩ := hX
  intro U hU hW
  exact ⟨rfl, hni.warm hW, va_K.moved hW.alike hK, ⟨cA, by rw [hU]; exact hr.moved hW.alike⟩, by rw [hU]; exact hsz⟩
theorem zs_after {rest : List zV} {r : Option zV} {w' : zW} {a0 : Array Value} (hX : zCtx p R s m args meth c B D i) (hm : zn w ≤ zn w' ∧ zsl w ≤ zsl w') (hrc : B + zn w' ≤ s.heap.size + R.cells) (hrs : zsl w' ≤ S0 + R.slots)
    (hrun : ∀ (H : Heap) (locs : List Loc) (cells slots : Nat) (lsA : Array Slot) (cA : Nat → ClassId), zRel B b D cA w s H → H.size = B + zn w → cells + (zn w' - zn w) ≤ R.cells → slots + (zsl w' - zsl w) ≤ R.slots → lsA.size = zL i →
      va_Run p l e R s m args below meth c H locs cells slots (zn w' - zn w) (zsl w' - zsl w) (F0 m pc lsA (st.map (zcv B b))) (rest.map (zcv B b)) (zQc B b D r w' a0) (fun q => B ≤ q))
    (hk : zG p l e R s m args below meth c Q B b D S0 i (pc + 3) ls (r.toList ++ rest) w') : zG p l e R s m args below meth c Q B b D S0 i pc ls st w := by
  obtain ⟨hx, hb, hml, hown, hts, hni, hK, hB, hnm, hfr, hlo⟩ := hX
  intro H locs cells slots lsA hS T hT X
  obtain ⟨cA, hr, hS1, hc, hs, hll, hl⟩ := id hS
  have hup := X.heapSize
  rw [hT] at hup
  have hsz := zsize hr hB hS1 hc hup
  obtain ⟨v, st₀, t, T', L, h0, X', hL, e1, e2, ⟨hv, ⟨cA', hr'⟩, hF⟩, hgo⟩ := hrun H locs cells slots lsA cA hr hsz (by omega) (by omega) hl.1 T hT X
  have hv : v = r.map (zcv B b) := by injection hv
  subst hv
  obtain ⟨hF1, hF2⟩ := hF
  rw [h0] at hF1 hF2
  have hal : t.vm.Alike s.vm := by
    rw [← e2]
    exact X'.warmed.alike.symm
  obtain ⟨t2, a1, b1⟩ := hk T'.heap (locs ++ L) (cells + (zn w' - zn w)) (slots + (zsl w' - zsl w)) lsA
    ⟨cA', by rw [e1]; exact hr'.moved hal,
      ⟨by rw [e1]; exact Nat.le_trans hS1.1 hF1, fun q h1 h2 => by rw [e1, hF2 q (Nat.lt_of_lt_of_le h1 hS1.1) h2]; exact hS1.2.1 q h1 h2, fun q hq => by
        rcases List.mem_append.mp hq with h | h
        · exact hS1.2.2 q h
        · exact hL q h⟩, by omega, by omega, hll, hl⟩ T' rfl X'
  refine ⟨t2, hgo t2 ?_, b1⟩
  have e3 : (r.toList ++ rest).map (zcv B b) = (r.map (zcv B b)).toList ++ rest.map (zcv B b) := by
    rw [List.map_append]
    cases r <;> rfl
  rw [e3] at a1
  exact a1
theorem zrm {i j n : Nat} (h : zroom i j n = true) : zFr j + 1 ≤ zFr i ∧ 8 + (zL j + 11) + zLo j ≤ zLo i ∧ n ≤ zL j := by
  unfold zroom at h
  simpa using h
theorem zs_static {ix j : Nat} {z : Int} {r : Option zV} {w' : zW} (hdg : decode (zB i) pc = .ok (.invokestatic ix, 3)) (hX : zCtx p R s m args meth c B D i) (hrm : zroom i j z.toNat = true) (hJ : zJok j) (hpar : zPar (zY j).desc z.toNat) (hst : Cond.static (zY j) ∈ zGW)
    (hlk : Cond.methodLink (zY i).cls ix (zY j) ∈ zGW ∨ ∃ host, ((zY i).cls, ix, zY j, host) ∈ zNL) (h1 : z.toNat ≤ st.length) (h8 : (st.drop z.toNat).length ≤ 8) (hM : zMet l B b D j (st.take z.toNat).reverse w r w') (hm : zn w ≤ zn w' ∧ zsl w ≤ zsl w') (hrc : B + zn w' ≤ s.heap.size + R.cells) (hrs : zsl w' ≤ S0 + R.slots)
    (hk : zG p l e R s m args below meth c Q B b D S0 i (pc + 3) ls (r.toList ++ st.drop z.toNat) w') : zG p l e R s m args below meth c Q B b D S0 i pc ls st w := by
  refine zs_after (a0 := (((st.take z.toNat).reverse).map (zcv B b)).toArray) hX hm hrc hrs (fun H locs cells slots lsA cA hr hsz hc1 hs1 hsize => ?_) hk
  have hpre := zpre (vs := (st.take z.toNat).reverse) hX hr hsz
  obtain ⟨hx, hb, hml, hown, hts, hni, hK, hB, hnm, hfr, hlo⟩ := hX
  obtain ⟨r1, r2, r3⟩ := zrm hrm
  have hlen : (((st.take z.toNat).reverse).map (zcv B b)).length = z.toNat := by simp; omega
  have hstk : (F0 m pc lsA (st.map (zcv B b))).stack = (((st.take z.toNat).reverse).map (zcv B b)).reverse ++ (st.drop z.toNat).map (zcv B b) := by
    show st.map (zcv B b) = _
    rw [← List.map_reverse, List.reverse_reverse, ← List.map_append, List.take_append_drop]
  have hroom : 2 * (F0 m pc lsA (st.map (zcv B b))).monitorRoom + (((st.drop z.toNat).map (zcv B b)).map fun v => v.category).sum ≤ 8 := lv_room (by rw [zcat]; exact h8)
  rcases hlk with hlk | ⟨host, hlk⟩
  · exact va_runS ⟨hx, hb, hml, hown, hts⟩ hM ⟨callB_of z.toNat hts (zGI hJ) rfl rfl rfl (hts _ hJ.2.2.1) (hts _ hlk) ⟨hJ.2.2.2.1.1, hJ.2.2.2.1.2, hpar⟩ ⟨by show zFr j + 1 ≤ _; omega, by show 8 + (zL j + 11) + zLo j ≤ _; omega⟩, hts _ hst⟩ ⟨zPc_blind B b D _ w, hpre⟩ rfl hlen hsize hstk hroom hdg ⟨hc1, hs1⟩
  · exact va_runSN ⟨hx, hb, hml, hown, hts⟩ hM ⟨va_cnB z.toNat hts (zGI hJ) rfl rfl rfl (hni.2.1 _ hlk) (hts _ hJ.2.2.1) ⟨hJ.2.2.2.1.1, hJ.2.2.2.1.2, hpar⟩ ⟨by show zFr j + 1 ≤ _; omega, by show 8 + (zL j + 11) + zLo j ≤ _; omega⟩, hts _ hst, trivial⟩ ⟨zPc_blind B b D _ w, hpre⟩ rfl hlen hsize hstk hroom hdg ⟨hc1, hs1⟩
theorem zdrop {z h : Nat} {rest : List zV} (hd : st.drop z = .inr (some h) :: rest) : z ≤ st.length ∧ st.map (zcv B b) = (((st.take z).reverse).map (zcv B b)).reverse ++ .ref (zad B b h) :: rest.map (zcv B b) := by
  constructor
  · have := congrArg List.length hd
    simp at this
    omega
  · have h1 : st.map (zcv B b) = (st.take z ++ st.drop z).map (zcv B b) := by rw [List.take_append_drop]
    rw [h1, hd, List.map_append, ← List.map_reverse, List.reverse_reverse]
    rfl
theorem zs_special {ix j h : Nat} {z : Int} {rest : List zV} {r : Option zV} {w' : zW} (hdg : decode (zB i) pc = .ok (.invokespecial ix, 3)) (hX : zCtx p R s m args meth c B D i) (hrm : zroom i j (z.toNat + 1) = true) (hJ : zJok j) (hpar : zPar (zY j).desc z.toNat) (hnam : (zY j).name = "<init>") (hre : zRe j = none) (hin : Cond.instanceMethod (zY j) ∈ zGW)
    (hlk : Cond.methodLink (zY i).cls ix (zY j) ∈ zGW ∨ ∃ host, ((zY i).cls, ix, zY j, host) ∈ zNL) (hd : st.drop z.toNat = .inr (some h) :: rest) (h8 : rest.length ≤ 8) (hM : zMet l B b D j (.inr (some h) :: (st.take z.toNat).reverse) w r w') (hm : zn w ≤ zn w' ∧ zsl w ≤ zsl w') (hrc : B + zn w' ≤ s.heap.size + R.cells) (hrs : zsl w' ≤ S0 + R.slots)
    (hk : zG p l e R s m args below meth c Q B b D S0 i (pc + 3) ls (r.toList ++ rest) w') : zG p l e R s m args below meth c Q B b D S0 i pc ls st w := by
  refine zs_after (a0 := ((.inr (some h) :: (st.take z.toNat).reverse).map (zcv B b)).toArray) hX hm hrc hrs (fun H locs cells slots lsA cA hr hsz hc1 hs1 hsize => ?_) hk
  have hpre := zpre (vs := .inr (some h) :: (st.take z.toNat).reverse) hX hr hsz
  obtain ⟨hx, hb, hml, hown, hts, hni, hK, hB, hnm, hfr, hlo⟩ := hX
  obtain ⟨r1, r2, r3⟩ := zrm hrm
  obtain ⟨hz1, hstk⟩ := zdrop (B := B) (b := b) hd
  have hlen : (((st.take z.toNat).reverse).map (zcv B b)).length = z.toNat := by simp; omega
  have hroom : 2 * (F0 m pc lsA (st.map (zcv B b))).monitorRoom + ((rest.map (zcv B b)).map fun v => v.category).sum ≤ 8 := lv_room (by rw [zcat]; exact h8)
  have hws : zWs j = Cond.code (zY j) (zB j) (zL j) none :: zGW := by unfold zWs; rw [hre]
  rcases hlk with hlk | ⟨host, hlk⟩
  · exact va_runI ⟨hx, hb, hml, hown, hts⟩ hM ⟨callB_of z.toNat hts (zGI hJ) hws rfl rfl (hts _ hJ.2.2.1) (hts _ hlk) ⟨hJ.2.2.2.1.1, hJ.2.2.2.1.2, hpar⟩ ⟨by show zFr j + 1 ≤ _; omega, by show 8 + (zL j + 11) + zLo j ≤ _; omega⟩, hnam, hts _ hin⟩ ⟨zPc_blind B b D _ w, hpre⟩ rfl hlen hsize hstk hroom hdg ⟨hc1, hs1⟩
  · exact va_runIN ⟨hx, hb, hml, hown, hts⟩ hM ⟨va_cnB z.toNat hts (zGI hJ) hws rfl rfl (hni.2.1 _ hlk) (hts _ hJ.2.2.1) ⟨hJ.2.2.2.1.1, hJ.2.2.2.1.2, hpar⟩ ⟨by show zFr j + 1 ≤ _; omega, by show 8 + (zL j + 11) + zLo j ≤ _; omega⟩, hnam, hts _ hin⟩ ⟨zPc_blind B b D _ w, hpre⟩ rfl hlen hsize hstk hroom hdg ⟨hc1, hs1⟩
theorem zmemU {own C owner : String} {ix : Nat} {x y : MethodName} {ws : List Cond} (h0 : ∀ w ∈ ws, w ∈ zGW) (h1 : Cond.methodLink own ix x ∈ zGW) (h2 : Cond.sameMethod x.cls owner x.name x.desc ∈ zGW) (h3 : Cond.selects C x y ∈ zGW) (h4 : Cond.instanceMethod y ∈ zGW) (h5 : Cond.initialized y.cls ∈ zGW) : GoodIn zGW (va_wsU own ix C owner x y ws) := zGood fun w hw => by
  unfold va_wsU at hw
  rcases List.mem_append.mp hw with h | h
  · simp only [List.mem_cons, List.not_mem_nil, or_false] at h
    rcases h with rfl | rfl | rfl | rfl | rfl
    · exact h1
    · exact h2
    · exact h3
    · exact h4
    · exact h5
  · exact h0 w h
theorem zmemO {own C owner : String} {ix : Nat} {x y : MethodName} {ws : List Cond} (h0 : ∀ w ∈ ws, w ∈ zGW) (h1 : Cond.methodLink own ix x ∈ zGW) (h2 : Cond.sameMethod x.cls owner x.name x.desc ∈ zGW) (h6 : Cond.instanceMethod ⟨owner, x.name, x.desc⟩ ∈ zGW) (h3 : Cond.selects C x y ∈ zGW) (h4 : Cond.instanceMethod y ∈ zGW) (h5 : Cond.initialized y.cls ∈ zGW) : GoodIn zGW (va_wsO own ix C owner x y ws) := zGood fun w hw => by
  unfold va_wsO at hw
  rcases List.mem_append.mp hw with h | h
  · simp only [List.mem_cons, List.not_mem_nil, or_false] at h
    rcases h with rfl | rfl | rfl | rfl | rfl | rfl
    · exact h1
    · exact h2
    · exact h6
    · exact h3
    · exact h4
    · exact h5
  · exact h0 w h
theorem zs_virtual {ix j h : Nat} {z : Int} {rest : List zV} {r : Option zV} {w' : zW} (hdg : decode (zB i) pc = .ok (.invokevirtual ix, 3)) (hX : zCtx p R s m args meth c B D i) (hrm : zroom i j (z.toNat + 1) = true) (hV : zVok (zY i).cls ix z (zk w h, j))
    (hd : st.drop z.toNat = .inr (some h) :: rest) (h8 : rest.length ≤ 8) (hM : zMet l B b D j (.inr (some h) :: (st.take z.toNat).reverse) w r w') (hm : zn w ≤ zn w' ∧ zsl w ≤ zsl w') (hrc : B + zn w' ≤ s.heap.size + R.cells) (hrs : zsl w' ≤ S0 + R.slots)
    (hk : zG p l e R s m args below meth c Q B b D S0 i (pc + 3) ls (r.toList ++ rest) w') : zG p l e R s m args below meth c Q B b D S0 i pc ls st w := by
  refine zs_after (a0 := ((.inr (some h) :: (st.take z.toNat).reverse).map (zcv B b)).toArray) hX hm hrc hrs (fun H locs cells slots lsA cA hr hsz hc1 hs1 hsize => ?_) hk
  have hpre := zpre (vs := .inr (some h) :: (st.take z.toNat).reverse) hX hr hsz
  obtain ⟨hx, hb, hml, hown, hts, hni, hK, hB, hnm, hfr, hlo⟩ := hX
  obtain ⟨r1, r2, r3⟩ := zrm hrm
  obtain ⟨hz1, hstk⟩ := zdrop (B := B) (b := b) hd
  obtain ⟨C, TT, N, hcl, hcN, hJ, hin, hV⟩ := hV
  have hcN : zk w h < zNC := hcN
  have hcl : zCl[zk w h]? = some (C, TT, N) := hcl
  have hJ : zJok j := hJ
  have hlen : (((st.take z.toNat).reverse).map (zcv B b)).length = z.toNat := by simp; omega
  have hroom : 2 * (F0 m pc lsA (st.map (zcv B b))).monitorRoom + ((rest.map (zcv B b)).map fun v => v.category).sum ≤ 8 := lv_room (by rw [zcat]; exact h8)
  have hzz := zNC_lt
  obtain ⟨g, rfl, hg⟩ := hr.1.at (h := h) (by omega) (by omega)
  have hcell : ∃ cellB : Cell, H[zad B b (g + 1)]? = some cellB ∧ cellB.vm.isStatics = false ∧ s.vm.findClass C = some cellB.cls := by
    have h1 := hr.2.1 g _ (zws_get hg)
    rw [zE_obj hcN] at h1
    obtain ⟨q, -, cell, h2, h3, h4, -⟩ := h1
    exact ⟨cell, h2, by rw [h4]; rfl, by rw [h3]; exact (hK.1 _ _ hcl).2.1⟩
  have hP2 : PreV s H C (zad B b (g + 1)) (zPc B b D (.inr (some (g + 1)) :: (st.take z.toNat).reverse) w) (((st.take z.toNat).reverse).map (zcv B b)) := ⟨zPc_blind B b D _ w, hcell, hpre⟩
  have hR2 : zFr j + 1 ≤ R.frames ∧ 8 + (zL j + 11) + zLo j ≤ R.locals := ⟨by omega, by omega⟩
  have hws : ∀ w ∈ zWs j, w ∈ zGW := fun w hw => (zGI hJ w hw).1
  rcases hV with ⟨hpar, hlk, hsel⟩ | ⟨hpar, hlk, hpriv, n1, n2, hi1, hi2⟩ | ⟨hpar, host, hlk, hsel⟩ | ⟨owner, x, hpar, hmh, hlk, hsm, hsel, hor⟩
  · exact va_runV ⟨hx, hb, hml, hown, hts⟩ hM ⟨callB_of z.toNat hts (zGI hJ) rfl rfl rfl (hts _ hJ.2.2.1) (hts _ hlk) ⟨hJ.2.2.2.1.1, hJ.2.2.2.1.2, hpar⟩ hR2, hts _ hin, hts _ hsel⟩ hP2 rfl hlen hsize hstk hroom hdg ⟨hc1, hs1⟩
  · exact va_runV ⟨hx, hb, hml, hown, hts⟩ hM ⟨callB_of z.toNat hts (zGI hJ) rfl rfl rfl (hts _ hJ.2.2.1) (hts _ hlk) ⟨hJ.2.2.2.1.1, hJ.2.2.2.1.2, hpar⟩ hR2, hts _ hin, zselP hJ.2.2.2.1 (hts _ hi1) (hts _ hi2) (va_Nw.use rfl (hni.1 _ hpriv)) (hts _ hin)⟩ hP2 rfl hlen hsize hstk hroom hdg ⟨hc1, hs1⟩
  · exact va_runVN ⟨hx, hb, hml, hown, hts⟩ hM ⟨va_cnB z.toNat hts (zGI hJ) rfl rfl rfl (hni.2.1 _ hlk) (hts _ hJ.2.2.1) ⟨hJ.2.2.2.1.1, hJ.2.2.2.1.2, hpar⟩ hR2, hts _ hin, hts _ hsel⟩ hP2 rfl hlen hsize hstk hroom hdg ⟨hc1, hs1⟩
  · have cw : va_CU R s args (zY i).cls C owner ix x (zY j) (zB j) (zL j) (zRe j) (zWs j) { frames := zFr j, cells := zn w' - zn w, slots := zsl w' - zsl w, locals := zLo j } (zn w' - zn w) (zsl w' - zsl w) z.toNat := by
      rcases hor with hor | ⟨hi, b0, m0, r0, h0⟩ | hdl
      · exact va_cwU z.toNat hts (zmemU hws hlk hsm hsel hin hJ.2.2.1) rfl rfl rfl hor ⟨hmh.1, hmh.2, hpar⟩ hR2
      · exact va_cwO z.toNat hts (zmemO hws hlk hsm hi hsel hin hJ.2.2.1) rfl rfl rfl h0 ⟨hmh.1, hmh.2, hpar⟩ hR2
      · exact va_cwA z.toNat hts (zmemU hws hlk hsm hsel hin hJ.2.2.1) rfl rfl rfl (hni.2.2.1 _ hdl) ⟨hmh.1, hmh.2, hpar⟩ hR2
    exact va_runU ⟨hx, hb, hml, hown, hts⟩ hM cw hP2 rfl hlen hsize hstk hroom hdg ⟨hc1, hs1⟩
end ZC
