-- the simulation: each step of the interpreter is a step of the machine (an instruction a row)
theorem zeqI {x y : Int} : zI x = zI y ↔ zN x = zN y := (Int32.toInt_inj (x := zI x) (y := zI y)).symm
theorem zltI {x y : Int} : zI x < zI y ↔ zN x < zN y := Int32.lt_iff_toInt_lt
theorem zleI {x y : Int} : zI x ≤ zI y ↔ zN x ≤ zN y := Int32.le_iff_toInt_le
theorem zeq0 {x : Int} : zI x = 0 ↔ zN x = 0 := zeqI (y := 0)
theorem zlt0 {x : Int} : zI x < 0 ↔ zN x < 0 := zltI (y := 0)
theorem zgt0 {x : Int} : 0 < zI x ↔ 0 < zN x := zltI (x := 0)
theorem zle0 {x : Int} : zI x ≤ 0 ↔ zN x ≤ 0 := zleI (y := 0)
theorem zge0 {x : Int} : 0 ≤ zI x ↔ 0 ≤ zN x := zleI (x := 0)
theorem zto_eq {pc : Nat} {off : Int} (h : 0 ≤ (pc : Int) + off) : (pc : Int) + off = (zto pc off : Int) := by unfold zto; omega
def zCtx (p : Program) (R : Room) (s : State) (m : MethodId) (args : Array Value) (meth : Method) (c : Code) (B : Nat) (D : va_G) (i : Nat) : Prop :=
  p.tables.exec = Jvm.exec ∧ c.code = zB i ∧ c.maxLocals = zL i ∧ s.vm.findClass (zY i).cls = some m.cls ∧ (∀ w ∈ zGW, w.before args s = true) ∧ zNice s ∧ va_K D zCl [] s ∧ B ≤ s.heap.size ∧ ((zY i).name = "<init>" → meth.name = "<init>") ∧ zFr i ≤ R.frames ∧ zLo i ≤ R.locals
def zSR (B b : Nat) (D : va_G) (S0 i : Nat) (s : State) (H : Heap) (locs : List Loc) (cells slots : Nat) (w : zW) (ls : List (Option zV)) (lsA : Array Slot) : Prop :=
  ∃ cA, zRel B b D cA w s H ∧ va_S (fun q => B ≤ q) s.heap H locs ∧ s.heap.size + cells = B + zn w ∧ S0 + slots = zsl w ∧ ls.length = zL i ∧ lv_has lsA (zL i) (zlv B b ls)
def zG (p : Program) (l : Launch) (e : Env) (R : Room) (s : State) (m : MethodId) (args : Array Value) (below : List Frame) (meth : Method) (c : Code) (Q : State → Prop) (B b : Nat) (D : va_G) (S0 i : Nat) (pc : Nat) (ls : List (Option zV)) (st : List zV) (w : zW) : Prop :=
  ∀ (H : Heap) (locs : List Loc) (cells slots : Nat) (lsA : Array Slot), zSR B b D S0 i s H locs cells slots w ls lsA → W p l e R s m args below meth c H locs cells slots Q (F0 m pc lsA (st.map (zcv B b)))
section ZS
variable {p : Program} {l : Launch} {e : Env} {R : Room} {s : State} {m : MethodId} {args : Array Value} {below : List Frame} {meth : Method} {c : Code} {Q : State → Prop}
variable {B b : Nat} {D : va_G} {S0 i : Nat} {pc : Nat} {ls : List (Option zV)} {st : List zV} {w : zW}
theorem zs_null (hX : zCtx p R s m args meth c B D i) (hdg : decode (zB i) pc = .ok (.aconst_null, 1)) (hk : zG p l e R s m args below meth c Q B b D S0 i (pc + 1) ls (.inr none :: st) w) : zG p l e R s m args below meth c Q B b D S0 i pc ls st w := by
  obtain ⟨hx, hb, hml, hown, hts, hni, hK, hB, hnm, hfr, hlo⟩ := hX
  intro H locs cells slots lsA hS
  exact lv_null hx hb hdg (hk H locs cells slots lsA hS)
theorem zs_iconst (hX : zCtx p R s m args meth c B D i) {n : Int} (hdg : decode (zB i) pc = .ok (.iconst n, 1)) (hk : zG p l e R s m args below meth c Q B b D S0 i (pc + 1) ls (.inl n :: st) w) : zG p l e R s m args below meth c Q B b D S0 i pc ls st w := by
  obtain ⟨hx, hb, hml, hown, hts, hni, hK, hB, hnm, hfr, hlo⟩ := hX
  intro H locs cells slots lsA hS
  exact lv_iconst hx hb hdg rfl (hk H locs cells slots lsA hS)
theorem zs_bipush (hX : zCtx p R s m args meth c B D i) {n : Int} (hdg : decode (zB i) pc = .ok (.bipush n, 2)) (hv : (Int8.ofInt n).toInt32 = Int32.ofInt n) (hk : zG p l e R s m args below meth c Q B b D S0 i (pc + 2) ls (.inl n :: st) w) : zG p l e R s m args below meth c Q B b D S0 i pc ls st w := by
  obtain ⟨hx, hb, hml, hown, hts, hni, hK, hB, hnm, hfr, hlo⟩ := hX
  intro H locs cells slots lsA hS
  exact lv_bipush hx hb hdg hv (hk H locs cells slots lsA hS)
theorem zs_sipush (hX : zCtx p R s m args meth c B D i) {n : Int} (hdg : decode (zB i) pc = .ok (.sipush n, 3)) (hv : (Int16.ofInt n).toInt32 = Int32.ofInt n) (hk : zG p l e R s m args below meth c Q B b D S0 i (pc + 3) ls (.inl n :: st) w) : zG p l e R s m args below meth c Q B b D S0 i pc ls st w := by
  obtain ⟨hx, hb, hml, hown, hts, hni, hK, hB, hnm, hfr, hlo⟩ := hX
  intro H locs cells slots lsA hS
  exact lv_sipush hx hb hdg hv (hk H locs cells slots lsA hS)
theorem zs_ldc (hX : zCtx p R s m args meth c B D i) {ix : Nat} {z : Int} (hdg : decode (zB i) pc = .ok (.ldc ix, 2)) (hw : Cond.constant (zY i).cls ix (zI z) ∈ zGW) (hk : zG p l e R s m args below meth c Q B b D S0 i (pc + 2) ls (.inl z :: st) w) : zG p l e R s m args below meth c Q B b D S0 i pc ls st w := by
  obtain ⟨hx, hb, hml, hown, hts, hni, hK, hB, hnm, hfr, hlo⟩ := hX
  intro H locs cells slots lsA hS
  exact lv_ldc hx hb hown (hts _ hw) hdg (hk H locs cells slots lsA hS)
theorem zs_ldcw (hX : zCtx p R s m args meth c B D i) {ix : Nat} {z : Int} (hdg : decode (zB i) pc = .ok (.ldc_w ix, 3)) (hw : Cond.constant (zY i).cls ix (zI z) ∈ zGW) (hk : zG p l e R s m args below meth c Q B b D S0 i (pc + 3) ls (.inl z :: st) w) : zG p l e R s m args below meth c Q B b D S0 i pc ls st w := by
  obtain ⟨hx, hb, hml, hown, hts, hni, hK, hB, hnm, hfr, hlo⟩ := hX
  intro H locs cells slots lsA hS
  exact lv_ldcw hx hb hown (hts _ hw) hdg (hk H locs cells slots lsA hS)
theorem zs_iload (hX : zCtx p R s m args meth c B D i) {ix : Nat} {x : Int} (hdg : decode (zB i) pc = .ok (.iload ix, 2)) (hv : ls[ix]? = some (some (.inl x))) (hk : zG p l e R s m args below meth c Q B b D S0 i (pc + 2) ls (.inl x :: st) w) : zG p l e R s m args below meth c Q B b D S0 i pc ls st w := by
  obtain ⟨hx, hb, hml, hown, hts, hni, hK, hB, hnm, hfr, hlo⟩ := hX
  intro H locs cells slots lsA hS
  obtain ⟨cA, hr, hS1, hc, hs, hll, hl⟩ := id hS
  exact lv_iload hx hb hdg (zlv_at hl hv) (hk H locs cells slots lsA hS)
theorem zs_iload_n (hX : zCtx p R s m args meth c B D i) {ix : Fin 4} {x : Int} (hdg : decode (zB i) pc = .ok (.iload_n ix, 1)) (hv : ls[ix.val]? = some (some (.inl x))) (hk : zG p l e R s m args below meth c Q B b D S0 i (pc + 1) ls (.inl x :: st) w) : zG p l e R s m args below meth c Q B b D S0 i pc ls st w := by
  obtain ⟨hx, hb, hml, hown, hts, hni, hK, hB, hnm, hfr, hlo⟩ := hX
  intro H locs cells slots lsA hS
  obtain ⟨cA, hr, hS1, hc, hs, hll, hl⟩ := id hS
  exact lv_iload_n hx hb hdg rfl (zlv_at hl hv) (hk H locs cells slots lsA hS)
theorem zs_aload (hX : zCtx p R s m args meth c B D i) {ix : Nat} {x : Option Nat} (hdg : decode (zB i) pc = .ok (.aload ix, 2)) (hv : ls[ix]? = some (some (.inr x))) (hk : zG p l e R s m args below meth c Q B b D S0 i (pc + 2) ls (.inr x :: st) w) : zG p l e R s m args below meth c Q B b D S0 i pc ls st w := by
  obtain ⟨hx, hb, hml, hown, hts, hni, hK, hB, hnm, hfr, hlo⟩ := hX
  intro H locs cells slots lsA hS
  obtain ⟨cA, hr, hS1, hc, hs, hll, hl⟩ := id hS
  have hv := zlv_at hl hv
  have hk := hk H locs cells slots lsA hS
  cases x with
  | none => exact lv_aloadN hx hb hdg hv hk
  | some h => exact lv_aload hx hb hdg hv hk
theorem zs_aload_n (hX : zCtx p R s m args meth c B D i) {ix : Fin 4} {x : Option Nat} (hdg : decode (zB i) pc = .ok (.aload_n ix, 1)) (hv : ls[ix.val]? = some (some (.inr x))) (hk : zG p l e R s m args below meth c Q B b D S0 i (pc + 1) ls (.inr x :: st) w) : zG p l e R s m args below meth c Q B b D S0 i pc ls st w := by
  obtain ⟨hx, hb, hml, hown, hts, hni, hK, hB, hnm, hfr, hlo⟩ := hX
  intro H locs cells slots lsA hS
  obtain ⟨cA, hr, hS1, hc, hs, hll, hl⟩ := id hS
  have hv := zlv_at hl hv
  have hk := hk H locs cells slots lsA hS
  cases x with
  | none => exact lv_aload_nN hx hb hdg rfl hv hk
  | some h => exact lv_aload_n hx hb hdg rfl hv hk
theorem zs_istore (hX : zCtx p R s m args meth c B D i) {ix : Nat} {x : Int} (hdg : decode (zB i) pc = .ok (.istore ix, 2)) (hlt : ix < ls.length) (hk : zG p l e R s m args below meth c Q B b D S0 i (pc + 2) (ls.set ix (some (.inl x))) st w) : zG p l e R s m args below meth c Q B b D S0 i pc ls (.inl x :: st) w := by
  obtain ⟨hx, hb, hml, hown, hts, hni, hK, hB, hnm, hfr, hlo⟩ := hX
  intro H locs cells slots lsA hS
  obtain ⟨cA, hr, hS1, hc, hs, hll, hl⟩ := id hS
  exact lv_istore hx hb hdg hl (by rw [← hll]; exact hlt) rfl (fun ls1 h1 => hk H locs cells slots ls1 ⟨cA, hr, hS1, hc, hs, by rw [List.length_set]; exact hll, zlv_set (v := .inl x) h1⟩)
theorem zs_istore_n (hX : zCtx p R s m args meth c B D i) {ix : Fin 4} {x : Int} (hdg : decode (zB i) pc = .ok (.istore_n ix, 1)) (hlt : ix.val < ls.length) (hk : zG p l e R s m args below meth c Q B b D S0 i (pc + 1) (ls.set ix.val (some (.inl x))) st w) : zG p l e R s m args below meth c Q B b D S0 i pc ls (.inl x :: st) w := by
  obtain ⟨hx, hb, hml, hown, hts, hni, hK, hB, hnm, hfr, hlo⟩ := hX
  intro H locs cells slots lsA hS
  obtain ⟨cA, hr, hS1, hc, hs, hll, hl⟩ := id hS
  exact lv_istore_n hx hb hdg rfl hl (by rw [← hll]; exact hlt) rfl (fun ls1 h1 => hk H locs cells slots ls1 ⟨cA, hr, hS1, hc, hs, by rw [List.length_set]; exact hll, zlv_set (v := .inl x) h1⟩)
theorem zs_astore (hX : zCtx p R s m args meth c B D i) {ix : Nat} {x : Option Nat} (hdg : decode (zB i) pc = .ok (.astore ix, 2)) (hlt : ix < ls.length) (hk : zG p l e R s m args below meth c Q B b D S0 i (pc + 2) (ls.set ix (some (.inr x))) st w) : zG p l e R s m args below meth c Q B b D S0 i pc ls (.inr x :: st) w := by
  obtain ⟨hx, hb, hml, hown, hts, hni, hK, hB, hnm, hfr, hlo⟩ := hX
  intro H locs cells slots lsA hS
  obtain ⟨cA, hr, hS1, hc, hs, hll, hl⟩ := id hS
  cases x with
  | none => exact lv_astoreN hx hb hdg hl (by rw [← hll]; exact hlt) rfl (fun ls1 h1 => hk H locs cells slots ls1 ⟨cA, hr, hS1, hc, hs, by rw [List.length_set]; exact hll, zlv_set (v := .inr none) h1⟩)
  | some h => exact lv_astore hx hb hdg hl (by rw [← hll]; exact hlt) rfl (fun ls1 h1 => hk H locs cells slots ls1 ⟨cA, hr, hS1, hc, hs, by rw [List.length_set]; exact hll, zlv_set (v := .inr (some h)) h1⟩)
theorem zs_astore_n (hX : zCtx p R s m args meth c B D i) {ix : Fin 4} {x : Option Nat} (hdg : decode (zB i) pc = .ok (.astore_n ix, 1)) (hlt : ix.val < ls.length) (hk : zG p l e R s m args below meth c Q B b D S0 i (pc + 1) (ls.set ix.val (some (.inr x))) st w) : zG p l e R s m args below meth c Q B b D S0 i pc ls (.inr x :: st) w := by
  obtain ⟨hx, hb, hml, hown, hts, hni, hK, hB, hnm, hfr, hlo⟩ := hX
  intro H locs cells slots lsA hS
  obtain ⟨cA, hr, hS1, hc, hs, hll, hl⟩ := id hS
  cases x with
  | none => exact lv_astore_nN hx hb hdg rfl hl (by rw [← hll]; exact hlt) rfl (fun ls1 h1 => hk H locs cells slots ls1 ⟨cA, hr, hS1, hc, hs, by rw [List.length_set]; exact hll, zlv_set (v := .inr none) h1⟩)
  | some h => exact lv_astore_n hx hb hdg rfl hl (by rw [← hll]; exact hlt) rfl (fun ls1 h1 => hk H locs cells slots ls1 ⟨cA, hr, hS1, hc, hs, by rw [List.length_set]; exact hll, zlv_set (v := .inr (some h)) h1⟩)
theorem zs_iinc3 (hX : zCtx p R s m args meth c B D i) {ix : Nat} {n x : Int} (hdg : decode (zB i) pc = .ok (.iinc ix n, 3)) (hv : ls[ix]? = some (some (.inl x))) (hk : zG p l e R s m args below meth c Q B b D S0 i (pc + 3) (ls.set ix (some (.inl (x + n)))) st w) : zG p l e R s m args below meth c Q B b D S0 i pc ls st w := by
  obtain ⟨hx, hb, hml, hown, hts, hni, hK, hB, hnm, hfr, hlo⟩ := hX
  intro H locs cells slots lsA hS
  obtain ⟨cA, hr, hS1, hc, hs, hll, hl⟩ := id hS
  obtain ⟨k, hk1⟩ := List.getElem?_of_mem (zlv_of (B := B) (b := b) hv)
  have hlt := (List.getElem?_eq_some_iff.mp hv).1
  exact lv_iinc hx hb hdg hl hk1 (Int32.ofInt_add x n).symm (by rw [← hll]; exact hlt) rfl (fun ls1 h1 => hk H locs cells slots ls1 ⟨cA, hr, hS1, hc, hs, by rw [List.length_set]; exact hll, zlv_set (v := .inl (x + n)) h1⟩)
theorem zs_iinc6 (hX : zCtx p R s m args meth c B D i) {ix : Nat} {n x : Int} (hdg : decode (zB i) pc = .ok (.iinc ix n, 6)) (hv : ls[ix]? = some (some (.inl x))) (hk : zG p l e R s m args below meth c Q B b D S0 i (pc + 6) (ls.set ix (some (.inl (x + n)))) st w) : zG p l e R s m args below meth c Q B b D S0 i pc ls st w := by
  obtain ⟨hx, hb, hml, hown, hts, hni, hK, hB, hnm, hfr, hlo⟩ := hX
  intro H locs cells slots lsA hS
  obtain ⟨cA, hr, hS1, hc, hs, hll, hl⟩ := id hS
  obtain ⟨k, hk1⟩ := List.getElem?_of_mem (zlv_of (B := B) (b := b) hv)
  have hlt := (List.getElem?_eq_some_iff.mp hv).1
  exact lv_iincW hx hb hdg hl hk1 (Int32.ofInt_add x n).symm (by rw [← hll]; exact hlt) rfl (fun ls1 h1 => hk H locs cells slots ls1 ⟨cA, hr, hS1, hc, hs, by rw [List.length_set]; exact hll, zlv_set (v := .inl (x + n)) h1⟩)
theorem zs_pop (hX : zCtx p R s m args meth c B D i) {v : zV} (hdg : decode (zB i) pc = .ok (.pop, 1)) (hk : zG p l e R s m args below meth c Q B b D S0 i (pc + 1) ls st w) : zG p l e R s m args below meth c Q B b D S0 i pc ls (v :: st) w := by
  obtain ⟨hx, hb, hml, hown, hts, hni, hK, hB, hnm, hfr, hlo⟩ := hX
  intro H locs cells slots lsA hS
  exact lv_pop hx hb hdg (zcv_cat B b v) (hk H locs cells slots lsA hS)
theorem zs_dup (hX : zCtx p R s m args meth c B D i) {v : zV} (hdg : decode (zB i) pc = .ok (.dup, 1)) (hk : zG p l e R s m args below meth c Q B b D S0 i (pc + 1) ls (v :: v :: st) w) : zG p l e R s m args below meth c Q B b D S0 i pc ls (v :: st) w := by
  obtain ⟨hx, hb, hml, hown, hts, hni, hK, hB, hnm, hfr, hlo⟩ := hX
  intro H locs cells slots lsA hS
  exact lv_dup hx hb hdg (zcv_cat B b v) (hk H locs cells slots lsA hS)
theorem zs_dup_x1 (hX : zCtx p R s m args meth c B D i) {v u : zV} (hdg : decode (zB i) pc = .ok (.dup_x1, 1)) (hk : zG p l e R s m args below meth c Q B b D S0 i (pc + 1) ls (v :: u :: v :: st) w) : zG p l e R s m args below meth c Q B b D S0 i pc ls (v :: u :: st) w := by
  obtain ⟨hx, hb, hml, hown, hts, hni, hK, hB, hnm, hfr, hlo⟩ := hX
  intro H locs cells slots lsA hS
  exact lv_dup_x1 hx hb hdg (zcv_cat B b v) (zcv_cat B b u) (hk H locs cells slots lsA hS)
theorem zs_dup2 (hX : zCtx p R s m args meth c B D i) {v u : zV} (hdg : decode (zB i) pc = .ok (.dup2, 1)) (hk : zG p l e R s m args below meth c Q B b D S0 i (pc + 1) ls (v :: u :: v :: u :: st) w) : zG p l e R s m args below meth c Q B b D S0 i pc ls (v :: u :: st) w := by
  obtain ⟨hx, hb, hml, hown, hts, hni, hK, hB, hnm, hfr, hlo⟩ := hX
  intro H locs cells slots lsA hS
  exact lv_dup2_11 hx hb hdg (zcv_cat B b v) (zcv_cat B b u) (hk H locs cells slots lsA hS)
theorem zs_iadd (hX : zCtx p R s m args meth c B D i) {x y : Int} (hdg : decode (zB i) pc = .ok (.iadd, 1)) (hk : zG p l e R s m args below meth c Q B b D S0 i (pc + 1) ls (.inl (x + y) :: st) w) : zG p l e R s m args below meth c Q B b D S0 i pc ls (.inl y :: .inl x :: st) w := by
  obtain ⟨hx, hb, hml, hown, hts, hni, hK, hB, hnm, hfr, hlo⟩ := hX
  intro H locs cells slots lsA hS
  have hk := hk H locs cells slots lsA hS
  have e1 : zcv B b (.inl (x + y)) = .int (zI x + zI y) := congrArg Value.int (Int32.ofInt_add x y)
  rw [List.map_cons, e1] at hk
  exact lv_iadd hx hb hdg hk
theorem zs_isub (hX : zCtx p R s m args meth c B D i) {x y : Int} (hdg : decode (zB i) pc = .ok (.isub, 1)) (hk : zG p l e R s m args below meth c Q B b D S0 i (pc + 1) ls (.inl (x - y) :: st) w) : zG p l e R s m args below meth c Q B b D S0 i pc ls (.inl y :: .inl x :: st) w := by
  obtain ⟨hx, hb, hml, hown, hts, hni, hK, hB, hnm, hfr, hlo⟩ := hX
  intro H locs cells slots lsA hS
  have hk := hk H locs cells slots lsA hS
  have e1 : zcv B b (.inl (x - y)) = .int (zI x - zI y) := congrArg Value.int (Int32.ofInt_sub x y)
  rw [List.map_cons, e1] at hk
  exact lv_isub hx hb hdg hk
theorem zs_imul (hX : zCtx p R s m args meth c B D i) {x y : Int} (hdg : decode (zB i) pc = .ok (.imul, 1)) (hk : zG p l e R s m args below meth c Q B b D S0 i (pc + 1) ls (.inl (x * y) :: st) w) : zG p l e R s m args below meth c Q B b D S0 i pc ls (.inl y :: .inl x :: st) w := by
  obtain ⟨hx, hb, hml, hown, hts, hni, hK, hB, hnm, hfr, hlo⟩ := hX
  intro H locs cells slots lsA hS
  have hk := hk H locs cells slots lsA hS
  have e1 : zcv B b (.inl (x * y)) = .int (zI x * zI y) := congrArg Value.int (Int32.ofInt_mul x y)
  rw [List.map_cons, e1] at hk
  exact lv_imul hx hb hdg hk
theorem zs_iand (hX : zCtx p R s m args meth c B D i) {x y : Int} (hdg : decode (zB i) pc = .ok (.iand, 1)) (hk : zG p l e R s m args below meth c Q B b D S0 i (pc + 1) ls (.inl (zo_and x y) :: st) w) : zG p l e R s m args below meth c Q B b D S0 i pc ls (.inl y :: .inl x :: st) w := by
  obtain ⟨hx, hb, hml, hown, hts, hni, hK, hB, hnm, hfr, hlo⟩ := hX
  intro H locs cells slots lsA hS
  have hk := hk H locs cells slots lsA hS
  have e1 : zcv B b (.inl (zo_and x y)) = .int (zI x &&& zI y) := congrArg Value.int (zI_toInt _)
  rw [List.map_cons, e1] at hk
  exact lv_iand hx hb hdg hk
theorem zs_ior (hX : zCtx p R s m args meth c B D i) {x y : Int} (hdg : decode (zB i) pc = .ok (.ior, 1)) (hk : zG p l e R s m args below meth c Q B b D S0 i (pc + 1) ls (.inl (zo_or x y) :: st) w) : zG p l e R s m args below meth c Q B b D S0 i pc ls (.inl y :: .inl x :: st) w := by
  obtain ⟨hx, hb, hml, hown, hts, hni, hK, hB, hnm, hfr, hlo⟩ := hX
  intro H locs cells slots lsA hS
  have hk := hk H locs cells slots lsA hS
  have e1 : zcv B b (.inl (zo_or x y)) = .int (zI x ||| zI y) := congrArg Value.int (zI_toInt _)
  rw [List.map_cons, e1] at hk
  exact lv_ior hx hb hdg hk
theorem zs_ixor (hX : zCtx p R s m args meth c B D i) {x y : Int} (hdg : decode (zB i) pc = .ok (.ixor, 1)) (hk : zG p l e R s m args below meth c Q B b D S0 i (pc + 1) ls (.inl (zo_xor x y) :: st) w) : zG p l e R s m args below meth c Q B b D S0 i pc ls (.inl y :: .inl x :: st) w := by
  obtain ⟨hx, hb, hml, hown, hts, hni, hK, hB, hnm, hfr, hlo⟩ := hX
  intro H locs cells slots lsA hS
  have hk := hk H locs cells slots lsA hS
  have e1 : zcv B b (.inl (zo_xor x y)) = .int (zI x ^^^ zI y) := congrArg Value.int (zI_toInt _)
  rw [List.map_cons, e1] at hk
  exact lv_ixor hx hb hdg hk
theorem zs_ishl (hX : zCtx p R s m args meth c B D i) {x y : Int} (hdg : decode (zB i) pc = .ok (.ishl, 1)) (hk : zG p l e R s m args below meth c Q B b D S0 i (pc + 1) ls (.inl (zo_shl x y) :: st) w) : zG p l e R s m args below meth c Q B b D S0 i pc ls (.inl y :: .inl x :: st) w := by
  obtain ⟨hx, hb, hml, hown, hts, hni, hK, hB, hnm, hfr, hlo⟩ := hX
  intro H locs cells slots lsA hS
  have hk := hk H locs cells slots lsA hS
  have e1 : zcv B b (.inl (zo_shl x y)) = .int (zI x <<< (zI y &&& 31)) := congrArg Value.int (zI_toInt _)
  rw [List.map_cons, e1] at hk
  exact lv_ishl hx hb hdg hk
theorem zs_ishr (hX : zCtx p R s m args meth c B D i) {x y : Int} (hdg : decode (zB i) pc = .ok (.ishr, 1)) (hk : zG p l e R s m args below meth c Q B b D S0 i (pc + 1) ls (.inl (zo_shr x y) :: st) w) : zG p l e R s m args below meth c Q B b D S0 i pc ls (.inl y :: .inl x :: st) w := by
  obtain ⟨hx, hb, hml, hown, hts, hni, hK, hB, hnm, hfr, hlo⟩ := hX
  intro H locs cells slots lsA hS
  have hk := hk H locs cells slots lsA hS
  have e1 : zcv B b (.inl (zo_shr x y)) = .int (zI x >>> (zI y &&& 31)) := congrArg Value.int (zI_toInt _)
  rw [List.map_cons, e1] at hk
  exact lv_ishr hx hb hdg hk
theorem zs_idiv (hX : zCtx p R s m args meth c B D i) {x y : Int} (hdg : decode (zB i) pc = .ok (.idiv, 1)) (hne : ¬ zN y = 0) (hk : zG p l e R s m args below meth c Q B b D S0 i (pc + 1) ls (.inl (zo_div x y) :: st) w) : zG p l e R s m args below meth c Q B b D S0 i pc ls (.inl y :: .inl x :: st) w := by
  obtain ⟨hx, hb, hml, hown, hts, hni, hK, hB, hnm, hfr, hlo⟩ := hX
  intro H locs cells slots lsA hS
  have hk := hk H locs cells slots lsA hS
  have e1 : zcv B b (.inl (zo_div x y)) = .int (zI x / zI y) := congrArg Value.int (zI_toInt _)
  rw [List.map_cons, e1] at hk
  exact lv_idiv hx hb hdg (zI_ne hne) hk
theorem zs_irem (hX : zCtx p R s m args meth c B D i) {x y : Int} (hdg : decode (zB i) pc = .ok (.irem, 1)) (hne : ¬ zN y = 0) (hk : zG p l e R s m args below meth c Q B b D S0 i (pc + 1) ls (.inl (zo_rem x y) :: st) w) : zG p l e R s m args below meth c Q B b D S0 i pc ls (.inl y :: .inl x :: st) w := by
  obtain ⟨hx, hb, hml, hown, hts, hni, hK, hB, hnm, hfr, hlo⟩ := hX
  intro H locs cells slots lsA hS
  have hk := hk H locs cells slots lsA hS
  have e1 : zcv B b (.inl (zo_rem x y)) = .int (zI x - zI x / zI y * zI y) := congrArg Value.int (zI_toInt _)
  rw [List.map_cons, e1] at hk
  exact lv_irem hx hb hdg (zI_ne hne) hk
theorem zs_ineg (hX : zCtx p R s m args meth c B D i) {x : Int} (hdg : decode (zB i) pc = .ok (.ineg, 1)) (hk : zG p l e R s m args below meth c Q B b D S0 i (pc + 1) ls (.inl (-x) :: st) w) : zG p l e R s m args below meth c Q B b D S0 i pc ls (.inl x :: st) w := by
  obtain ⟨hx, hb, hml, hown, hts, hni, hK, hB, hnm, hfr, hlo⟩ := hX
  intro H locs cells slots lsA hS
  have hk := hk H locs cells slots lsA hS
  have e1 : zcv B b (.inl (-x)) = .int (-zI x) := congrArg Value.int (Int32.ofInt_neg x)
  rw [List.map_cons, e1] at hk
  exact lv_ineg hx hb hdg hk
theorem zs_i2s (hX : zCtx p R s m args meth c B D i) {x : Int} (hdg : decode (zB i) pc = .ok (.i2s, 1)) (hk : zG p l e R s m args below meth c Q B b D S0 i (pc + 1) ls (.inl (zo_i2s x) :: st) w) : zG p l e R s m args below meth c Q B b D S0 i pc ls (.inl x :: st) w := by
  obtain ⟨hx, hb, hml, hown, hts, hni, hK, hB, hnm, hfr, hlo⟩ := hX
  intro H locs cells slots lsA hS
  exact lv_i2s hx hb hdg (zI_toInt _).symm (hk H locs cells slots lsA hS)
theorem zs_i2b (hX : zCtx p R s m args meth c B D i) {x : Int} (hdg : decode (zB i) pc = .ok (.i2b, 1)) (hk : zG p l e R s m args below meth c Q B b D S0 i (pc + 1) ls (.inl (zo_i2b x) :: st) w) : zG p l e R s m args below meth c Q B b D S0 i pc ls (.inl x :: st) w := by
  obtain ⟨hx, hb, hml, hown, hts, hni, hK, hB, hnm, hfr, hlo⟩ := hX
  intro H locs cells slots lsA hS
  exact lv_i2b hx hb hdg (zI_toInt _).symm (hk H locs cells slots lsA hS)
theorem zs_icmp (hX : zCtx p R s m args meth c B D i) {cnd : Jvm.ClassFile.Cond} {off : Int} {x y : Int} (hdg : decode (zB i) pc = .ok (.if_icmp cnd off, 3)) (ht : 0 ≤ (pc : Int) + off) (hk : zG p l e R s m args below meth c Q B b D S0 i (if zcmp cnd (zN x) (zN y) = true then zto pc off else pc + 3) ls st w) : zG p l e R s m args below meth c Q B b D S0 i pc ls (.inl y :: .inl x :: st) w := by
  obtain ⟨hx, hb, hml, hown, hts, hni, hK, hB, hnm, hfr, hlo⟩ := hX
  intro H locs cells slots lsA hS
  have hk := hk H locs cells slots lsA hS
  have ht := zto_eq ht
  cases cnd
  case eq =>
    refine lv_icmp_eq hx hb hdg ht (fun h => ?_) (fun h => ?_)
    · have h1 : zcmp .eq (zN x) (zN y) = true := decide_eq_true (zeqI.mp h)
      rw [if_pos h1] at hk; exact hk
    · have h1 : ¬ zcmp .eq (zN x) (zN y) = true := fun q => h (zeqI.mpr (of_decide_eq_true q))
      rw [if_neg h1] at hk; exact hk
  case ne =>
    refine lv_icmp_ne hx hb hdg ht (fun h => ?_) (fun h => ?_)
    · have h1 : zcmp .ne (zN x) (zN y) = true := decide_eq_true (fun q => h (zeqI.mpr q))
      rw [if_pos h1] at hk; exact hk
    · have h1 : ¬ zcmp .ne (zN x) (zN y) = true := fun q => (of_decide_eq_true q) (zeqI.mp h)
      rw [if_neg h1] at hk; exact hk
  case lt =>
    refine lv_icmp_lt hx hb hdg ht (fun h => ?_) (fun h => ?_)
    · have h1 : zcmp .lt (zN x) (zN y) = true := decide_eq_true (zltI.mp h)
      rw [if_pos h1] at hk; exact hk
    · have h1 : ¬ zcmp .lt (zN x) (zN y) = true := fun q => h (zltI.mpr (of_decide_eq_true q))
      rw [if_neg h1] at hk; exact hk
  case ge =>
    refine lv_icmp_ge hx hb hdg ht (fun h => ?_) (fun h => ?_)
    · have h1 : zcmp .ge (zN x) (zN y) = true := decide_eq_true (zleI.mp h)
      rw [if_pos h1] at hk; exact hk
    · have h1 : ¬ zcmp .ge (zN x) (zN y) = true := fun q => h (zleI.mpr (of_decide_eq_true q))
      rw [if_neg h1] at hk; exact hk
  case gt =>
    refine lv_icmp_gt hx hb hdg ht (fun h => ?_) (fun h => ?_)
    · have h1 : zcmp .gt (zN x) (zN y) = true := decide_eq_true (zltI.mp h)
      rw [if_pos h1] at hk; exact hk
    · have h1 : ¬ zcmp .gt (zN x) (zN y) = true := fun q => h (zltI.mpr (of_decide_eq_true q))
      rw [if_neg h1] at hk; exact hk
  case le =>
    refine lv_icmp_le hx hb hdg ht (fun h => ?_) (fun h => ?_)
    · have h1 : zcmp .le (zN x) (zN y) = true := decide_eq_true (zleI.mp h)
      rw [if_pos h1] at hk; exact hk
    · have h1 : ¬ zcmp .le (zN x) (zN y) = true := fun q => h (zleI.mpr (of_decide_eq_true q))
      rw [if_neg h1] at hk; exact hk
theorem zs_if (hX : zCtx p R s m args meth c B D i) {cnd : Jvm.ClassFile.Cond} {off : Int} {x : Int} (hdg : decode (zB i) pc = .ok (.ifCond cnd off, 3)) (ht : 0 ≤ (pc : Int) + off) (hk : zG p l e R s m args below meth c Q B b D S0 i (if zcmp cnd (zN x) 0 = true then zto pc off else pc + 3) ls st w) : zG p l e R s m args below meth c Q B b D S0 i pc ls (.inl x :: st) w := by
  obtain ⟨hx, hb, hml, hown, hts, hni, hK, hB, hnm, hfr, hlo⟩ := hX
  intro H locs cells slots lsA hS
  have hk := hk H locs cells slots lsA hS
  have ht := zto_eq ht
  cases cnd
  case eq =>
    refine lv_if_eq hx hb hdg ht (fun h => ?_) (fun h => ?_)
    · have h1 : zcmp .eq (zN x) 0 = true := decide_eq_true (zeq0.mp h)
      rw [if_pos h1] at hk; exact hk
    · have h1 : ¬ zcmp .eq (zN x) 0 = true := fun q => h (zeq0.mpr (of_decide_eq_true q))
      rw [if_neg h1] at hk; exact hk
  case ne =>
    refine lv_if_ne hx hb hdg ht (fun h => ?_) (fun h => ?_)
    · have h1 : zcmp .ne (zN x) 0 = true := decide_eq_true (fun q => h (zeq0.mpr q))
      rw [if_pos h1] at hk; exact hk
    · have h1 : ¬ zcmp .ne (zN x) 0 = true := fun q => (of_decide_eq_true q) (zeq0.mp h)
      rw [if_neg h1] at hk; exact hk
  case lt =>
    refine lv_if_lt hx hb hdg ht (fun h => ?_) (fun h => ?_)
    · have h1 : zcmp .lt (zN x) 0 = true := decide_eq_true (zlt0.mp h)
      rw [if_pos h1] at hk; exact hk
    · have h1 : ¬ zcmp .lt (zN x) 0 = true := fun q => h (zlt0.mpr (of_decide_eq_true q))
      rw [if_neg h1] at hk; exact hk
  case ge =>
    refine lv_if_ge hx hb hdg ht (fun h => ?_) (fun h => ?_)
    · have h1 : zcmp .ge (zN x) 0 = true := decide_eq_true (zge0.mp h)
      rw [if_pos h1] at hk; exact hk
    · have h1 : ¬ zcmp .ge (zN x) 0 = true := fun q => h (zge0.mpr (of_decide_eq_true q))
      rw [if_neg h1] at hk; exact hk
  case gt =>
    refine lv_if_gt hx hb hdg ht (fun h => ?_) (fun h => ?_)
    · have h1 : zcmp .gt (zN x) 0 = true := decide_eq_true (zgt0.mp h)
      rw [if_pos h1] at hk; exact hk
    · have h1 : ¬ zcmp .gt (zN x) 0 = true := fun q => h (zgt0.mpr (of_decide_eq_true q))
      rw [if_neg h1] at hk; exact hk
  case le =>
    refine lv_if_le hx hb hdg ht (fun h => ?_) (fun h => ?_)
    · have h1 : zcmp .le (zN x) 0 = true := decide_eq_true (zle0.mp h)
      rw [if_pos h1] at hk; exact hk
    · have h1 : ¬ zcmp .le (zN x) 0 = true := fun q => h (zle0.mpr (of_decide_eq_true q))
      rw [if_neg h1] at hk; exact hk
theorem zad_inj {B b : Nat} (hb : b < B) {h g : Nat} (e : zad B b h = zad B b g) : h = g := by
  cases h with
  | zero => cases g with
    | zero => rfl
    | succ g => exact absurd e (by show ¬ b = B + g; omega)
  | succ h => cases g with
    | zero => exact absurd e (by show ¬ B + h = b; omega)
    | succ g =>
      have : B + h = B + g := e
      omega
theorem zrv_inj {B b : Nat} (hb : b < B) {x y : Option Nat} : zrv B b x = zrv B b y ↔ x = y := by
  cases x with
  | none => cases y with
    | none => exact ⟨fun _ => rfl, fun _ => rfl⟩
    | some g => exact ⟨(fun h => by cases h), (fun h => by cases h)⟩
  | some h => cases y with
    | none => exact ⟨(fun h => by cases h), (fun h => by cases h)⟩
    | some g => exact ⟨(fun q => congrArg some (zad_inj hb (Option.some.inj q))), (fun q => by rw [q])⟩
theorem zs_acmp (hX : zCtx p R s m args meth c B D i) {cnd : Jvm.ClassFile.ACond} {off : Int} {x y : Option Nat} (hdg : decode (zB i) pc = .ok (.if_acmp cnd off, 3)) (ht : 0 ≤ (pc : Int) + off) (hk : zG p l e R s m args below meth c Q B b D S0 i (if zacmp cnd x y = true then zto pc off else pc + 3) ls st w) : zG p l e R s m args below meth c Q B b D S0 i pc ls (.inr y :: .inr x :: st) w := by
  obtain ⟨hx, hb, hml, hown, hts, hni, hK, hB, hnm, hfr, hlo⟩ := hX
  intro H locs cells slots lsA hS
  have hk := hk H locs cells slots lsA hS
  have ht := zto_eq ht
  obtain ⟨cA, hr, hS1, hc, hs, hll, hl⟩ := id hS
  cases cnd
  case eq =>
    refine lv_acmp_eq hx hb hdg ht (fun h => ?_) (fun h => ?_)
    · have h1 : zacmp .eq x y = true := decide_eq_true ((zrv_inj hr.2.2.2.2).mp h)
      rw [if_pos h1] at hk; exact hk
    · have h1 : ¬ zacmp .eq x y = true := fun q => h ((zrv_inj hr.2.2.2.2).mpr (of_decide_eq_true q))
      rw [if_neg h1] at hk; exact hk
  case ne =>
    refine lv_acmp_ne hx hb hdg ht (fun h => ?_) (fun h => ?_)
    · have h1 : zacmp .ne x y = true := decide_eq_true (fun q => h ((zrv_inj hr.2.2.2.2).mpr q))
      rw [if_pos h1] at hk; exact hk
    · have h1 : ¬ zacmp .ne x y = true := fun q => (of_decide_eq_true q) ((zrv_inj hr.2.2.2.2).mp h)
      rw [if_neg h1] at hk; exact hk
theorem zs_ifnull0 (hX : zCtx p R s m args meth c B D i) {off : Int} (hdg : decode (zB i) pc = .ok (.ifnull off, 3)) (ht : 0 ≤ (pc : Int) + off) (hk : zG p l e R s m args below meth c Q B b D S0 i (zto pc off) ls st w) : zG p l e R s m args below meth c Q B b D S0 i pc ls (.inr none :: st) w := by
  obtain ⟨hx, hb, hml, hown, hts, hni, hK, hB, hnm, hfr, hlo⟩ := hX
  intro H locs cells slots lsA hS
  exact lv_ifnullN hx hb hdg (zto_eq ht) (hk H locs cells slots lsA hS)
theorem zs_ifnull1 (hX : zCtx p R s m args meth c B D i) {off : Int} {h : Nat} (hdg : decode (zB i) pc = .ok (.ifnull off, 3)) (hk : zG p l e R s m args below meth c Q B b D S0 i (pc + 3) ls st w) : zG p l e R s m args below meth c Q B b D S0 i pc ls (.inr (some h) :: st) w := by
  obtain ⟨hx, hb, hml, hown, hts, hni, hK, hB, hnm, hfr, hlo⟩ := hX
  intro H locs cells slots lsA hS
  exact lv_ifnull hx hb hdg (hk H locs cells slots lsA hS)
theorem zs_ifnonnull0 (hX : zCtx p R s m args meth c B D i) {off : Int} (hdg : decode (zB i) pc = .ok (.ifnonnull off, 3)) (hk : zG p l e R s m args below meth c Q B b D S0 i (pc + 3) ls st w) : zG p l e R s m args below meth c Q B b D S0 i pc ls (.inr none :: st) w := by
  obtain ⟨hx, hb, hml, hown, hts, hni, hK, hB, hnm, hfr, hlo⟩ := hX
  intro H locs cells slots lsA hS
  exact lv_ifnonnullN hx hb hdg (hk H locs cells slots lsA hS)
theorem zs_ifnonnull1 (hX : zCtx p R s m args meth c B D i) {off : Int} {h : Nat} (hdg : decode (zB i) pc = .ok (.ifnonnull off, 3)) (ht : 0 ≤ (pc : Int) + off) (hk : zG p l e R s m args below meth c Q B b D S0 i (zto pc off) ls st w) : zG p l e R s m args below meth c Q B b D S0 i pc ls (.inr (some h) :: st) w := by
  obtain ⟨hx, hb, hml, hown, hts, hni, hK, hB, hnm, hfr, hlo⟩ := hX
  intro H locs cells slots lsA hS
  exact lv_ifnonnull hx hb hdg (zto_eq ht) (hk H locs cells slots lsA hS)
theorem zs_goto (hX : zCtx p R s m args meth c B D i) {off : Int} (hdg : decode (zB i) pc = .ok (.goto off, 3)) (ht : 0 ≤ (pc : Int) + off) (hk : zG p l e R s m args below meth c Q B b D S0 i (zto pc off) ls st w) : zG p l e R s m args below meth c Q B b D S0 i pc ls st w := by
  obtain ⟨hx, hb, hml, hown, hts, hni, hK, hB, hnm, hfr, hlo⟩ := hX
  intro H locs cells slots lsA hS
  exact lv_goto hx hb hdg (zto_eq ht) (hk H locs cells slots lsA hS)
theorem zs_table0 (hX : zCtx p R s m args meth c B D i) {d lo hi x : Int} {offs : Array Int} {len : Nat} (hdg : decode (zB i) pc = .ok (.tableswitch d lo hi offs, len)) (hq : zN x < lo ∨ hi < zN x) (ht : 0 ≤ (pc : Int) + d) (hk : zG p l e R s m args below meth c Q B b D S0 i (zto pc d) ls st w) : zG p l e R s m args below meth c Q B b D S0 i pc ls (.inl x :: st) w := by
  obtain ⟨hx, hb, hml, hown, hts, hni, hK, hB, hnm, hfr, hlo⟩ := hX
  intro H locs cells slots lsA hS
  exact lv_tableOut hx hb hdg hq (zto_eq ht) (hk H locs cells slots lsA hS)
theorem zs_table1 (hX : zCtx p R s m args meth c B D i) {d lo hi x off : Int} {offs : Array Int} {len : Nat} (hdg : decode (zB i) pc = .ok (.tableswitch d lo hi offs, len)) (hq : ¬ (zN x < lo ∨ hi < zN x)) (ho : offs[(zN x - lo).toNat]? = some off) (ht : 0 ≤ (pc : Int) + off) (hk : zG p l e R s m args below meth c Q B b D S0 i (zto pc off) ls st w) : zG p l e R s m args below meth c Q B b D S0 i pc ls (.inl x :: st) w := by
  obtain ⟨hx, hb, hml, hown, hts, hni, hK, hB, hnm, hfr, hlo⟩ := hX
  intro H locs cells slots lsA hS
  exact lv_tableIn hx hb hdg (fun h => hq (Or.inl h)) (fun h => hq (Or.inr h)) ho (zto_eq ht) (hk H locs cells slots lsA hS)
theorem zs_lookup (hX : zCtx p R s m args meth c B D i) {d x : Int} {ps : Array (Int × Int)} {len : Nat} (hdg : decode (zB i) pc = .ok (.lookupswitch d ps, len)) (hp : (ps.toList.zip (ps.toList.drop 1)).all (fun (a, next) => a.1 < next.1) = true) (ht : 0 ≤ (pc : Int) + Op.lookupswitch.offset ps.toList d (zN x)) (hk : zG p l e R s m args below meth c Q B b D S0 i (zto pc (Op.lookupswitch.offset ps.toList d (zN x))) ls st w) : zG p l e R s m args below meth c Q B b D S0 i pc ls (.inl x :: st) w := by
  obtain ⟨hx, hb, hml, hown, hts, hni, hK, hB, hnm, hfr, hlo⟩ := hX
  intro H locs cells slots lsA hS
  exact lv_lookup hx hb hdg hp rfl (zto_eq ht) (hk H locs cells slots lsA hS)
end ZS
