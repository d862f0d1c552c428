-- what the tables must keep to: numbers (zchk, decided by the kernel) and words (zOKw)
def zTagB (fs : List (Nat × Nat)) (k : Nat) (ty : FieldType) : Bool := match fs[k]? with
  | some (_, 0) => decide (ty = .int)
  | some (_, 1) => decide (ty = .boolean)
  | some (_, 2) => refKind ty
  | _ => false
def zdf (f : Nat × Nat) : Value := if f.2 = 2 then .null else .int 0
def zKok (c : Nat) (C : String) (T : u_T) (N : Nat) (ty : Nat → FieldType) : Prop :=
  zCl[c]? = some (C, T, N) ∧ c < zNC ∧ (zF c).length = N ∧ (∀ w ∈ u_ws C T N, w ∈ zGW) ∧ (∀ k, k < N → parseFieldDescriptor (T k).2.2.1 = some (ty k)) ∧ (∀ a, a < N → ∀ b, b < N → a ≠ b → (T a).2.1 ≠ (T b).2.1) ∧
  (∀ k, k < N → zTagB (zF c) k (ty k) = true) ∧ ((zF c).map Prod.fst).Nodup ∧ ∀ j, j < N → defaultValue (ty j) = vp_V ((zF c).map zdf) j
def zFok (nm own : String) (ix : Nat) (put : Bool) (r : Nat × Nat) : Prop := ∃ (C : String) (T : u_T) (N : Nat) (ty : Nat → FieldType) (ref : String), zKok r.1 C T N ty ∧ r.2 < N ∧ Cond.fieldLink own ix ref (T r.2).2.1 (T r.2).2.2.1 ∈ zGW ∧
  ((T r.2).1 = ref ∨ Cond.sameField ref (T r.2).1 (T r.2).2.1 (T r.2).2.2.1 ∈ zGW) ∧ (put = true → (T r.2).2.2.2 = false ∨ ((T r.2).2.2.2 = true ∧ nm = "<init>" ∧ (T r.2).1 = own))
def zNok (own : String) (ix : Nat) (r : Nat × Nat) : Prop := ∃ (C : String) (T : u_T) (N : Nat) (ty : Nat → FieldType), zKok r.1 C T N ty ∧ r.2 = N ∧ Cond.classLink own ix C ∈ zGW ∧ Cond.instantiable C N ∈ zGW ∧ Cond.initialized C ∈ zGW
def zAok (own : String) (ix : Nat) (r : Nat × Nat) : Prop := ∃ C : String, ¬ r.1 < zNC + 3 ∧ r.1 < 1000 ∧ zty r.1 = .object C ∧ Cond.classLink own ix C ∈ zGW ∧ C ∈ zEls
def zRtB (t : Nat) (r : Option FieldType) : Bool := match t, r with
  | 0, none => true
  | 1, some .int => true
  | 2, some .boolean => true
  | 3, some t => refKind t
  | _, _ => false
def zJok (j : Nat) : Prop := plainName (zY j).cls = true ∧ Cond.code (zY j) (zB j) (zL j) (zRe j) ∈ zGW ∧ Cond.initialized (zY j).cls ∈ zGW ∧ ((zY j).cls ≠ "java/lang/invoke/MethodHandle" ∧ (zY j).cls ≠ "java/lang/invoke/VarHandle") ∧ zRtB (zRt j) (zRe j) = true
def zPar (d : String) (n : Nat) : Prop := (parseMethodDescriptor d).map (fun d => d.parameters.length) = some n
def zSok (own : String) (ix : Nat) (z : Int) (r : Nat × Nat) : Prop :=
  (r = (0, 0) ∧ Cond.methodLink own ix arraycopyName ∈ zGW ∧ Cond.native arraycopyName ∈ zGW ∧ Cond.static arraycopyName ∈ zGW ∧ Cond.initialized "java/lang/System" ∈ zGW) ∨
  (r = (1, 0) ∧ Cond.methodLink own ix Lib.Math.min.name ∈ zGW ∧ Cond.static Lib.Math.min.name ∈ zGW ∧ Cond.initialized "java/lang/Math" ∈ zGW ∧ Cond.code Lib.Math.min.name Lib.Math.min.code 2 (some .int) ∈ zGW) ∨
  (r.2 = 1 ∧ zJok r.1 ∧ zPar (zY r.1).desc z.toNat ∧ Cond.static (zY r.1) ∈ zGW ∧ (Cond.methodLink own ix (zY r.1) ∈ zGW ∨ ∃ host, (own, ix, zY r.1, host) ∈ zNL))
def zIok (own : String) (ix : Nat) (z : Int) (r : Nat × Nat) : Prop :=
  zJok r.1 ∧ zPar (zY r.1).desc z.toNat ∧ (zY r.1).name = "<init>" ∧ zRe r.1 = none ∧ Cond.instanceMethod (zY r.1) ∈ zGW ∧ (Cond.methodLink own ix (zY r.1) ∈ zGW ∨ ∃ host, (own, ix, zY r.1, host) ∈ zNL)
def zVw (own : String) (ix : Nat) (C : String) (y : MethodName) (n : Nat) : Prop :=
  (zPar y.desc n ∧ Cond.methodLink own ix y ∈ zGW ∧ Cond.selects C y y ∈ zGW) ∨
  (zPar y.desc n ∧ Cond.methodLink own ix y ∈ zGW ∧ y ∈ zPv ∧ ∃ a b, Cond.instantiable C a ∈ zGW ∧ Cond.instantiable y.cls b ∈ zGW) ∨
  (zPar y.desc n ∧ ∃ host, (own, ix, y, host) ∈ zNL ∧ Cond.selects C y y ∈ zGW) ∨
  (∃ (owner : String) (x : MethodName), zPar x.desc n ∧ (owner ≠ "java/lang/invoke/MethodHandle" ∧ owner ≠ "java/lang/invoke/VarHandle") ∧ Cond.methodLink own ix x ∈ zGW ∧ Cond.sameMethod x.cls owner x.name x.desc ∈ zGW ∧ Cond.selects C x y ∈ zGW ∧
    (y = ⟨owner, x.name, x.desc⟩ ∨ (Cond.instanceMethod ⟨owner, x.name, x.desc⟩ ∈ zGW ∧ ∃ b0 m0 r0, Cond.code ⟨owner, x.name, x.desc⟩ b0 m0 r0 ∈ zGW) ∨ (⟨owner, x.name, x.desc⟩ : MethodName) ∈ zDl))
def zVok (own : String) (ix : Nat) (z : Int) (r : Nat × Nat) : Prop := ∃ (C : String) (T : u_T) (N : Nat), zCl[r.1]? = some (C, T, N) ∧ r.1 < zNC ∧ zJok r.2 ∧ Cond.instanceMethod (zY r.2) ∈ zGW ∧ zVw own ix C (zY r.2) z.toNat
def zClw (own : String) (ix : Nat) : Prop := Cond.methodLink own ix ⟨"[I", "clone", "()Ljava/lang/Object;"⟩ ∈ zGW ∧ Cond.sameMethod "[I" "java/lang/Object" "clone" "()Ljava/lang/Object;" ∈ zGW ∧ Cond.native ⟨"java/lang/Object", "clone", "()Ljava/lang/Object;"⟩ ∈ zGW ∧ Cond.instanceMethod ⟨"java/lang/Object", "clone", "()Ljava/lang/Object;"⟩ ∈ zGW ∧
  Cond.selects "[I" ⟨"[I", "clone", "()Ljava/lang/Object;"⟩ ⟨"java/lang/Object", "clone", "()Ljava/lang/Object;"⟩ ∈ zGW ∧ ("[I", "java/lang/Cloneable") ∈ zCs
def zOb (own : String) (ix : Nat) : Prop := Cond.methodLink own ix Lib.objectInit ∈ zGW ∧ Cond.instanceMethod Lib.objectInit ∈ zGW ∧ Cond.code Lib.objectInit ⟨#[0xb1]⟩ 1 none ∈ zGW
def zall {α : Type} (P : α → Prop) : List α → Prop
  | [] => True
  | a :: l => P a ∧ zall P l
theorem zall.get {α : Type} {P : α → Prop} : ∀ {l : List α}, zall P l → ∀ a ∈ l, P a
  | [], _, a, h => by cases h
  | b :: l, hp, a, h => by
    rcases List.mem_cons.mp h with rfl | h
    · exact hp.1
    · exact zall.get hp.2 a h
def zOKw (nm own : String) (e : Nat × zJ) : Prop := match e.2.1 with
  | .ldc ix => Cond.constant own ix (zI e.2.2.2.1) ∈ zGW
  | .ldc_w ix => Cond.constant own ix (zI e.2.2.2.1) ∈ zGW
  | .getfield ix => zall (zFok nm own ix false) e.2.2.2.2
  | .putfield ix => zall (zFok nm own ix true) e.2.2.2.2
  | .new ix => zall (zNok own ix) e.2.2.2.2
  | .anewarray ix => zall (zAok own ix) e.2.2.2.2
  | .invokestatic ix => zall (zSok own ix e.2.2.2.1) e.2.2.2.2
  | .invokevirtual ix => (e.2.2.2.1 = (-1 : Int) → zClw own ix) ∧ zall (zVok own ix e.2.2.2.1) e.2.2.2.2
  | .checkcast ix => Cond.classLink own ix "[I" ∈ zGW
  | .invokespecial ix => (e.2.2.2.2 = [] → zOb own ix) ∧ zall (zIok own ix e.2.2.2.1) e.2.2.2.2
  | _ => True
def zlen (ins : Jvm.ClassFile.Instr) : Nat := match ins with
  | .iload _ | .aload _ | .istore _ | .astore _ | .ldc _ | .newarray _ => 2
  | .getfield _ | .putfield _ | .new _ | .anewarray _ | .checkcast _ | .ldc_w _ => 3
  | _ => 1
def zroom (i j n : Nat) : Bool := decide (zFr j + 1 ≤ zFr i) && (decide (8 + (zL j + 11) + zLo j ≤ zLo i) && decide (n ≤ zL j))
def zleaf (i : Nat) : Bool := decide (1 ≤ zFr i) && decide (40 ≤ zLo i)
def zchk (i : Nat) (e : Nat × zJ) : Bool := match e.2.1 with
  | .bipush n => decide (e.2.2.1 = 2) && decide ((Int8.ofInt n).toInt32 = Int32.ofInt n)
  | .sipush n => decide (e.2.2.1 = 3) && decide ((Int16.ofInt n).toInt32 = Int32.ofInt n)
  | .iinc _ _ => decide (e.2.2.1 = 3 ∨ e.2.2.1 = 6)
  | .if_icmp _ off => decide (e.2.2.1 = 3) && decide (0 ≤ (e.1 : Int) + off)
  | .ifCond _ off => decide (e.2.2.1 = 3) && decide (0 ≤ (e.1 : Int) + off)
  | .if_acmp _ off => decide (e.2.2.1 = 3) && decide (0 ≤ (e.1 : Int) + off)
  | .ifnull off => decide (e.2.2.1 = 3) && decide (0 ≤ (e.1 : Int) + off)
  | .ifnonnull off => decide (e.2.2.1 = 3) && decide (0 ≤ (e.1 : Int) + off)
  | .goto off => decide (e.2.2.1 = 3) && decide (0 ≤ (e.1 : Int) + off)
  | .tableswitch d _ _ _ => decide (0 ≤ (e.1 : Int) + d)
  | .lookupswitch _ ps => (ps.toList.zip (ps.toList.drop 1)).all (fun (a, next) => a.1 < next.1)
  | .invokestatic _ => decide (e.2.2.1 = 3) && e.2.2.2.2.all (fun r => if r.2 = 1 then zroom i r.1 e.2.2.2.1.toNat else zleaf i)
  | .invokevirtual _ => decide (e.2.2.1 = 3) && (if e.2.2.2.1 = -1 then zleaf i else e.2.2.2.2.all (fun r => zroom i r.2 (e.2.2.2.1.toNat + 1)))
  | .invokespecial _ => decide (e.2.2.1 = 3) && (if e.2.2.2.2 = [] then zleaf i else e.2.2.2.2.all (fun r => zroom i r.1 (e.2.2.2.1.toNat + 1)))
  | _ => decide (e.2.2.1 = zlen e.2.1)
