-- a small interpreter of decoded code over a world of handles; tables (zT, zF, zAS, zRt, zL ..) are laid by program ahead of this
-- a value: an int (standing for Int32.ofInt of it), or a reference (none: null; some 0: the script; some (h+1): the h-th new cell)
abbrev zV : Type := Int ⊕ Option Nat
-- shape: how many cells, how many slots, kind of a handle, length of a handle
abbrev zS : Type := Nat × Nat × (Nat → Nat) × (Nat → Nat)
-- world: shape; int fields (field, handle); reference fields; int elements (handle, index); reference elements
abbrev zW : Type := zS × (Nat → Nat → Int) × (Nat → Nat → Option Nat) × (Nat → Nat → Int) × (Nat → Nat → Option Nat)
abbrev zn (w : zW) : Nat := w.1.1
abbrev zsl (w : zW) : Nat := w.1.2.1
abbrev zk (w : zW) (h : Nat) : Nat := w.1.2.2.1 h
abbrev zl (w : zW) (h : Nat) : Nat := w.1.2.2.2 h
abbrev zf (w : zW) (f h : Nat) : Int := w.2.1 f h
abbrev zp (w : zW) (f h : Nat) : Option Nat := w.2.2.1 f h
abbrev za (w : zW) (h j : Nat) : Int := w.2.2.2.1 h j
abbrev zb (w : zW) (h j : Nat) : Option Nat := w.2.2.2.2 h j
def zu {α : Type} (g : Nat → Nat → α) (a b : Nat) (v : α) : Nat → Nat → α := fun i j => if i = a then (if j = b then v else g i j) else g i j
def zsf (w : zW) (f h : Nat) (v : Int) : zW := (w.1, zu w.2.1 f h v, w.2.2)
def zsp (w : zW) (f h : Nat) (v : Option Nat) : zW := (w.1, w.2.1, zu w.2.2.1 f h v, w.2.2.2)
def zsa (w : zW) (h j : Nat) (v : Int) : zW := (w.1, w.2.1, w.2.2.1, zu w.2.2.2.1 h j v, w.2.2.2.2)
def zsb (w : zW) (h j : Nat) (v : Option Nat) : zW := (w.1, w.2.1, w.2.2.1, w.2.2.2.1, zu w.2.2.2.2 h j v)
-- a new cell of kind k and length n: its handle is zn w + 1; all in it is 0 or null
def znew (w : zW) (k n : Nat) : zW :=
  ((zn w + 1, zsl w + n, fun h => if h = zn w + 1 then k else zk w h, fun h => if h = zn w + 1 then n else zl w h),
   fun f h => if h = zn w + 1 then 0 else zf w f h, fun f h => if h = zn w + 1 then none else zp w f h,
   fun h j => if h = zn w + 1 then 0 else za w h j, fun h j => if h = zn w + 1 then none else zb w h j)
def zI (z : Int) : Int32 := Int32.ofInt z
def zN (z : Int) : Int := (Int32.ofInt z).toInt
-- n elements of array h from sp on into array g from dp on (the old contents are read)
def zcp (w : zW) (h sp g dp n : Nat) : zW := (w.1, w.2.1, w.2.2.1, fun i j => if i = g then (if dp ≤ j ∧ j < dp + n then za w h (sp + (j - dp)) else za w i j) else za w i j, w.2.2.2.2)
-- what a step comes to: go on (pc, locals, stack, world), call (method, arguments, pc, stack below), return
abbrev zLf : Type := (Nat × List (Option zV) × List zV × zW) ⊕ ((Nat × List zV × Nat × List zV) ⊕ Option zV)
def zgo (pc : Nat) (ls : List (Option zV)) (st : List zV) (w : zW) : Option zLf := some (.inl (pc, ls, st, w))
def zcmp (c : Jvm.ClassFile.Cond) (x y : Int) : Bool := match c with
  | .eq => decide (x = y)
  | .ne => decide (x ≠ y)
  | .lt => decide (x < y)
  | .ge => decide (y ≤ x)
  | .gt => decide (y < x)
  | .le => decide (x ≤ y)
def zacmp (c : Jvm.ClassFile.ACond) (x y : Option Nat) : Bool := match c with
  | .eq => decide (x = y)
  | .ne => decide (x ≠ y)
def zto (pc : Nat) (off : Int) : Nat := ((pc : Int) + off).toNat
def zi_iload (n ix pc : Nat) (ls : List (Option zV)) (st : List zV) (w : zW) : Option zLf := match ls[ix]? with
  | some (some (.inl x)) => zgo (pc + n) ls (.inl x :: st) w
  | _ => none
def zi_aload (n ix pc : Nat) (ls : List (Option zV)) (st : List zV) (w : zW) : Option zLf := match ls[ix]? with
  | some (some (.inr x)) => zgo (pc + n) ls (.inr x :: st) w
  | _ => none
def zi_istore (n ix pc : Nat) (ls : List (Option zV)) (st : List zV) (w : zW) : Option zLf := match st with
  | .inl x :: st => if ix < ls.length then zgo (pc + n) (ls.set ix (some (.inl x))) st w else none
  | _ => none
def zi_astore (n ix pc : Nat) (ls : List (Option zV)) (st : List zV) (w : zW) : Option zLf := match st with
  | .inr x :: st => if ix < ls.length then zgo (pc + n) (ls.set ix (some (.inr x))) st w else none
  | _ => none
def zi_iinc (len ix : Nat) (n : Int) (pc : Nat) (ls : List (Option zV)) (st : List zV) (w : zW) : Option zLf := match ls[ix]? with
  | some (some (.inl x)) => zgo (pc + len) (ls.set ix (some (.inl (x + n)))) st w
  | _ => none
def zi_pop (pc : Nat) (ls : List (Option zV)) (st : List zV) (w : zW) : Option zLf := match st with
  | _ :: st => zgo (pc + 1) ls st w
  | _ => none
def zi_dup (pc : Nat) (ls : List (Option zV)) (st : List zV) (w : zW) : Option zLf := match st with
  | x :: st => zgo (pc + 1) ls (x :: x :: st) w
  | _ => none
def zi_dup_x1 (pc : Nat) (ls : List (Option zV)) (st : List zV) (w : zW) : Option zLf := match st with
  | x :: y :: st => zgo (pc + 1) ls (x :: y :: x :: st) w
  | _ => none
def zi_dup2 (pc : Nat) (ls : List (Option zV)) (st : List zV) (w : zW) : Option zLf := match st with
  | x :: y :: st => zgo (pc + 1) ls (x :: y :: x :: y :: st) w
  | _ => none
def zi_bin (f : Int → Int → Int) (pc : Nat) (ls : List (Option zV)) (st : List zV) (w : zW) : Option zLf := match st with
  | .inl y :: .inl x :: st => zgo (pc + 1) ls (.inl (f x y) :: st) w
  | _ => none
def zi_un (f : Int → Int) (pc : Nat) (ls : List (Option zV)) (st : List zV) (w : zW) : Option zLf := match st with
  | .inl x :: st => zgo (pc + 1) ls (.inl (f x) :: st) w
  | _ => none
def zi_div (f : Int → Int → Int) (pc : Nat) (ls : List (Option zV)) (st : List zV) (w : zW) : Option zLf := match st with
  | .inl y :: .inl x :: st => if zN y = 0 then none else zgo (pc + 1) ls (.inl (f x y) :: st) w
  | _ => none
def zo_div (x y : Int) : Int := (zI x / zI y).toInt
def zo_rem (x y : Int) : Int := (zI x - zI x / zI y * zI y).toInt
def zo_and (x y : Int) : Int := (zI x &&& zI y).toInt
def zo_or (x y : Int) : Int := (zI x ||| zI y).toInt
def zo_xor (x y : Int) : Int := (zI x ^^^ zI y).toInt
def zo_shl (x y : Int) : Int := (zI x <<< (zI y &&& 31)).toInt
def zo_shr (x y : Int) : Int := (zI x >>> (zI y &&& 31)).toInt
def zo_i2s (x : Int) : Int := (zI x).toInt16.toInt32.toInt
def zo_i2b (x : Int) : Int := (zI x).toInt8.toInt32.toInt
def zi_icmp (c : Jvm.ClassFile.Cond) (off : Int) (pc : Nat) (ls : List (Option zV)) (st : List zV) (w : zW) : Option zLf := match st with
  | .inl y :: .inl x :: st => if zcmp c (zN x) (zN y) = true then zgo (zto pc off) ls st w else zgo (pc + 3) ls st w
  | _ => none
def zi_if (c : Jvm.ClassFile.Cond) (off : Int) (pc : Nat) (ls : List (Option zV)) (st : List zV) (w : zW) : Option zLf := match st with
  | .inl x :: st => if zcmp c (zN x) 0 = true then zgo (zto pc off) ls st w else zgo (pc + 3) ls st w
  | _ => none
def zi_acmp (c : Jvm.ClassFile.ACond) (off : Int) (pc : Nat) (ls : List (Option zV)) (st : List zV) (w : zW) : Option zLf := match st with
  | .inr y :: .inr x :: st => if zacmp c x y = true then zgo (zto pc off) ls st w else zgo (pc + 3) ls st w
  | _ => none
def zi_ifnull (off : Int) (pc : Nat) (ls : List (Option zV)) (st : List zV) (w : zW) : Option zLf := match st with
  | .inr none :: st => zgo (zto pc off) ls st w
  | .inr (some _) :: st => zgo (pc + 3) ls st w
  | _ => none
def zi_ifnonnull (off : Int) (pc : Nat) (ls : List (Option zV)) (st : List zV) (w : zW) : Option zLf := match st with
  | .inr none :: st => zgo (pc + 3) ls st w
  | .inr (some _) :: st => zgo (zto pc off) ls st w
  | _ => none
def zi_table (d lo hi : Int) (offs : Array Int) (pc : Nat) (ls : List (Option zV)) (st : List zV) (w : zW) : Option zLf := match st with
  | .inl x :: st => if zN x < lo ∨ hi < zN x then zgo (zto pc d) ls st w else
    match offs[(zN x - lo).toNat]? with
    | some off => if 0 ≤ (pc : Int) + off then zgo (zto pc off) ls st w else none
    | none => none
  | _ => none
def zi_lookup (d : Int) (ps : Array (Int × Int)) (pc : Nat) (ls : List (Option zV)) (st : List zV) (w : zW) : Option zLf := match st with
  | .inl x :: st => if 0 ≤ (pc : Int) + Op.lookupswitch.offset ps.toList d (zN x) then zgo (zto pc (Op.lookupswitch.offset ps.toList d (zN x))) ls st w else none
  | _ => none
-- zNC kinds of objects; from there on: zNC an int array, zNC + 1 a boolean array, zNC + 2 the script, above arrays of references; 1000: no such handle
def zi_iaload (pc : Nat) (ls : List (Option zV)) (st : List zV) (w : zW) : Option zLf := match st with
  | .inl j :: .inr (some h) :: st => if (zk w h = zNC ∨ zk w h = zNC + 2) ∧ 0 ≤ zN j ∧ zN j < zl w h then zgo (pc + 1) ls (.inl (za w h (zN j).toNat) :: st) w else none
  | _ => none
def zi_baload (pc : Nat) (ls : List (Option zV)) (st : List zV) (w : zW) : Option zLf := match st with
  | .inl j :: .inr (some h) :: st => if zk w h = zNC + 1 ∧ 0 ≤ zN j ∧ zN j < zl w h then zgo (pc + 1) ls (.inl (za w h (zN j).toNat) :: st) w else none
  | _ => none
def zi_aaload (pc : Nat) (ls : List (Option zV)) (st : List zV) (w : zW) : Option zLf := match st with
  | .inl j :: .inr (some h) :: st => if zNC + 2 < zk w h ∧ zk w h < 1000 ∧ 0 ≤ zN j ∧ zN j < zl w h then zgo (pc + 1) ls (.inr (zb w h (zN j).toNat) :: st) w else none
  | _ => none
def zi_iastore (pc : Nat) (ls : List (Option zV)) (st : List zV) (w : zW) : Option zLf := match st with
  | .inl x :: .inl j :: .inr (some h) :: st => if zk w h = zNC ∧ 0 ≤ zN j ∧ zN j < zl w h then zgo (pc + 1) ls st (zsa w h (zN j).toNat x) else none
  | _ => none
def zi_bastore (pc : Nat) (ls : List (Option zV)) (st : List zV) (w : zW) : Option zLf := match st with
  | .inl x :: .inl j :: .inr (some h) :: st => if zk w h = zNC + 1 ∧ 0 ≤ zN j ∧ zN j < zl w h ∧ (zN x = 0 ∨ zN x = 1) then zgo (pc + 1) ls st (zsa w h (zN j).toNat x) else none
  | _ => none
def zi_aastore (pc : Nat) (ls : List (Option zV)) (st : List zV) (w : zW) : Option zLf := match st with
  | .inr none :: .inl j :: .inr (some h) :: st => if zNC + 2 < zk w h ∧ zk w h < 1000 ∧ 0 ≤ zN j ∧ zN j < zl w h then zgo (pc + 1) ls st (zsb w h (zN j).toNat none) else none
  | .inr (some v) :: .inl j :: .inr (some h) :: st => if zNC + 2 < zk w h ∧ zk w h < 1000 ∧ 0 ≤ zN j ∧ zN j < zl w h ∧ zAS (zk w h) (zk w v) = true then zgo (pc + 1) ls st (zsb w h (zN j).toNat (some v)) else none
  | _ => none
def zi_alen (pc : Nat) (ls : List (Option zV)) (st : List zV) (w : zW) : Option zLf := match st with
  | .inr (some h) :: st => if zNC ≤ zk w h ∧ zk w h < 1000 then zgo (pc + 1) ls (.inl (zl w h : Int) :: st) w else none
  | _ => none
def zi_newarray (k pc : Nat) (ls : List (Option zV)) (st : List zV) (w : zW) : Option zLf := match st with
  | .inl x :: st => if 0 ≤ zN x ∧ zN x ≤ 1000000 then zgo (pc + 2) ls (.inr (some (zn w + 1)) :: st) (znew w k (zN x).toNat) else none
  | _ => none
def zi_anewarray (res : List (Nat × Nat)) (pc : Nat) (ls : List (Option zV)) (st : List zV) (w : zW) : Option zLf := match st, res with
  | .inl x :: st, [(k, _)] => if 0 ≤ zN x ∧ zN x ≤ 1000000 then zgo (pc + 3) ls (.inr (some (zn w + 1)) :: st) (znew w k (zN x).toNat) else none
  | _, _ => none
def zi_new (res : List (Nat × Nat)) (pc : Nat) (ls : List (Option zV)) (st : List zV) (w : zW) : Option zLf := match res with
  | [(c, n)] => zgo (pc + 3) ls (.inr (some (zn w + 1)) :: st) (znew w c n)
  | _ => none
-- a copy of an int array: a new cell, the same elements
def zclone (w : zW) (h : Nat) : zW := ((znew w zNC (zl w h)).1, (znew w zNC (zl w h)).2.1, (znew w zNC (zl w h)).2.2.1, fun i j => if i = zn w + 1 then za w h j else za w i j, (znew w zNC (zl w h)).2.2.2.2)
def zi_clone (pc : Nat) (ls : List (Option zV)) (st : List zV) (w : zW) : Option zLf := match st with
  | .inr (some h) :: st => if zk w h = zNC ∧ st.length ≤ 8 then zgo (pc + 3) ls (.inr (some (zn w + 1)) :: st) (zclone w h) else none
  | _ => none
def zi_cast (pc : Nat) (ls : List (Option zV)) (st : List zV) (w : zW) : Option zLf := match st with
  | .inr (some h) :: st => if zk w h = zNC then zgo (pc + 3) ls (.inr (some h) :: st) w else none
  | _ => none
-- which field: (field id, 0 int, 1 boolean, 2 reference)
def zfid (res : List (Nat × Nat)) (c : Nat) : Option (Nat × Nat) := (res.lookup c).bind fun k => (zF c)[k]?
def zi_get (res : List (Nat × Nat)) (pc : Nat) (ls : List (Option zV)) (st : List zV) (w : zW) : Option zLf := match st with
  | .inr (some h) :: st => match zfid res (zk w h) with
    | some (f, t) => zgo (pc + 3) ls ((if t = 2 then .inr (zp w f h) else .inl (zf w f h)) :: st) w
    | none => none
  | _ => none
def zi_put (res : List (Nat × Nat)) (pc : Nat) (ls : List (Option zV)) (st : List zV) (w : zW) : Option zLf := match st with
  | .inl x :: .inr (some h) :: st => match zfid res (zk w h) with
    | some (f, t) => if t = 0 ∨ (t = 1 ∧ (zN x = 0 ∨ zN x = 1)) then zgo (pc + 3) ls st (zsf w f h x) else none
    | none => none
  | .inr x :: .inr (some h) :: st => match zfid res (zk w h) with
    | some (f, t) => if t = 2 then zgo (pc + 3) ls st (zsp w f h x) else none
    | none => none
  | _ => none
def zi_static (z : Int) (res : List (Nat × Nat)) (pc : Nat) (ls : List (Option zV)) (st : List zV) (w : zW) : Option zLf := match res with
  | [(0, 0)] => match st with
    | .inl n :: .inl dp :: .inr (some g) :: .inl sp :: .inr (some h) :: st =>
      if zk w h = zNC ∧ zk w g = zNC ∧ 0 ≤ zN sp ∧ 0 ≤ zN dp ∧ 0 ≤ zN n ∧ zN sp + zN n ≤ zl w h ∧ zN dp + zN n ≤ zl w g ∧ st.length ≤ 8 then
        zgo (pc + 3) ls st (zcp w h (zN sp).toNat g (zN dp).toNat (zN n).toNat) else none
    | _ => none
  | [(1, 0)] => match st with
    | .inl y :: .inl x :: st => if st.length ≤ 8 then zgo (pc + 3) ls (.inl (if zN y < zN x then y else x) :: st) w else none
    | _ => none
  | [(j, 1)] => if z.toNat ≤ st.length ∧ (st.drop z.toNat).length ≤ 8 then some (.inr (.inl (j, (st.take z.toNat).reverse, pc + 3, st.drop z.toNat))) else none
  | _ => none
def zi_virtual (z : Int) (res : List (Nat × Nat)) (pc : Nat) (st : List zV) (w : zW) : Option zLf := match st.drop z.toNat with
  | .inr (some h) :: rest => match res.lookup (zk w h) with
    | some j => if rest.length ≤ 8 then some (.inr (.inl (j, .inr (some h) :: (st.take z.toNat).reverse, pc + 3, rest))) else none
    | none => none
  | _ => none
def zi_special (z : Int) (res : List (Nat × Nat)) (pc : Nat) (ls : List (Option zV)) (st : List zV) (w : zW) : Option zLf := match res with
  | [] => match st with
    | .inr (some _) :: st => if st.length ≤ 8 then zgo (pc + 3) ls st w else none
    | _ => none
  | [(j, _)] => match st.drop z.toNat with
    | .inr (some h) :: rest => if rest.length ≤ 8 ∧ zk w h < 1000 then some (.inr (.inl (j, .inr (some h) :: (st.take z.toNat).reverse, pc + 3, rest))) else none
    | _ => none
  | _ => none
def zi_ret (i : Nat) (st : List zV) : Option zLf := match st with
  | [] => if zRt i = 0 then some (.inr (.inr none)) else none
  | _ => none
def zi_iret (i : Nat) (st : List zV) : Option zLf := match st with
  | [.inl x] => if zRt i = 1 ∨ (zRt i = 2 ∧ (zN x = 0 ∨ zN x = 1)) then some (.inr (.inr (some (.inl x)))) else none
  | _ => none
def zi_aret (i : Nat) (st : List zV) : Option zLf := match st with
  | [.inr x] => if zRt i = 3 then some (.inr (.inr (some (.inr x)))) else none
  | _ => none
def zins (ins : Jvm.ClassFile.Instr) (len : Nat) (z : Int) (res : List (Nat × Nat)) (i pc : Nat) (ls : List (Option zV)) (st : List zV) (w : zW) : Option zLf :=
  match ins with
  | .aconst_null => zgo (pc + 1) ls (.inr none :: st) w
  | .iconst n => zgo (pc + 1) ls (.inl n :: st) w
  | .bipush n => zgo (pc + 2) ls (.inl n :: st) w
  | .sipush n => zgo (pc + 3) ls (.inl n :: st) w
  | .ldc _ => zgo (pc + 2) ls (.inl z :: st) w
  | .ldc_w _ => zgo (pc + 3) ls (.inl z :: st) w
  | .iload ix => zi_iload 2 ix pc ls st w
  | .iload_n ix => zi_iload 1 ix.val pc ls st w
  | .aload ix => zi_aload 2 ix pc ls st w
  | .aload_n ix => zi_aload 1 ix.val pc ls st w
  | .istore ix => zi_istore 2 ix pc ls st w
  | .istore_n ix => zi_istore 1 ix.val pc ls st w
  | .astore ix => zi_astore 2 ix pc ls st w
  | .astore_n ix => zi_astore 1 ix.val pc ls st w
  | .iinc ix n => zi_iinc len ix n pc ls st w
  | .pop => zi_pop pc ls st w
  | .dup => zi_dup pc ls st w
  | .dup_x1 => zi_dup_x1 pc ls st w
  | .dup2 => zi_dup2 pc ls st w
  | .iadd => zi_bin (fun x y => x + y) pc ls st w
  | .isub => zi_bin (fun x y => x - y) pc ls st w
  | .imul => zi_bin (fun x y => x * y) pc ls st w
  | .ineg => zi_un (fun x => -x) pc ls st w
  | .idiv => zi_div zo_div pc ls st w
  | .irem => zi_div zo_rem pc ls st w
  | .iand => zi_bin zo_and pc ls st w
  | .ior => zi_bin zo_or pc ls st w
  | .ixor => zi_bin zo_xor pc ls st w
  | .ishl => zi_bin zo_shl pc ls st w
  | .ishr => zi_bin zo_shr pc ls st w
  | .i2s => zi_un zo_i2s pc ls st w
  | .i2b => zi_un zo_i2b pc ls st w
  | .if_icmp c off => zi_icmp c off pc ls st w
  | .ifCond c off => zi_if c off pc ls st w
  | .if_acmp c off => zi_acmp c off pc ls st w
  | .ifnull off => zi_ifnull off pc ls st w
  | .ifnonnull off => zi_ifnonnull off pc ls st w
  | .goto off => zgo (zto pc off) ls st w
  | .tableswitch d lo hi offs => zi_table d lo hi offs pc ls st w
  | .lookupswitch d ps => zi_lookup d ps pc ls st w
  | .iaload => zi_iaload pc ls st w
  | .baload => zi_baload pc ls st w
  | .aaload => zi_aaload pc ls st w
  | .iastore => zi_iastore pc ls st w
  | .bastore => zi_bastore pc ls st w
  | .aastore => zi_aastore pc ls st w
  | .arraylength => zi_alen pc ls st w
  | .newarray .int => zi_newarray zNC pc ls st w
  | .newarray .boolean => zi_newarray (zNC + 1) pc ls st w
  | .anewarray _ => zi_anewarray res pc ls st w
  | .new _ => zi_new res pc ls st w
  | .getfield _ => zi_get res pc ls st w
  | .putfield _ => zi_put res pc ls st w
  | .invokestatic _ => zi_static z res pc ls st w
  | .invokevirtual _ => if z = -1 then zi_clone pc ls st w else zi_virtual z res pc st w
  | .checkcast _ => zi_cast pc ls st w
  | .invokespecial _ => zi_special z res pc ls st w
  | .return_ => zi_ret i st
  | .ireturn => zi_iret i st
  | .areturn => zi_aret i st
  | _ => none
def zstep (i pc : Nat) (ls : List (Option zV)) (st : List zV) (w : zW) : Option zLf :=
  match zT i pc with
  | none => none
  | some j => zins j.1 j.2.1 j.2.2.1 j.2.2.2 i pc ls st w
-- the locals of a method that begins
def zent (i : Nat) (vs : List zV) : List (Option zV) := vs.map some ++ List.replicate (zL i - vs.length) none
def zx : Nat → Nat → Nat → List (Option zV) → List zV → zW → Option (Option zV × zW)
  | 0, _, _, _, _, _ => none
  | n + 1, i, pc, ls, st, w => match zstep i pc ls st w with
    | some (.inl (pc', ls', st', w')) => zx n i pc' ls' st' w'
    | some (.inr (.inl (j, vs, pc', rest))) => match zx n j 0 (zent j vs) [] w with
      | some (r, w') => zx n i pc' ls (r.toList ++ rest) w'
      | none => none
    | some (.inr (.inr v)) => some (v, w)
    | none => none
