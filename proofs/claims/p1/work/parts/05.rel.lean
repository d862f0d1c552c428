-- the words that all methods carry, and those that no list carries
def zGW : List Cond := lw_tbl.filter goodWord
theorem zGW_in {w : Cond} (pos : Nat) (h : tables_1[pos]? = some w) (hg : goodWord w = true) : w ∈ zGW :=
  List.mem_filter.mpr ⟨List.mem_append_right _ (List.mem_of_getElem? h), hg⟩
theorem zGW_sel {w : Cond} (pos : Nat) (h : (k2_sels lw_privs)[pos]? = some w) (hg : goodWord w = true) : w ∈ zGW :=
  List.mem_filter.mpr ⟨List.mem_append_left _ (List.mem_of_getElem? h), hg⟩
theorem zGW_good {w : Cond} (h : w ∈ zGW) : (w.onTables && w.keeps) = true ∨ ∃ ty, w = .arrayClass ty := good_of_word (List.mem_filter.mp h).2
theorem zGood {ws : List Cond} (h : ∀ w ∈ ws, w ∈ zGW) : GoodIn zGW ws := fun w hw => ⟨h w hw, zGW_good (h w hw)⟩
def zWs (i : Nat) : List Cond := Cond.code (zY i) (zB i) (zL i) (zRe i) :: zGW
theorem va_Nw.warmP {x : MethodName} {s U : State} (hW : s.WarmedH U.vm) (hZ : va_Nw (.privateMethod x) s) : va_Nw (.privateMethod x) U := va_tabs rfl (rfl : (s.setVm U.vm).vm = U.vm) (by rw [Cond.privateMethod_setVm hW.alike]; exact hZ)
def zNice (U : State) : Prop := (∀ y ∈ zPv, va_Nw (.privateMethod y) U) ∧ (∀ q ∈ zNL, va_Nw (.methodLinkNest q.1 q.2.1 q.2.2.1 q.2.2.2) U) ∧ (∀ x ∈ zDl, va_Nw (.declares x) U) ∧ (∀ q ∈ zCs, va_Nw (.castable q.1 q.2) U) ∧ ∀ C ∈ zEls, va_AO C U
theorem zNice.warm {s U : State} (hW : s.WarmedH U.vm) (h : zNice s) : zNice U :=
  ⟨fun y hy => va_Nw.warmP hW (h.1 y hy), fun q hq => va_Nw.warmM hW (h.2.1 q hq), fun x hx => va_Nw.warmD hW (h.2.2.1 x hx), fun q hq => va_Nw.warmC hW (h.2.2.2.1 q hq), fun C hC => va_AO.moved hW.alike (h.2.2.2.2 C hC)⟩
-- addresses and values
def zad (B b : Nat) (h : Nat) : Nat := match h with
  | 0 => b
  | h + 1 => B + h
def zrv (B b : Nat) (r : Option Nat) : Option Nat := r.map (zad B b)
def zcv (B b : Nat) (v : zV) : Value := match v with
  | .inl x => .int (zI x)
  | .inr r => va_rf (zrv B b r)
def zfv (B b : Nat) (w : zW) (h : Nat) (f : Nat × Nat) : Value := if f.2 = 2 then va_rf (zrv B b (zp w f.1 h)) else .int (zI (zf w f.1 h))
def zE (B b : Nat) (cA : Nat → ClassId) (w : zW) (h : Nat) : va_E :=
  if zk w h < zNC then .inr (zk w h, (zF (zk w h)).map (zfv B b w h))
  else if zk w h < zNC + 3 then .inl (cA h, zl w h, .inl (fun j => zI (za w h j)))
  else .inl (cA h, zl w h, .inr (.inr (.inr (.inr (fun j => zrv B b (zb w h j))))))
def zws (B b : Nat) (cA : Nat → ClassId) (w : zW) : va_W := (List.range (zn w)).map (fun h => (B + h, zE B b cA w (h + 1)))
def zty (k : Nat) : FieldType := if k = zNC then .int else if k = zNC + 1 then .boolean else .object (zEls.getD (k - (zNC + 3)) "")
def zWF (w : zW) : Prop := zk w 0 = zNC + 2 ∧ (∀ h, zn w < h → zk w h = 1000) ∧ ∀ h, 0 < h → zk w h ≠ zNC + 2
def zRel (B b : Nat) (D : va_G) (cA : Nat → ClassId) (w : zW) (U : State) (H : Heap) : Prop :=
  zWF w ∧ va_P D zCl (zws B b cA w) H ∧ (∀ h, h < zn w → zNC ≤ zk w (h + 1) → ArrOfT U (cA (h + 1)) (zty (zk w (h + 1))) ∧ va_RA U (cA (h + 1)) (zty (zk w (h + 1)))) ∧
  va_X b (zl w 0) (fun j => zI (za w 0 j)) U H ∧ b < B
theorem zRel.moved {B b : Nat} {D : va_G} {cA : Nat → ClassId} {w : zW} {u U : State} {H : Heap} (hvm : u.vm.Alike U.vm) (h : zRel B b D cA w u H) : zRel B b D cA w U H :=
  ⟨h.1, h.2.1, fun g h1 h2 => ⟨arrOfT_moved hvm (h.2.2.1 g h1 h2).1, (h.2.2.1 g h1 h2).2.moved hvm⟩, h.2.2.2.1.moved hvm, h.2.2.2.2⟩
-- lists over a range
theorem zws_len (B b : Nat) (cA : Nat → ClassId) (w : zW) : (zws B b cA w).length = zn w := by simp [zws]
theorem zws_get {B b : Nat} {cA : Nat → ClassId} {w : zW} {h : Nat} (hh : h < zn w) : (zws B b cA w)[h]? = some (B + h, zE B b cA w (h + 1)) := by
  simp [zws, hh]
theorem zws_inv {B b : Nat} {cA : Nat → ClassId} {w : zW} {h : Nat} {q : Nat × va_E} (hq : (zws B b cA w)[h]? = some q) : h < zn w ∧ q = (B + h, zE B b cA w (h + 1)) := by
  have h1 : h < zn w := by
    have := (List.getElem?_eq_some_iff.mp hq).1
    rwa [zws_len] at this
  rw [zws_get h1] at hq
  exact ⟨h1, (Option.some.inj hq).symm⟩
theorem zws_D (B b : Nat) (cA : Nat → ClassId) (w : zW) : va_D (fun q => B ≤ q) (zws B b cA w) := by
  refine ⟨fun i j x y hi hj hxy => ?_, fun k q hk => ?_⟩
  · obtain ⟨-, rfl⟩ := zws_inv hi
    obtain ⟨-, rfl⟩ := zws_inv hj
    have : B + i = B + j := hxy
    omega
  · obtain ⟨-, rfl⟩ := zws_inv hk
    exact Nat.le_add_right _ _
theorem zws_set {B b : Nat} {cA : Nat → ClassId} {w w' : zW} {h : Nat} {e : va_E} (hn : zn w' = zn w) (he : zE B b cA w' (h + 1) = e) (ho : ∀ g, g ≠ h + 1 → zE B b cA w' g = zE B b cA w g) :
    (zws B b cA w).set h (B + h, e) = zws B b cA w' := by
  apply List.ext_getElem?
  intro k
  by_cases hk : k < zn w
  · rw [zws_get (w := w') (by rw [hn]; exact hk)]
    by_cases hkh : k = h
    · subst hkh
      rw [List.getElem?_set_self (by rw [zws_len]; exact hk), he]
    · rw [List.getElem?_set_ne (Ne.symm hkh), zws_get hk, ho (k + 1) (by omega)]
  · rw [List.getElem?_eq_none (by rw [List.length_set, zws_len]; omega), List.getElem?_eq_none (by rw [zws_len, hn]; omega)]
theorem zws_app {B b : Nat} {cA cA' : Nat → ClassId} {w w' : zW} {e : va_E} (hn : zn w' = zn w + 1) (he : zE B b cA' w' (zn w + 1) = e) (ho : ∀ g, g ≤ zn w → zE B b cA' w' g = zE B b cA w g) :
    zws B b cA w ++ [(B + zn w, e)] = zws B b cA' w' := by
  apply List.ext_getElem?
  intro k
  by_cases hk : k < zn w
  · rw [List.getElem?_append_left (by rw [zws_len]; exact hk), zws_get hk, zws_get (w := w') (by omega), ho (k + 1) (by omega)]
  · by_cases hk2 : k = zn w
    · subst hk2
      rw [List.getElem?_append_right (by rw [zws_len]; exact Nat.le_refl _), zws_len, Nat.sub_self, zws_get (w := w') (by omega), he]
      rfl
    · rw [List.getElem?_eq_none (by simp [zws_len]; omega), List.getElem?_eq_none (by rw [zws_len, hn]; omega)]
-- a handle whose kind is one of the world's
theorem zWF.at {w : zW} (hw : zWF w) {h : Nat} (h1 : zk w h ≠ 1000) (h2 : zk w h ≠ zNC + 2) : ∃ g, h = g + 1 ∧ g < zn w := by
  cases h with
  | zero => exact absurd hw.1 h2
  | succ g =>
    refine ⟨g, rfl, ?_⟩
    by_cases hg : g < zn w
    · exact hg
    · exact absurd (hw.2.1 (g + 1) (by omega)) h1
theorem zad_succ (B b g : Nat) : zad B b (g + 1) = B + g := rfl
theorem zE_obj {B b : Nat} {cA : Nat → ClassId} {w : zW} {h : Nat} (hk : zk w h < zNC) : zE B b cA w h = .inr (zk w h, (zF (zk w h)).map (zfv B b w h)) := by simp only [zE, hk, if_true]
theorem zE_arr {B b : Nat} {cA : Nat → ClassId} {w : zW} {h : Nat} (hk : ¬ zk w h < zNC) (hk2 : zk w h < zNC + 3) : zE B b cA w h = .inl (cA h, zl w h, .inl (fun j => zI (za w h j))) := by simp only [zE, hk, hk2, if_true, if_false]
theorem zE_ref {B b : Nat} {cA : Nat → ClassId} {w : zW} {h : Nat} (hk : ¬ zk w h < zNC + 3) : zE B b cA w h = .inl (cA h, zl w h, .inr (.inr (.inr (.inr (fun j => zrv B b (zb w h j)))))) := by
  have h1 : ¬ zk w h < zNC := fun h => hk (Nat.lt_of_lt_of_le h (Nat.le_add_right _ _))
  simp only [zE, hk, h1, if_false]
-- locals
def zlv (B b : Nat) (ls : List (Option zV)) : List (Nat × Value) := (List.range ls.length).filterMap fun k => match ls[k]? with
  | some (some v) => some (k, zcv B b v)
  | _ => none
theorem zlv_mem {B b : Nat} {ls : List (Option zV)} {q : Nat × Value} : q ∈ zlv B b ls ↔ ∃ v, ls[q.1]? = some (some v) ∧ q.2 = zcv B b v := by
  unfold zlv
  rw [List.mem_filterMap]
  constructor
  · rintro ⟨k, -, hk⟩
    split at hk
    · rename_i v hv
      cases hk
      exact ⟨v, hv, rfl⟩
    · cases hk
  · rintro ⟨v, hv, h2⟩
    refine ⟨q.1, List.mem_range.mpr (List.getElem?_eq_some_iff.mp hv).1, ?_⟩
    rw [hv]
    show some (q.1, zcv B b v) = some q
    rw [← h2]
theorem zlv_of {B b : Nat} {ls : List (Option zV)} {k : Nat} {v : zV} (h : ls[k]? = some (some v)) : (k, zcv B b v) ∈ zlv B b ls := zlv_mem.mpr ⟨v, h, rfl⟩
theorem lv_has.less {ls : Array Slot} {n : Nat} {l l' : List (Nat × Value)} (h : lv_has ls n l) (hl : ∀ q ∈ l', q ∈ l) : lv_has ls n l' := ⟨h.1, h.2.1, fun q hq => h.2.2 q (hl q hq)⟩
theorem zlv_at {B b n : Nat} {ls : List (Option zV)} {lsA : Array Slot} (h : lv_has lsA n (zlv B b ls)) {k : Nat} {v : zV} (hv : ls[k]? = some (some v)) : lsA[k]? = some (.val (zcv B b v)) := h.2.2 (k, zcv B b v) (zlv_of hv)
theorem zcv_cat (B b : Nat) (v : zV) : (zcv B b v).category = 1 := by
  cases v with
  | inl x => rfl
  | inr r => cases r <;> rfl
theorem zcat (B b : Nat) (st : List zV) : ((st.map (zcv B b)).map fun v => v.category).sum = st.length := by
  induction st with
  | nil => rfl
  | cons v st ih => simp only [List.map_cons, List.sum_cons, zcv_cat, ih, List.length_cons]; omega
theorem zlv_set {B b : Nat} {ls : List (Option zV)} {lsA : Array Slot} {n ix : Nat} {v : zV}
    (h : lv_has lsA n ((ix, zcv B b v) :: (zlv B b ls).filter (fun q => !(q.1 == ix) && !(q.1 + 1 == ix && q.2.category == 2)))) : lv_has lsA n (zlv B b (ls.set ix (some v))) := by
  refine h.less fun q hq => ?_
  obtain ⟨x, h1, h2⟩ := zlv_mem.mp hq
  by_cases hx : q.1 = ix
  · refine List.mem_cons.mpr (Or.inl ?_)
    have hlen := (List.getElem?_eq_some_iff.mp h1).1
    rw [List.length_set] at hlen
    rw [hx, List.getElem?_set_self (by rw [← hx]; exact hlen)] at h1
    cases h1
    rw [← hx, ← h2]
  · refine List.mem_cons.mpr (Or.inr (List.mem_filter.mpr ⟨zlv_mem.mpr ⟨x, ?_, h2⟩, ?_⟩))
    · rwa [List.getElem?_set_ne (Ne.symm hx)] at h1
    · have hc : (q.2.category == 2) = false := by rw [h2, zcv_cat]; rfl
      simp [hx, hc]
theorem zargs {B b : Nat} : ∀ (vs : List zV) (i k : Nat) (v : zV), vs[k]? = some v → (i + k, zcv B b v) ∈ lv_args i (vs.map (zcv B b))
  | [], i, k, v, h => by simp at h
  | x :: vs, i, k, v, h => by
    have hc : lv_args i ((x :: vs).map (zcv B b)) = (i, zcv B b x) :: lv_args (i + 1) (vs.map (zcv B b)) := by
      simp [lv_args, zcv_cat]
    rw [hc]
    cases k with
    | zero =>
      simp at h
      subst h
      exact List.mem_cons.mpr (Or.inl rfl)
    | succ k =>
      have h1 := zargs (B := B) (b := b) vs (i + 1) k v (by simpa using h)
      rw [show i + (k + 1) = i + 1 + k by omega]
      exact List.mem_cons.mpr (Or.inr h1)
theorem zsl_len (B b : Nat) (vs : List zV) : (lg_sl (vs.map (zcv B b))).length = vs.length := by
  induction vs with
  | nil => rfl
  | cons v vs ih =>
    have : lg_sl ((v :: vs).map (zcv B b)) = .val (zcv B b v) :: lg_sl (vs.map (zcv B b)) := by
      simp [lg_sl, zcv_cat]
    rw [this, List.length_cons, ih, List.length_cons]
theorem zent_get {i : Nat} {vs : List zV} {k : Nat} {v : zV} (h : (zent i vs)[k]? = some (some v)) : vs[k]? = some v := by
  unfold zent at h
  by_cases hk : k < vs.length
  · rw [List.getElem?_append_left (by simpa using hk), List.getElem?_map] at h
    cases hv : vs[k]? with
    | none => rw [hv] at h; cases h
    | some x => rw [hv] at h; cases h; rfl
  · rw [List.getElem?_append_right (by simpa using hk)] at h
    have := List.mem_of_getElem? h
    simp at this
theorem zent_len {i : Nat} {vs : List zV} (h : vs.length ≤ zL i) : (zent i vs).length = zL i := by
  simp [zent]; omega
theorem zent_has {B b i : Nat} {vs : List zV} {lsA : Array Slot} (h : lv_has lsA (zL i) (lv_args 0 (vs.map (zcv B b)))) : lv_has lsA (zL i) (zlv B b (zent i vs)) := by
  refine h.less fun q hq => ?_
  obtain ⟨v, h1, h2⟩ := zlv_mem.mp hq
  have h3 := zargs (B := B) (b := b) vs 0 q.1 v (zent_get h1)
  rw [Nat.zero_add, ← h2] at h3
  exact h3
-- numbers
theorem zI_toInt (v : Int32) : zI v.toInt = v := Int32.ofInt_toInt v
theorem zN_I (x : Int) : (zI x).toInt = zN x := rfl
theorem zI_ne {x : Int} (h : ¬ zN x = 0) : ¬ zI x = 0 := fun h1 => h (by rw [← zN_I, h1]; rfl)
theorem zI_lt0 (x : Int) : zI x < 0 ↔ zN x < 0 := by rw [Int32.lt_iff_toInt_lt]; rfl
theorem zin {j : Int} {n : Nat} (h1 : 0 ≤ zN j) (h2 : zN j < n) : vp_in (zI j) n := by
  rintro (h | h)
  · rw [zI_lt0] at h; omega
  · have : (zI j).toNatClampNeg = (zN j).toNat := rfl
    rw [this] at h
    omega
theorem zclamp (j : Int) : (zI j).toNatClampNeg = (zN j).toNat := rfl
theorem zbool {x : Int} (h : zN x = 0 ∨ zN x = 1) : zI x = 0 ∨ zI x = 1 := by
  rcases h with h | h
  · left; apply Int32.toInt_inj.mp; rw [zN_I, h]; rfl
  · right; apply Int32.toInt_inj.mp; rw [zN_I, h]; rfl
theorem zof_nat (n : Nat) : zI (n : Int) = Int32.ofNat n := Int32.ofInt_eq_ofNat
-- looking up
theorem zlk_mem {α : Type} : ∀ (l : List (Nat × α)) (k : Nat) (v : α), l.lookup k = some v → (k, v) ∈ l
  | [], k, v, h => by cases h
  | (a, x) :: l, k, v, h => by
    rw [List.lookup_cons] at h
    split at h
    · rename_i hk
      have hk2 : k = a := by simpa using hk
      cases h
      rw [hk2]
      exact List.mem_cons.mpr (Or.inl rfl)
    · exact List.mem_cons.mpr (Or.inr (zlk_mem l k v h))
