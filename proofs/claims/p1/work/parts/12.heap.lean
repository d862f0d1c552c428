-- cells of a world that has changed in one place
theorem zNC_lt : zNC + 3 < 1000 := by decide
theorem zE_congr {B b : Nat} {cA cA' : Nat → ClassId} {w w' : zW} {g : Nat} (h1 : zk w' g = zk w g) (h2 : zl w' g = zl w g) (h3 : ∀ q, zfv B b w' g q = zfv B b w g q) (h4 : ∀ j, za w' g j = za w g j) (h5 : ∀ j, zb w' g j = zb w g j) (h6 : cA' g = cA g) :
    zE B b cA' w' g = zE B b cA w g := by
  have h3' : zfv B b w' g = zfv B b w g := funext h3
  have h4' : (fun j => zI (za w' g j)) = fun j => zI (za w g j) := funext fun j => by rw [h4]
  have h5' : (fun j => zrv B b (zb w' g j)) = fun j => zrv B b (zb w g j) := funext fun j => by rw [h5]
  unfold zE
  rw [h1, h2, h3', h4', h5', h6]
theorem zu_ne2 {α : Type} {f : Nat → Nat → α} {a b i j : Nat} {v : α} (h : j ≠ b) : zu f a b v i j = f i j := by
  unfold zu
  split <;> simp [h]
theorem zu_ne1 {α : Type} {f : Nat → Nat → α} {a b i j : Nat} {v : α} (h : i ≠ a) : zu f a b v i j = f i j := by simp [zu, h]
theorem zu_self {α : Type} {f : Nat → Nat → α} {a b : Nat} {v : α} : zu f a b v a b = v := by simp [zu]
theorem zE_sf_ne {B b : Nat} {cA : Nat → ClassId} {w : zW} {f h g : Nat} {x : Int} (hg : g ≠ h) : zE B b cA (zsf w f h x) g = zE B b cA w g := by
  refine zE_congr rfl rfl (fun q => ?_) (fun _ => rfl) (fun _ => rfl) rfl
  have : zf (zsf w f h x) q.1 g = zf w q.1 g := zu_ne2 hg
  unfold zfv
  rw [this]
  rfl
theorem zE_sp_ne {B b : Nat} {cA : Nat → ClassId} {w : zW} {f h g : Nat} {x : Option Nat} (hg : g ≠ h) : zE B b cA (zsp w f h x) g = zE B b cA w g := by
  refine zE_congr rfl rfl (fun q => ?_) (fun _ => rfl) (fun _ => rfl) rfl
  have : zp (zsp w f h x) q.1 g = zp w q.1 g := zu_ne2 hg
  unfold zfv
  rw [this]
  rfl
theorem zE_sa_ne {B b : Nat} {cA : Nat → ClassId} {w : zW} {h j g : Nat} {x : Int} (hg : g ≠ h) : zE B b cA (zsa w h j x) g = zE B b cA w g :=
  zE_congr rfl rfl (fun _ => rfl) (fun _ => zu_ne1 hg) (fun _ => rfl) rfl
theorem zE_sb_ne {B b : Nat} {cA : Nat → ClassId} {w : zW} {h j g : Nat} {x : Option Nat} (hg : g ≠ h) : zE B b cA (zsb w h j x) g = zE B b cA w g :=
  zE_congr rfl rfl (fun _ => rfl) (fun _ => rfl) (fun _ => zu_ne1 hg) rfl
theorem zsa_old {w : zW} {h j g k : Nat} {x : Int} (hg : g ≠ h) : za (zsa w h j x) g k = za w g k := zu_ne1 hg
theorem zcp_old {w : zW} {h sp g dp n k j : Nat} (hk : k ≠ g) : za (zcp w h sp g dp n) k j = za w k j := if_neg hk
theorem zE_cp_ne {B b : Nat} {cA : Nat → ClassId} {w : zW} {h sp g dp n k : Nat} (hg : k ≠ g) : zE B b cA (zcp w h sp g dp n) k = zE B b cA w k :=
  zE_congr rfl rfl (fun _ => rfl) (fun j => by show (if k = g then _ else _) = _; rw [if_neg hg]) (fun _ => rfl) rfl
theorem zset_fs {fs : List (Nat × Nat)} {F F' : Nat × Nat → Value} {k f t : Nat} {v : Value} (hnd : (fs.map Prod.fst).Nodup) (hk : fs[k]? = some (f, t)) (hv : F' (f, t) = v) (ho : ∀ q : Nat × Nat, q.1 ≠ f → F' q = F q) : fs.map F' = (fs.map F).set k v := by
  have hl := (List.getElem?_eq_some_iff.mp hk).1
  apply List.ext_getElem?
  intro j
  by_cases hj : j = k
  · subst hj
    rw [List.getElem?_set_self (by simpa using hl), List.getElem?_map, hk]
    exact congrArg some hv
  · rw [List.getElem?_set_ne (Ne.symm hj), List.getElem?_map, List.getElem?_map]
    cases hq : fs[j]? with
    | none => rfl
    | some q =>
      refine congrArg some (ho q fun he => hj ?_)
      have hlj := (List.getElem?_eq_some_iff.mp hq).1
      refine (List.getElem?_inj (by simpa using hlj) hnd).mp ?_
      rw [List.getElem?_map, List.getElem?_map, hq, hk]
      exact congrArg some he
theorem zE_sf_eq {B b : Nat} {cA : Nat → ClassId} {w : zW} {h k f t : Nat} {x : Int} (hk : zk w h < zNC) (hnd : ((zF (zk w h)).map Prod.fst).Nodup) (hf : (zF (zk w h))[k]? = some (f, t)) (ht : t ≠ 2) :
    zE B b cA (zsf w f h x) h = .inr (zk w h, ((zF (zk w h)).map (zfv B b w h)).set k (.int (zI x))) := by
  rw [zE_obj (w := zsf w f h x) hk]
  refine congrArg Sum.inr (congrArg (Prod.mk _) (zset_fs hnd hf ?_ fun q hq => ?_))
  · have : zf (zsf w f h x) f h = x := zu_self
    unfold zfv
    rw [this]
    exact if_neg ht
  · have : zf (zsf w f h x) q.1 h = zf w q.1 h := zu_ne1 hq
    unfold zfv
    rw [this]
    rfl
theorem zE_sp_eq {B b : Nat} {cA : Nat → ClassId} {w : zW} {h k f : Nat} {x : Option Nat} (hk : zk w h < zNC) (hnd : ((zF (zk w h)).map Prod.fst).Nodup) (hf : (zF (zk w h))[k]? = some (f, 2)) :
    zE B b cA (zsp w f h x) h = .inr (zk w h, ((zF (zk w h)).map (zfv B b w h)).set k (va_rf (zrv B b x))) := by
  rw [zE_obj (w := zsp w f h x) hk]
  refine congrArg Sum.inr (congrArg (Prod.mk _) (zset_fs hnd hf ?_ fun q hq => ?_))
  · have : zp (zsp w f h x) f h = x := zu_self
    unfold zfv
    rw [this]
    exact if_pos rfl
  · have : zp (zsp w f h x) q.1 h = zp w q.1 h := zu_ne1 hq
    unfold zfv
    rw [this]
    rfl
theorem zE_sa_eq {B b : Nat} {cA : Nat → ClassId} {w : zW} {h j : Nat} {x : Int} (hk : ¬ zk w h < zNC) (hk2 : zk w h < zNC + 3) :
    zE B b cA (zsa w h j x) h = .inl (cA h, zl w h, .inl (upd (fun j => zI (za w h j)) j (zI x))) := by
  rw [zE_arr (w := zsa w h j x) hk hk2]
  refine congrArg (fun f => Sum.inl (cA h, zl w h, Sum.inl f)) (funext fun k => ?_)
  show zI (zu w.2.2.2.1 h j x h k) = upd _ j (zI x) k
  unfold upd
  by_cases hkj : k = j
  · subst hkj
    rw [zu_self, if_pos rfl]
  · rw [zu_ne2 hkj, if_neg hkj]
theorem zE_sb_eq {B b : Nat} {cA : Nat → ClassId} {w : zW} {h j : Nat} {x : Option Nat} (hk : ¬ zk w h < zNC + 3) :
    zE B b cA (zsb w h j x) h = .inl (cA h, zl w h, .inr (.inr (.inr (.inr (va_up (fun j => zrv B b (zb w h j)) j (zrv B b x)))))) := by
  rw [zE_ref (w := zsb w h j x) hk]
  refine congrArg (fun f => Sum.inl (cA h, zl w h, Sum.inr (Sum.inr (Sum.inr (Sum.inr f))))) (funext fun k => ?_)
  show zrv B b (zu w.2.2.2.2 h j x h k) = va_up _ j (zrv B b x) k
  unfold va_up
  by_cases hkj : k = j
  · subst hkj
    rw [zu_self, if_pos rfl]
  · rw [zu_ne2 hkj, if_neg hkj]
theorem zE_cp_eq {B b : Nat} {cA : Nat → ClassId} {w : zW} {h sp g dp n : Nat} (hk : ¬ zk w g < zNC) (hk2 : zk w g < zNC + 3) :
    zE B b cA (zcp w h sp g dp n) g = .inl (cA g, zl w g, .inl (va_cpy (fun j => zI (za w h j)) (fun j => zI (za w g j)) sp dp n)) := by
  rw [zE_arr (w := zcp w h sp g dp n) hk hk2]
  refine congrArg (fun f => Sum.inl (cA g, zl w g, Sum.inl f)) (funext fun k => ?_)
  show zI (if g = g then (if dp ≤ k ∧ k < dp + n then za w h (sp + (k - dp)) else za w g k) else za w g k) = va_cpy _ _ sp dp n k
  rw [if_pos rfl]
  unfold va_cpy
  by_cases hq : dp ≤ k ∧ k < dp + n
  · rw [if_pos hq, if_pos hq]
  · rw [if_neg hq, if_neg hq]
theorem zX_keep {B b L : Nat} {xs : Nat → Int32} {s : State} {H H1 : Heap} {locs locs1 : List Loc} (hX : va_X b L xs s H) (hbB : b < B) (hB : B ≤ s.heap.size) (hS1 : va_S (fun q => B ≤ q) s.heap H locs) (hS2 : va_S (fun q => B ≤ q) s.heap H1 locs1) : va_X b L xs s H1 :=
  hX.kept ((hS2.2.1 b (Nat.lt_of_lt_of_le hbB hB) (Nat.not_le.mpr hbB)).trans (hS1.2.1 b (Nat.lt_of_lt_of_le hbB hB) (Nat.not_le.mpr hbB)).symm)
theorem zX_start {B b L : Nat} {xs : Nat → Int32} {s : State} {H : Heap} {locs : List Loc} (hX : va_X b L xs s H) (hbB : b < B) (hB : B ≤ s.heap.size) (hS1 : va_S (fun q => B ≤ q) s.heap H locs) : va_X b L xs s s.heap :=
  hX.kept (hS1.2.1 b (Nat.lt_of_lt_of_le hbB hB) (Nat.not_le.mpr hbB)).symm
theorem zWF_shape {w w' : zW} (h : w'.1 = w.1) (hw : zWF w) : zWF w' := by
  unfold zWF zk zn at *
  rw [h]
  exact hw
theorem zRel_store {B b : Nat} {D : va_G} {cA : Nat → ClassId} {w w' : zW} {s : State} {H H1 : Heap} {locs locs1 : List Loc} {h : Nat} {e : va_E} (hr : zRel B b D cA w s H) (hB : B ≤ s.heap.size) (hS1 : va_S (fun q => B ≤ q) s.heap H locs) (hS2 : va_S (fun q => B ≤ q) s.heap H1 locs1)
    (hP : va_P D zCl ((zws B b cA w).set h (B + h, e)) H1) (hsh : w'.1 = w.1) (he : zE B b cA w' (h + 1) = e) (ho : ∀ g, g ≠ h + 1 → zE B b cA w' g = zE B b cA w g) (hz : ∀ j, za w' 0 j = za w 0 j) : zRel B b D cA w' s H1 := by
  obtain ⟨h1, h2, h3, h4, h5⟩ := hr
  have hn : zn w' = zn w := congrArg (fun q => q.1) hsh
  have hk : ∀ g, zk w' g = zk w g := fun g => congrArg (fun q : zS => q.2.2.1 g) hsh
  have hl : zl w' 0 = zl w 0 := congrArg (fun q : zS => q.2.2.2 0) hsh
  refine ⟨zWF_shape hsh h1, by rw [← zws_set hn he ho]; exact hP, fun g hg hkg => ?_, ?_, h5⟩
  · rw [hn] at hg
    rw [hk] at hkg ⊢
    exact h3 g hg hkg
  · rw [hl, show (fun j => zI (za w' 0 j)) = fun j => zI (za w 0 j) from funext fun j => by rw [hz]]
    exact zX_keep h4 h5 hB hS1 hS2
theorem zK1 {D : va_G} {s : State} {cA : ClassId} {ty : FieldType} (hK : va_K D zCl [] s) (h : ArrOfT s cA ty ∧ va_RA s cA ty) : va_K D zCl [(cA, ty)] s := by
  refine ⟨hK.1, fun k q hk => ?_⟩
  cases k with
  | zero => cases hk; exact h
  | succ k => simp at hk
theorem zK2 {D : va_G} {s : State} {cA cB : ClassId} {ty : FieldType} (hK : va_K D zCl [] s) (h : ArrOfT s cA ty ∧ va_RA s cA ty) (h2 : ArrOfT s cB ty ∧ va_RA s cB ty) : va_K D zCl [(cA, ty), (cB, ty)] s := (zK1 hK h).app (zK1 hK h2)
theorem zty0 : zty zNC = .int := rfl
theorem zty1 : zty (zNC + 1) = .boolean := rfl
theorem zfid_some {res : List (Nat × Nat)} {c f t : Nat} (h : zfid res c = some (f, t)) : ∃ k, (c, k) ∈ res ∧ (zF c)[k]? = some (f, t) := by
  unfold zfid at h
  obtain ⟨k, h1, h2⟩ := Option.bind_eq_some_iff.mp h
  exact ⟨k, zlk_mem _ _ _ h1, h2⟩
theorem zsame {s : State} {args : Array Value} (hts : ∀ w ∈ zGW, w.before args s = true) {ref owner nm d : String} (h : owner = ref ∨ Cond.sameField ref owner nm d ∈ zGW) : ∀ x, s.fieldFound? owner nm d = some x → s.fieldFound? ref nm d = some x := by
  intro x hx
  rcases h with rfl | h
  · exact hx
  · exact u_same (hts _ h) x hx
theorem zfit0 {fs : List (Nat × Nat)} {k f t : Nat} {ty : FieldType} {x : Int} (hf : fs[k]? = some (f, t)) (htag : zTagB fs k ty = true) (ht : t = 0 ∨ (t = 1 ∧ (zN x = 0 ∨ zN x = 1))) : narrow ty (.int (zI x)) = .int (zI x) ∧ fits ty (.int (zI x)) = true := by
  unfold zTagB at htag
  rw [hf] at htag
  rcases ht with rfl | ⟨rfl, hx⟩
  · have : ty = .int := of_decide_eq_true htag
    subst this
    exact ⟨rfl, rfl⟩
  · have : ty = .boolean := of_decide_eq_true htag
    subst this
    rcases zbool hx with h | h <;> rw [h] <;> exact ⟨rfl, rfl⟩
theorem zfit2 {B b : Nat} {fs : List (Nat × Nat)} {k f : Nat} {ty : FieldType} {x : Option Nat} (hf : fs[k]? = some (f, 2)) (htag : zTagB fs k ty = true) : narrow ty (va_rf (zrv B b x)) = va_rf (zrv B b x) ∧ fits ty (va_rf (zrv B b x)) = true := by
  unfold zTagB at htag
  rw [hf] at htag
  have htag : refKind ty = true := htag
  cases ty <;> first | (exact absurd htag (by decide)) | (cases x <;> exact ⟨rfl, rfl⟩) | (simp [refKind] at htag)
section ZH
variable {p : Program} {l : Launch} {e : Env} {R : Room} {s : State} {m : MethodId} {args : Array Value} {below : List Frame} {meth : Method} {c : Code} {Q : State → Prop}
variable {B b : Nat} {D : va_G} {S0 i : Nat} {pc : Nat} {ls : List (Option zV)} {st : List zV} {w : zW}
theorem zs_get (hX : zCtx p R s m args meth c B D i) {ix h f t : Nat} {res : List (Nat × Nat)} (hdg : decode (zB i) pc = .ok (.getfield ix, 3)) (hOK : zall (zFok (zY i).name (zY i).cls ix false) res) (hf : zfid res (zk w h) = some (f, t)) (hk : zG p l e R s m args below meth c Q B b D S0 i (pc + 3) ls ((if t = 2 then .inr (zp w f h) else .inl (zf w f h)) :: st) w) : zG p l e R s m args below meth c Q B b D S0 i pc ls (.inr (some h) :: st) w := by
  obtain ⟨hx, hb, hml, hown, hts, hni, hK, hB, hnm, hfr, hlo⟩ := hX
  intro H locs cells slots lsA hS
  obtain ⟨cA, hr, hS1, hc, hs, hll, hl⟩ := id hS
  obtain ⟨k, hmem, hfk⟩ := zfid_some hf
  obtain ⟨C, TT, N, ty, ref, ⟨hcl, hcN, hlen, hin, hty, hnmd, htag, hnd, hdf⟩, hkN, hlk, hsm, hpt⟩ := hOK.get _ hmem
  have hcN : zk w h < zNC := hcN
  have hz := zNC_lt
  obtain ⟨g, rfl, hg⟩ := hr.1.at (h := h) (by omega) (by omega)
  have he : (zws B b cA w)[g]? = some (B + g, .inr (zk w (g + 1), (zF (zk w (g + 1))).map (zfv B b w (g + 1)))) := by rw [zws_get hg, zE_obj hcN]
  have hk := hk H locs cells slots lsA hS
  have e1 : zcv B b (if t = 2 then .inr (zp w f (g + 1)) else .inl (zf w f (g + 1))) = zfv B b w (g + 1) (f, t) := by
    unfold zfv
    split <;> rfl
  rw [List.map_cons, e1] at hk
  exact va_get hx hb hts hin hown hK hr.2.1 g he hcl k hkN (hts _ hlk) (zsame hts hsm) (by rw [List.getElem?_map, hfk]; rfl) hdg hk
theorem zs_put0 (hX : zCtx p R s m args meth c B D i) {ix h f t : Nat} {x : Int} {res : List (Nat × Nat)} (hdg : decode (zB i) pc = .ok (.putfield ix, 3)) (hOK : zall (zFok (zY i).name (zY i).cls ix true) res) (hf : zfid res (zk w h) = some (f, t)) (ht : t = 0 ∨ (t = 1 ∧ (zN x = 0 ∨ zN x = 1))) (hk : zG p l e R s m args below meth c Q B b D S0 i (pc + 3) ls st (zsf w f h x)) : zG p l e R s m args below meth c Q B b D S0 i pc ls (.inl x :: .inr (some h) :: st) w := by
  obtain ⟨hx, hb, hml, hown, hts, hni, hK, hB, hnm, hfr, hlo⟩ := hX
  intro H locs cells slots lsA hS
  obtain ⟨cA, hr, hS1, hc, hs, hll, hl⟩ := id hS
  obtain ⟨k, hmem, hfk⟩ := zfid_some hf
  obtain ⟨C, TT, N, ty, ref, ⟨hcl, hcN, hlen, hin, hty, hnmd, htag, hnd, hdf⟩, hkN, hlk, hsm, hpt⟩ := hOK.get _ hmem
  have hcN : zk w h < zNC := hcN
  have hz := zNC_lt
  obtain ⟨g, rfl, hg⟩ := hr.1.at (h := h) (by omega) (by omega)
  have he : (zws B b cA w)[g]? = some (B + g, .inr (zk w (g + 1), (zF (zk w (g + 1))).map (zfv B b w (g + 1)))) := by rw [zws_get hg, zE_obj hcN]
  have hfit := zfit0 hfk (htag k hkN) ht
  have kk : ∀ (H1 : Heap) (locs1 : List Loc), va_P D zCl ((zws B b cA w).set g (B + g, .inr (zk w (g + 1), ((zF (zk w (g + 1))).map (zfv B b w (g + 1))).set k (.int (zI x))))) H1 → va_D (fun q => B ≤ q) ((zws B b cA w).set g (B + g, .inr (zk w (g + 1), ((zF (zk w (g + 1))).map (zfv B b w (g + 1))).set k (.int (zI x))))) → va_S (fun q => B ≤ q) s.heap H1 locs1 →
      W p l e R s m args below meth c H1 locs1 cells slots Q (F0 m (pc + 3) lsA (st.map (zcv B b))) := fun H1 locs1 hP1 _ hS2 =>
    hk H1 locs1 cells slots lsA ⟨cA, zRel_store hr hB hS1 hS2 hP1 rfl (zE_sf_eq hcN hnd hfk (by omega)) (fun _ hq => zE_sf_ne hq) (fun _ => rfl), hS2, hc, hs, hll, hl⟩
  have hkl : k < ((zF (zk w (g + 1))).map (zfv B b w (g + 1))).length := by rw [List.length_map, hlen]; exact hkN
  rcases hpt rfl with hfin | ⟨hfin, hini, hdecl⟩
  · exact va_put hx hb hts hin ty hty hnmd hown hK hr.2.1 (zws_D B b cA w) hS1 g he hcl k hkN (hts _ hlk) (zsame hts hsm) hfin (hty k hkN) hfit.1 hfit.2 hkl hdg kk
  · exact va_putF hx hb hts hin ty hty hnmd hown hK hr.2.1 (zws_D B b cA w) hS1 g he hcl k hkN (hts _ hlk) (zsame hts hsm) hfin (hnm hini) hdecl (hty k hkN) hfit.1 hfit.2 hkl hdg kk
theorem zs_put2 (hX : zCtx p R s m args meth c B D i) {ix h f t : Nat} {x : Option Nat} {res : List (Nat × Nat)} (hdg : decode (zB i) pc = .ok (.putfield ix, 3)) (hOK : zall (zFok (zY i).name (zY i).cls ix true) res) (hf : zfid res (zk w h) = some (f, t)) (ht : t = 2) (hk : zG p l e R s m args below meth c Q B b D S0 i (pc + 3) ls st (zsp w f h x)) : zG p l e R s m args below meth c Q B b D S0 i pc ls (.inr x :: .inr (some h) :: st) w := by
  obtain ⟨hx, hb, hml, hown, hts, hni, hK, hB, hnm, hfr, hlo⟩ := hX
  intro H locs cells slots lsA hS
  obtain ⟨cA, hr, hS1, hc, hs, hll, hl⟩ := id hS
  obtain ⟨k, hmem, hfk⟩ := zfid_some hf
  obtain ⟨C, TT, N, ty, ref, ⟨hcl, hcN, hlen, hin, hty, hnmd, htag, hnd, hdf⟩, hkN, hlk, hsm, hpt⟩ := hOK.get _ hmem
  have hcN : zk w h < zNC := hcN
  have hz := zNC_lt
  obtain ⟨g, rfl, hg⟩ := hr.1.at (h := h) (by omega) (by omega)
  have he : (zws B b cA w)[g]? = some (B + g, .inr (zk w (g + 1), (zF (zk w (g + 1))).map (zfv B b w (g + 1)))) := by rw [zws_get hg, zE_obj hcN]
  have hfit := zfit2 (B := B) (b := b) (x := x) (by rw [ht] at hfk; exact hfk) (htag k hkN)
  have kk : ∀ (H1 : Heap) (locs1 : List Loc), va_P D zCl ((zws B b cA w).set g (B + g, .inr (zk w (g + 1), ((zF (zk w (g + 1))).map (zfv B b w (g + 1))).set k (va_rf (zrv B b x))))) H1 → va_D (fun q => B ≤ q) ((zws B b cA w).set g (B + g, .inr (zk w (g + 1), ((zF (zk w (g + 1))).map (zfv B b w (g + 1))).set k (va_rf (zrv B b x))))) → va_S (fun q => B ≤ q) s.heap H1 locs1 →
      W p l e R s m args below meth c H1 locs1 cells slots Q (F0 m (pc + 3) lsA (st.map (zcv B b))) := fun H1 locs1 hP1 _ hS2 =>
    hk H1 locs1 cells slots lsA ⟨cA, zRel_store hr hB hS1 hS2 hP1 rfl (zE_sp_eq hcN hnd (by rw [ht] at hfk; exact hfk)) (fun _ hq => zE_sp_ne hq) (fun _ => rfl), hS2, hc, hs, hll, hl⟩
  have hkl : k < ((zF (zk w (g + 1))).map (zfv B b w (g + 1))).length := by rw [List.length_map, hlen]; exact hkN
  rcases hpt rfl with hfin | ⟨hfin, hini, hdecl⟩
  · exact va_put hx hb hts hin ty hty hnmd hown hK hr.2.1 (zws_D B b cA w) hS1 g he hcl k hkN (hts _ hlk) (zsame hts hsm) hfin (hty k hkN) hfit.1 hfit.2 hkl hdg kk
  · exact va_putF hx hb hts hin ty hty hnmd hown hK hr.2.1 (zws_D B b cA w) hS1 g he hcl k hkN (hts _ hlk) (zsame hts hsm) hfin (hnm hini) hdecl (hty k hkN) hfit.1 hfit.2 hkl hdg kk
theorem zs_iaload (hX : zCtx p R s m args meth c B D i) {h : Nat} {j : Int} (hdg : decode (zB i) pc = .ok (.iaload, 1)) (hkd : zk w h = zNC) (h1 : 0 ≤ zN j) (h2 : zN j < zl w h) (hk : zG p l e R s m args below meth c Q B b D S0 i (pc + 1) ls (.inl (za w h (zN j).toNat) :: st) w) : zG p l e R s m args below meth c Q B b D S0 i pc ls (.inl j :: .inr (some h) :: st) w := by
  obtain ⟨hx, hb, hml, hown, hts, hni, hK, hB, hnm, hfr, hlo⟩ := hX
  intro H locs cells slots lsA hS
  obtain ⟨cA, hr, hS1, hc, hs, hll, hl⟩ := id hS
  have hz := zNC_lt
  obtain ⟨g, rfl, hg⟩ := hr.1.at (h := h) (by omega) (by omega)
  have hae := hr.2.2.1 g hg (by omega)
  rw [hkd, zty0] at hae
  have hK1 := zK1 hK hae
  have he : (zws B b cA w)[g]? = some (B + g, .inl (cA (g + 1), zl w (g + 1), .inl (fun j => zI (za w (g + 1) j)))) := by rw [zws_get hg, zE_arr (by omega) (by omega)]
  exact va_iald hx hb hK1 hr.2.1 g 0 he rfl (zin h1 h2) hdg (hk H locs cells slots lsA hS)
theorem zs_baload (hX : zCtx p R s m args meth c B D i) {h : Nat} {j : Int} (hdg : decode (zB i) pc = .ok (.baload, 1)) (hkd : zk w h = zNC + 1) (h1 : 0 ≤ zN j) (h2 : zN j < zl w h) (hk : zG p l e R s m args below meth c Q B b D S0 i (pc + 1) ls (.inl (za w h (zN j).toNat) :: st) w) : zG p l e R s m args below meth c Q B b D S0 i pc ls (.inl j :: .inr (some h) :: st) w := by
  obtain ⟨hx, hb, hml, hown, hts, hni, hK, hB, hnm, hfr, hlo⟩ := hX
  intro H locs cells slots lsA hS
  obtain ⟨cA, hr, hS1, hc, hs, hll, hl⟩ := id hS
  have hz := zNC_lt
  obtain ⟨g, rfl, hg⟩ := hr.1.at (h := h) (by omega) (by omega)
  have hae := hr.2.2.1 g hg (by omega)
  rw [hkd, zty1] at hae
  have hK1 := zK1 hK hae
  have he : (zws B b cA w)[g]? = some (B + g, .inl (cA (g + 1), zl w (g + 1), .inl (fun j => zI (za w (g + 1) j)))) := by rw [zws_get hg, zE_arr (by omega) (by omega)]
  exact va_zald hx hb hK1 hr.2.1 g 0 he rfl (zin h1 h2) hdg (hk H locs cells slots lsA hS)
theorem zs_sload (hX : zCtx p R s m args meth c B D i) {h : Nat} {j : Int} (hdg : decode (zB i) pc = .ok (.iaload, 1)) (hkd : zk w h = zNC + 2) (h1 : 0 ≤ zN j) (h2 : zN j < zl w h) (hk : zG p l e R s m args below meth c Q B b D S0 i (pc + 1) ls (.inl (za w h (zN j).toNat) :: st) w) : zG p l e R s m args below meth c Q B b D S0 i pc ls (.inl j :: .inr (some h) :: st) w := by
  obtain ⟨hx, hb, hml, hown, hts, hni, hK, hB, hnm, hfr, hlo⟩ := hX
  intro H locs cells slots lsA hS
  obtain ⟨cA, hr, hS1, hc, hs, hll, hl⟩ := id hS
  have h0 : h = 0 := by
    cases h with
    | zero => rfl
    | succ g => exact absurd hkd (hr.1.2.2 (g + 1) (Nat.succ_pos g))
  subst h0
  exact va_sld hx hb (zX_start hr.2.2.2.1 hr.2.2.2.2 hB hS1) (Nat.lt_of_lt_of_le hr.2.2.2.2 hB) (Nat.not_le.mpr hr.2.2.2.2) hS1 (zin h1 h2) hdg (hk H locs cells slots lsA hS)
theorem zs_iastore (hX : zCtx p R s m args meth c B D i) {h : Nat} {j x : Int} (hdg : decode (zB i) pc = .ok (.iastore, 1)) (hkd : zk w h = zNC) (h1 : 0 ≤ zN j) (h2 : zN j < zl w h) (hk : zG p l e R s m args below meth c Q B b D S0 i (pc + 1) ls st (zsa w h (zN j).toNat x)) : zG p l e R s m args below meth c Q B b D S0 i pc ls (.inl x :: .inl j :: .inr (some h) :: st) w := by
  obtain ⟨hx, hb, hml, hown, hts, hni, hK, hB, hnm, hfr, hlo⟩ := hX
  intro H locs cells slots lsA hS
  obtain ⟨cA, hr, hS1, hc, hs, hll, hl⟩ := id hS
  have hz := zNC_lt
  obtain ⟨g, rfl, hg⟩ := hr.1.at (h := h) (by omega) (by omega)
  have hae := hr.2.2.1 g hg (by omega)
  rw [hkd, zty0] at hae
  have hK1 := zK1 hK hae
  have he : (zws B b cA w)[g]? = some (B + g, .inl (cA (g + 1), zl w (g + 1), .inl (fun j => zI (za w (g + 1) j)))) := by rw [zws_get hg, zE_arr (by omega) (by omega)]
  refine va_iast hx hb hK1 hr.2.1 (zws_D B b cA w) hS1 g 0 he rfl (zin h1 h2) hdg (fun H1 locs1 hP1 _ hS2 => ?_)
  exact hk H1 locs1 cells slots lsA ⟨cA, zRel_store hr hB hS1 hS2 hP1 rfl (zE_sa_eq (by omega) (by omega)) (fun _ hq => zE_sa_ne hq) (fun _ => zsa_old (Nat.succ_ne_zero g).symm), hS2, hc, hs, hll, hl⟩
theorem zs_bastore (hX : zCtx p R s m args meth c B D i) {h : Nat} {j x : Int} (hdg : decode (zB i) pc = .ok (.bastore, 1)) (hkd : zk w h = zNC + 1) (h1 : 0 ≤ zN j) (h2 : zN j < zl w h) (hx1 : zN x = 0 ∨ zN x = 1) (hk : zG p l e R s m args below meth c Q B b D S0 i (pc + 1) ls st (zsa w h (zN j).toNat x)) : zG p l e R s m args below meth c Q B b D S0 i pc ls (.inl x :: .inl j :: .inr (some h) :: st) w := by
  obtain ⟨hx, hb, hml, hown, hts, hni, hK, hB, hnm, hfr, hlo⟩ := hX
  intro H locs cells slots lsA hS
  obtain ⟨cA, hr, hS1, hc, hs, hll, hl⟩ := id hS
  have hz := zNC_lt
  obtain ⟨g, rfl, hg⟩ := hr.1.at (h := h) (by omega) (by omega)
  have hae := hr.2.2.1 g hg (by omega)
  rw [hkd, zty1] at hae
  have hK1 := zK1 hK hae
  have he : (zws B b cA w)[g]? = some (B + g, .inl (cA (g + 1), zl w (g + 1), .inl (fun j => zI (za w (g + 1) j)))) := by rw [zws_get hg, zE_arr (by omega) (by omega)]
  have e1 : vp_nar .boolean (zI x) = zI x := by rcases zbool hx1 with h | h <;> rw [h] <;> rfl
  refine va_zast hx hb hK1 hr.2.1 (zws_D B b cA w) hS1 g 0 he rfl (zin h1 h2) hdg (fun H1 locs1 hP1 _ hS2 => ?_)
  rw [e1] at hP1
  exact hk H1 locs1 cells slots lsA ⟨cA, zRel_store hr hB hS1 hS2 hP1 rfl (zE_sa_eq (by omega) (by omega)) (fun _ hq => zE_sa_ne hq) (fun _ => zsa_old (Nat.succ_ne_zero g).symm), hS2, hc, hs, hll, hl⟩
theorem zs_aaload (hX : zCtx p R s m args meth c B D i) {h : Nat} {j : Int} (hdg : decode (zB i) pc = .ok (.aaload, 1)) (hk1 : zNC + 2 < zk w h) (hk2 : zk w h < 1000) (h1 : 0 ≤ zN j) (h2 : zN j < zl w h) (hk : zG p l e R s m args below meth c Q B b D S0 i (pc + 1) ls (.inr (zb w h (zN j).toNat) :: st) w) : zG p l e R s m args below meth c Q B b D S0 i pc ls (.inl j :: .inr (some h) :: st) w := by
  obtain ⟨hx, hb, hml, hown, hts, hni, hK, hB, hnm, hfr, hlo⟩ := hX
  intro H locs cells slots lsA hS
  obtain ⟨cA, hr, hS1, hc, hs, hll, hl⟩ := id hS
  have hz := zNC_lt
  obtain ⟨g, rfl, hg⟩ := hr.1.at (h := h) (by omega) (by omega)
  have hae := hr.2.2.1 g hg (by omega)
  obtain ⟨E, hE⟩ : ∃ E, zty (zk w (g + 1)) = .object E := ⟨_, by unfold zty; rw [if_neg (by omega), if_neg (by omega)]⟩
  rw [hE] at hae
  have hK1 := zK1 hK hae
  have he : (zws B b cA w)[g]? = some (B + g, .inl (cA (g + 1), zl w (g + 1), .inr (.inr (.inr (.inr (fun j => zrv B b (zb w (g + 1) j))))))) := by rw [zws_get hg, zE_ref (by omega)]
  exact va_aldq hx hb hK1 hr.2.1 g 0 he rfl (zin h1 h2) hdg (hk H locs cells slots lsA hS)
theorem zs_aastore0 (hX : zCtx p R s m args meth c B D i) {h : Nat} {j : Int} (hdg : decode (zB i) pc = .ok (.aastore, 1)) (hk1 : zNC + 2 < zk w h) (hk2 : zk w h < 1000) (h1 : 0 ≤ zN j) (h2 : zN j < zl w h) (hk : zG p l e R s m args below meth c Q B b D S0 i (pc + 1) ls st (zsb w h (zN j).toNat none)) : zG p l e R s m args below meth c Q B b D S0 i pc ls (.inr none :: .inl j :: .inr (some h) :: st) w := by
  obtain ⟨hx, hb, hml, hown, hts, hni, hK, hB, hnm, hfr, hlo⟩ := hX
  intro H locs cells slots lsA hS
  obtain ⟨cA, hr, hS1, hc, hs, hll, hl⟩ := id hS
  have hz := zNC_lt
  obtain ⟨g, rfl, hg⟩ := hr.1.at (h := h) (by omega) (by omega)
  have hae := hr.2.2.1 g hg (by omega)
  obtain ⟨E, hE⟩ : ∃ E, zty (zk w (g + 1)) = .object E := ⟨_, by unfold zty; rw [if_neg (by omega), if_neg (by omega)]⟩
  rw [hE] at hae
  have hK1 := zK1 hK hae
  have he : (zws B b cA w)[g]? = some (B + g, .inl (cA (g + 1), zl w (g + 1), .inr (.inr (.inr (.inr (fun j => zrv B b (zb w (g + 1) j))))))) := by rw [zws_get hg, zE_ref (by omega)]
  exact va_astqN hx hb hK1 hr.2.1 (zws_D B b cA w) hS1 g 0 he rfl (zin h1 h2) hdg (fun H1 locs1 hP1 _ hS2 => hk H1 locs1 cells slots lsA ⟨cA, zRel_store hr hB hS1 hS2 hP1 rfl (zE_sb_eq (by omega)) (fun _ hq => zE_sb_ne hq) (fun _ => rfl), hS2, hc, hs, hll, hl⟩)
theorem zs_aastore1 (hX : zCtx p R s m args meth c B D i) {h v : Nat} {j : Int} (hdg : decode (zB i) pc = .ok (.aastore, 1)) (hk1 : zNC + 2 < zk w h) (hk2 : zk w h < 1000) (h1 : 0 ≤ zN j) (h2 : zN j < zl w h) (has : zAS (zk w h) (zk w v) = true) (hk : zG p l e R s m args below meth c Q B b D S0 i (pc + 1) ls st (zsb w h (zN j).toNat (some v))) : zG p l e R s m args below meth c Q B b D S0 i pc ls (.inr (some v) :: .inl j :: .inr (some h) :: st) w := by
  obtain ⟨hx, hb, hml, hown, hts, hni, hK, hB, hnm, hfr, hlo⟩ := hX
  intro H locs cells slots lsA hS
  obtain ⟨cA, hr, hS1, hc, hs, hll, hl⟩ := id hS
  have hz := zNC_lt
  obtain ⟨g, rfl, hg⟩ := hr.1.at (h := h) (by omega) (by omega)
  have hae := hr.2.2.1 g hg (by omega)
  obtain ⟨E, hE⟩ : ∃ E, zty (zk w (g + 1)) = .object E := ⟨_, by unfold zty; rw [if_neg (by omega), if_neg (by omega)]⟩
  rw [hE] at hae
  have hK1 := zK1 hK hae
  have he : (zws B b cA w)[g]? = some (B + g, .inl (cA (g + 1), zl w (g + 1), .inr (.inr (.inr (.inr (fun j => zrv B b (zb w (g + 1) j))))))) := by rw [zws_get hg, zE_ref (by omega)]
  obtain ⟨r, E2, hcl, hcN, hE2, hor⟩ := zASok has
  have hEE : E = E2 := by rw [hE] at hE2; exact FieldType.object.inj hE2
  subst hEE
  obtain ⟨gv, rfl, hgv⟩ := hr.1.at (h := v) (by omega) (by omega)
  have hev : (zws B b cA w)[gv]? = some (B + gv, .inr (zk w (gv + 1), (zF (zk w (gv + 1))).map (zfv B b w (gv + 1)))) := by rw [zws_get hgv, zE_obj hcN]
  rcases hor with rfl | hor
  · exact va_astq (r := r) hx hb hK1 hr.2.1 (zws_D B b cA w) hS1 g 0 gv _ he rfl hev hcl (zin h1 h2) hdg (fun H1 locs1 hP1 _ hS2 => hk H1 locs1 cells slots lsA ⟨cA, zRel_store hr hB hS1 hS2 hP1 rfl (zE_sb_eq (by omega)) (fun _ hq => zE_sb_ne hq) (fun _ => rfl), hS2, hc, hs, hll, hl⟩)
  · exact va_astqO (r := r) hx hb hK1 hr.2.1 (zws_D B b cA w) hS1 g 0 gv _ he rfl (hni.2.2.2.1 _ hor) hev hcl (zin h1 h2) hdg (fun H1 locs1 hP1 _ hS2 => hk H1 locs1 cells slots lsA ⟨cA, zRel_store hr hB hS1 hS2 hP1 rfl (zE_sb_eq (by omega)) (fun _ hq => zE_sb_ne hq) (fun _ => rfl), hS2, hc, hs, hll, hl⟩)
theorem zs_alen (hX : zCtx p R s m args meth c B D i) {h : Nat} (hdg : decode (zB i) pc = .ok (.arraylength, 1)) (hk1 : zNC ≤ zk w h) (hk2 : zk w h < 1000) (hk : zG p l e R s m args below meth c Q B b D S0 i (pc + 1) ls (.inl (zl w h : Int) :: st) w) : zG p l e R s m args below meth c Q B b D S0 i pc ls (.inr (some h) :: st) w := by
  obtain ⟨hx, hb, hml, hown, hts, hni, hK, hB, hnm, hfr, hlo⟩ := hX
  intro H locs cells slots lsA hS
  obtain ⟨cA, hr, hS1, hc, hs, hll, hl⟩ := id hS
  have hk := hk H locs cells slots lsA hS
  have e1 : zcv B b (.inl (zl w h : Int)) = .int (Int32.ofNat (zl w h)) := congrArg Value.int (zof_nat _)
  rw [List.map_cons, e1] at hk
  by_cases hkd : zk w h = zNC + 2
  · have h0 : h = 0 := by
      cases h with
      | zero => rfl
      | succ g => exact absurd hkd (hr.1.2.2 (g + 1) (Nat.succ_pos g))
    subst h0
    exact va_slen hx hb (zX_start hr.2.2.2.1 hr.2.2.2.2 hB hS1) (Nat.lt_of_lt_of_le hr.2.2.2.2 hB) (Nat.not_le.mpr hr.2.2.2.2) hS1 hdg hk
  · obtain ⟨g, rfl, hg⟩ := hr.1.at (h := h) (by omega) hkd
    have hK1 := zK1 hK (hr.2.2.1 g hg hk1)
    by_cases hk3 : zk w (g + 1) < zNC + 3
    · have he : (zws B b cA w)[g]? = some (B + g, .inl (cA (g + 1), zl w (g + 1), .inl (fun j => zI (za w (g + 1) j)))) := by rw [zws_get hg, zE_arr (by omega) hk3]
      exact va_alen hx hb hK1 hr.2.1 g 0 he rfl rfl hdg hk
    · have he : (zws B b cA w)[g]? = some (B + g, .inl (cA (g + 1), zl w (g + 1), .inr (.inr (.inr (.inr (fun j => zrv B b (zb w (g + 1) j))))))) := by rw [zws_get hg, zE_ref hk3]
      exact va_alen hx hb hK1 hr.2.1 g 0 he rfl rfl hdg hk
theorem zq_eq {B b : Nat} {D : va_G} {cA : Nat → ClassId} {w : zW} {H1 : Heap} {q : Nat} {e : va_E} (hP : va_P D zCl (zws B b cA w ++ [(q, e)]) H1) (hD : va_D (fun q => B ≤ q) (zws B b cA w ++ [(q, e)])) (hup : H1.size ≤ B + zn w + 1) : q = B + zn w := by
  have h1 : (zws B b cA w ++ [(q, e)])[zn w]? = some (q, e) := by
    rw [List.getElem?_append_right (by rw [zws_len]; exact Nat.le_refl _), zws_len, Nat.sub_self]
    rfl
  have h2 : q < H1.size := (hP _ _ h1).lt
  have h3 : B ≤ q := hD.2 _ _ h1
  by_cases h4 : q < B + zn w
  · have h5 : (zws B b cA w ++ [(q, e)])[q - B]? = some (B + (q - B), zE B b cA w (q - B + 1)) := by
      rw [List.getElem?_append_left (by rw [zws_len]; omega), zws_get (by omega)]
    have h6 := hD.1 _ _ _ _ h5 h1 (by show B + (q - B) = q; omega)
    omega
  · omega
theorem zWF_new {w : zW} {k n : Nat} (hw : zWF w) (hk : k ≠ zNC + 2) : zWF (znew w k n) := by
  refine ⟨?_, fun h hh => ?_, fun h hh => ?_⟩
  · show (if 0 = zn w + 1 then k else zk w 0) = _
    rw [if_neg (by omega)]
    exact hw.1
  · have hh : zn w + 1 < h := hh
    show (if h = zn w + 1 then k else zk w h) = _
    rw [if_neg (by omega)]
    exact hw.2.1 h (by omega)
  · show (if h = zn w + 1 then k else zk w h) ≠ _
    by_cases h1 : h = zn w + 1
    · rw [if_pos h1]; exact hk
    · rw [if_neg h1]; exact hw.2.2 h hh
theorem zRel_new {B b : Nat} {D : va_G} {cA : Nat → ClassId} {w : zW} {s : State} {H H1 : Heap} {locs locs1 : List Loc} {k n : Nat} {cN : ClassId} {e : va_E} (hr : zRel B b D cA w s H) (hB : B ≤ s.heap.size) (hS1 : va_S (fun q => B ≤ q) s.heap H locs) (hS2 : va_S (fun q => B ≤ q) s.heap H1 locs1)
    (hk : k ≠ zNC + 2) (hP : va_P D zCl (zws B b cA w ++ [(B + zn w, e)]) H1) (he : zE B b (fun h => if h = zn w + 1 then cN else cA h) (znew w k n) (zn w + 1) = e) (ha : zNC ≤ k → ArrOfT s cN (zty k) ∧ va_RA s cN (zty k)) :
    zRel B b D (fun h => if h = zn w + 1 then cN else cA h) (znew w k n) s H1 := by
  obtain ⟨h1, h2, h3, h4, h5⟩ := hr
  have hkn : ∀ g, g ≠ zn w + 1 → zk (znew w k n) g = zk w g := fun g hg => if_neg hg
  have hks : zk (znew w k n) (zn w + 1) = k := if_pos rfl
  refine ⟨zWF_new h1 hk, ?_, fun g hg hkg => ?_, ?_, h5⟩
  · rw [← zws_app (cA := cA) (w := w) rfl he (fun g hg => ?_)]
    · exact hP
    · have hne : g ≠ zn w + 1 := by omega
      refine zE_congr (if_neg hne) (if_neg hne) (fun q => ?_) (fun j => if_neg hne) (fun j => if_neg hne) (if_neg hne)
      have e1 : zf (znew w k n) q.1 g = zf w q.1 g := if_neg hne
      have e2 : zp (znew w k n) q.1 g = zp w q.1 g := if_neg hne
      unfold zfv
      rw [e1, e2]
  · have hg : g < zn w + 1 := hg
    by_cases hgn : g = zn w
    · subst hgn
      rw [hks] at hkg ⊢
      simp only [if_true]
      exact ha hkg
    · have hne : g + 1 ≠ zn w + 1 := by omega
      rw [hkn _ hne] at hkg ⊢
      simp only [hne, if_false]
      exact h3 g (by omega) hkg
  · have h0 : (0 : Nat) ≠ zn w + 1 := (Nat.succ_ne_zero _).symm
    have e1 : zl (znew w k n) 0 = zl w 0 := by show (if 0 = zn w + 1 then n else zl w 0) = zl w 0; rw [if_neg h0]
    have e2 : (fun j => zI (za (znew w k n) 0 j)) = fun j => zI (za w 0 j) := funext fun j => congrArg zI (by show (if 0 = zn w + 1 then 0 else za w 0 j) = za w 0 j; rw [if_neg h0])
    rw [e1, e2]
    exact zX_keep h4 h5 hB hS1 hS2
theorem zE_new_obj {B b : Nat} {cA : Nat → ClassId} {w : zW} {k n : Nat} (hk : k < zNC) : zE B b cA (znew w k n) (zn w + 1) = .inr (k, (zF k).map zdf) := by
  have hks : zk (znew w k n) (zn w + 1) = k := if_pos rfl
  rw [zE_obj (by rw [hks]; exact hk), hks]
  refine congrArg (fun f => Sum.inr (k, (zF k).map f)) (funext fun q => ?_)
  have e1 : zf (znew w k n) q.1 (zn w + 1) = 0 := if_pos rfl
  have e2 : zp (znew w k n) q.1 (zn w + 1) = none := if_pos rfl
  unfold zfv zdf
  rw [e1, e2]
  rfl
theorem zE_new_arr {B b : Nat} {cA : Nat → ClassId} {w : zW} {k n : Nat} (hk : ¬ k < zNC) (hk2 : k < zNC + 3) : zE B b cA (znew w k n) (zn w + 1) = .inl (cA (zn w + 1), n, .inl (fun _ => 0)) := by
  have hks : zk (znew w k n) (zn w + 1) = k := if_pos rfl
  have hls : zl (znew w k n) (zn w + 1) = n := if_pos rfl
  rw [zE_arr (by rw [hks]; exact hk) (by rw [hks]; exact hk2), hls]
  refine congrArg (fun f => Sum.inl (cA (zn w + 1), n, Sum.inl f)) (funext fun j => ?_)
  have e1 : za (znew w k n) (zn w + 1) j = 0 := if_pos rfl
  rw [e1]
  rfl
theorem zE_new_ref {B b : Nat} {cA : Nat → ClassId} {w : zW} {k n : Nat} (hk : ¬ k < zNC + 3) : zE B b cA (znew w k n) (zn w + 1) = .inl (cA (zn w + 1), n, .inr (.inr (.inr (.inr (fun _ => none))))) := by
  have hks : zk (znew w k n) (zn w + 1) = k := if_pos rfl
  have hls : zl (znew w k n) (zn w + 1) = n := if_pos rfl
  rw [zE_ref (by rw [hks]; exact hk), hls]
  refine congrArg (fun f => Sum.inl (cA (zn w + 1), n, Sum.inr (Sum.inr (Sum.inr (Sum.inr f))))) (funext fun j => ?_)
  have e1 : zb (znew w k n) (zn w + 1) j = none := if_pos rfl
  rw [e1]
  rfl
theorem zRel_clone {B b : Nat} {D : va_G} {cA : Nat → ClassId} {w : zW} {s : State} {H H1 : Heap} {locs locs1 : List Loc} {h : Nat} {cN : ClassId} {e : va_E} (hr : zRel B b D cA w s H) (hB : B ≤ s.heap.size) (hS1 : va_S (fun q => B ≤ q) s.heap H locs) (hS2 : va_S (fun q => B ≤ q) s.heap H1 locs1)
    (hP : va_P D zCl (zws B b cA w ++ [(B + zn w, e)]) H1) (he : zE B b (fun h => if h = zn w + 1 then cN else cA h) (zclone w h) (zn w + 1) = e) (ha : ArrOfT s cN .int ∧ va_RA s cN .int) :
    zRel B b D (fun h => if h = zn w + 1 then cN else cA h) (zclone w h) s H1 := by
  obtain ⟨h1, h2, h3, h4, h5⟩ := hr
  have hz := zNC_lt
  have hkn : ∀ g, g ≠ zn w + 1 → zk (zclone w h) g = zk w g := fun g hg => if_neg hg
  have hks : zk (zclone w h) (zn w + 1) = zNC := if_pos rfl
  refine ⟨zWF_shape (w := znew w zNC (zl w h)) rfl (zWF_new h1 (by omega)), ?_, fun g hg hkg => ?_, ?_, h5⟩
  · rw [← zws_app (cA := cA) (w := w) rfl he (fun g hg => ?_)]
    · exact hP
    · have hne : g ≠ zn w + 1 := by omega
      refine zE_congr (if_neg hne) (if_neg hne) (fun q => ?_) (fun j => if_neg hne) (fun j => if_neg hne) (if_neg hne)
      have e1 : zf (zclone w h) q.1 g = zf w q.1 g := if_neg hne
      have e2 : zp (zclone w h) q.1 g = zp w q.1 g := if_neg hne
      unfold zfv
      rw [e1, e2]
  · have hg : g < zn w + 1 := hg
    by_cases hgn : g = zn w
    · subst hgn
      rw [hks] at hkg ⊢
      simp only [if_true]
      exact ha
    · have hne : g + 1 ≠ zn w + 1 := by omega
      rw [hkn _ hne] at hkg ⊢
      simp only [hne, if_false]
      exact h3 g (by omega) hkg
  · have h0 : (0 : Nat) ≠ zn w + 1 := (Nat.succ_ne_zero _).symm
    have e1 : zl (zclone w h) 0 = zl w 0 := by show (if 0 = zn w + 1 then zl w h else zl w 0) = zl w 0; rw [if_neg h0]
    have e2 : (fun j => zI (za (zclone w h) 0 j)) = fun j => zI (za w 0 j) := funext fun j => congrArg zI (by show (if 0 = zn w + 1 then za w h j else za w 0 j) = za w 0 j; rw [if_neg h0])
    rw [e1, e2]
    exact zX_keep h4 h5 hB hS1 hS2
theorem zE_clone {B b : Nat} {cA : Nat → ClassId} {w : zW} {h : Nat} : zE B b cA (zclone w h) (zn w + 1) = .inl (cA (zn w + 1), zl w h, .inl (fun j => zI (za w h j))) := by
  have hz := zNC_lt
  have hks : zk (zclone w h) (zn w + 1) = zNC := if_pos rfl
  have hls : zl (zclone w h) (zn w + 1) = zl w h := if_pos rfl
  rw [zE_arr (by rw [hks]; omega) (by rw [hks]; omega), hls]
  refine congrArg (fun f => Sum.inl (cA (zn w + 1), zl w h, Sum.inl f)) (funext fun j => ?_)
  have e1 : za (zclone w h) (zn w + 1) j = za w h j := if_pos rfl
  rw [e1]
theorem zfit_int {cA : ClassId} {n : Nat} {f : Nat → Int32} (i : Nat) (v : Value) (hv : (vp_cell cA (n, .inl f)).slots[i]? = some v) : fits .int v = true := by
  obtain ⟨hlt, hval⟩ := Array.getElem?_eq_some_iff.mp hv
  subst hval
  have e1 : (vp_cell cA (n, .inl f)).slots = Array.ofFn (n := n) fun j => Value.int (f j.val) := rfl
  simp only [e1, Array.getElem_ofFn]
  rfl
theorem zs_new (hX : zCtx p R s m args meth c B D i) {ix k n : Nat} (hdg : decode (zB i) pc = .ok (.new ix, 3)) (hOK : zNok (zY i).cls ix (k, n)) (hrc : B + (zn w + 1) ≤ s.heap.size + R.cells) (hrs : zsl w + n ≤ S0 + R.slots) (hk : zG p l e R s m args below meth c Q B b D S0 i (pc + 3) ls (.inr (some (zn w + 1)) :: st) (znew w k n)) : zG p l e R s m args below meth c Q B b D S0 i pc ls st w := by
  obtain ⟨hx, hb, hml, hown, hts, hni, hK, hB, hnm, hfr, hlo⟩ := hX
  intro H locs cells slots lsA hS
  obtain ⟨cA, hr, hS1, hc, hs, hll, hl⟩ := id hS
  obtain ⟨C, TT, N, ty, ⟨hcl, hcN, hlen, hin, hty, hnmd, htag, hnd, hdf⟩, hn, hlk, hins, hini⟩ := hOK
  have hcN : k < zNC := hcN
  have hn : n = N := hn
  subst hn
  have hz := zNC_lt
  refine va_new hx hb hts hin ty hty hown (hts _ hlk) (hts _ hins) (hts _ hini) hK hr.2.1 (zws_D B b cA w) hS1 (fun q hq => Nat.le_trans hB hq) hcl hdf (by omega) (by omega) hdg (fun q H1 hP1 hD1 hS2 => ?_)
  intro T hT XX
  have hup := XX.heapSize
  rw [hT] at hup
  have hq := zq_eq hP1 hD1 (by omega)
  subst hq
  refine hk H1 locs (cells + 1) (slots + n) lsA ⟨fun h => if h = zn w + 1 then 0 else cA h, zRel_new hr hB hS1 hS2 (by omega) hP1 (zE_new_obj hcN) (fun h => absurd hcN (Nat.not_lt.mpr h)), hS2, ?_, ?_, hll, hl⟩ T hT XX
  · show s.heap.size + (cells + 1) = B + (zn w + 1)
    omega
  · show S0 + (slots + n) = zsl w + n
    omega
theorem zs_newi (hX : zCtx p R s m args meth c B D i) {x : Int} (hdg : decode (zB i) pc = .ok (.newarray .int, 2)) (h1 : 0 ≤ zN x) (h2 : zN x ≤ 1000000) (hac : Cond.arrayClass .int ∈ zGW) (hrc : B + (zn w + 1) ≤ s.heap.size + R.cells) (hrs : zsl w + (zN x).toNat ≤ S0 + R.slots) (hk : zG p l e R s m args below meth c Q B b D S0 i (pc + 2) ls (.inr (some (zn w + 1)) :: st) (znew w (zNC) (zN x).toNat)) : zG p l e R s m args below meth c Q B b D S0 i pc ls (.inl x :: st) w := by
  obtain ⟨hx, hb, hml, hown, hts, hni, hK, hB, hnm, hfr, hlo⟩ := hX
  intro H locs cells slots lsA hS
  obtain ⟨cA, hr, hS1, hc, hs, hll, hl⟩ := id hS
  have hz := zNC_lt
  refine va_newa (atype := .int) (ty := .int) (a0 := ((zN x).toNat, .inl (fun _ => 0))) hx hb (hts _ hac) rfl hK hr.2.1 (zws_D B b cA w) hS1 (fun q hq => Nat.le_trans hB hq) (fun _ => rfl) (fun h => by rw [zI_lt0] at h; omega) (zclamp x) (by show (zN x).toNat * 4 ≤ 536870912; omega) (by omega) (by omega) hdg (fun q cN H1 hK1 hP1 hD1 hS2 => ?_)
  have hae : ArrOfT s cN (zty (zNC)) ∧ va_RA s cN (zty (zNC)) := by rw [zty0]; exact hK1.2 0 (cN, .int) rfl
  intro T hT XX
  have hup := XX.heapSize
  rw [hT] at hup
  have hq := zq_eq hP1 hD1 (by omega)
  subst hq
  refine hk H1 locs (cells + 1) (slots + (zN x).toNat) lsA ⟨fun h => if h = zn w + 1 then cN else cA h, zRel_new hr hB hS1 hS2 (by omega) hP1 ((zE_new_arr (by omega) (by omega)).trans (by simp only [if_true])) (fun _ => hae), hS2, ?_, ?_, hll, hl⟩ T hT XX
  · show s.heap.size + (cells + 1) = B + (zn w + 1)
    omega
  · show S0 + (slots + (zN x).toNat) = zsl w + (zN x).toNat
    omega
theorem zs_newz (hX : zCtx p R s m args meth c B D i) {x : Int} (hdg : decode (zB i) pc = .ok (.newarray .boolean, 2)) (h1 : 0 ≤ zN x) (h2 : zN x ≤ 1000000) (hac : Cond.arrayClass .boolean ∈ zGW) (hrc : B + (zn w + 1) ≤ s.heap.size + R.cells) (hrs : zsl w + (zN x).toNat ≤ S0 + R.slots) (hk : zG p l e R s m args below meth c Q B b D S0 i (pc + 2) ls (.inr (some (zn w + 1)) :: st) (znew w (zNC + 1) (zN x).toNat)) : zG p l e R s m args below meth c Q B b D S0 i pc ls (.inl x :: st) w := by
  obtain ⟨hx, hb, hml, hown, hts, hni, hK, hB, hnm, hfr, hlo⟩ := hX
  intro H locs cells slots lsA hS
  obtain ⟨cA, hr, hS1, hc, hs, hll, hl⟩ := id hS
  have hz := zNC_lt
  refine va_newa (atype := .boolean) (ty := .boolean) (a0 := ((zN x).toNat, .inl (fun _ => 0))) hx hb (hts _ hac) rfl hK hr.2.1 (zws_D B b cA w) hS1 (fun q hq => Nat.le_trans hB hq) (fun _ => rfl) (fun h => by rw [zI_lt0] at h; omega) (zclamp x) (by show (zN x).toNat * 1 ≤ 536870912; omega) (by omega) (by omega) hdg (fun q cN H1 hK1 hP1 hD1 hS2 => ?_)
  have hae : ArrOfT s cN (zty (zNC + 1)) ∧ va_RA s cN (zty (zNC + 1)) := by rw [zty1]; exact hK1.2 0 (cN, .boolean) rfl
  intro T hT XX
  have hup := XX.heapSize
  rw [hT] at hup
  have hq := zq_eq hP1 hD1 (by omega)
  subst hq
  refine hk H1 locs (cells + 1) (slots + (zN x).toNat) lsA ⟨fun h => if h = zn w + 1 then cN else cA h, zRel_new hr hB hS1 hS2 (by omega) hP1 ((zE_new_arr (by omega) (by omega)).trans (by simp only [if_true])) (fun _ => hae), hS2, ?_, ?_, hll, hl⟩ T hT XX
  · show s.heap.size + (cells + 1) = B + (zn w + 1)
    omega
  · show S0 + (slots + (zN x).toNat) = zsl w + (zN x).toNat
    omega
theorem zs_newq (hX : zCtx p R s m args meth c B D i) {ix k : Nat} {x : Int} {n : Nat} (hdg : decode (zB i) pc = .ok (.anewarray ix, 3)) (hOK : zAok (zY i).cls ix (k, n)) (h1 : 0 ≤ zN x) (h2 : zN x ≤ 1000000) (hrc : B + (zn w + 1) ≤ s.heap.size + R.cells) (hrs : zsl w + (zN x).toNat ≤ S0 + R.slots) (hk : zG p l e R s m args below meth c Q B b D S0 i (pc + 3) ls (.inr (some (zn w + 1)) :: st) (znew w k (zN x).toNat)) : zG p l e R s m args below meth c Q B b D S0 i pc ls (.inl x :: st) w := by
  obtain ⟨hx, hb, hml, hown, hts, hni, hK, hB, hnm, hfr, hlo⟩ := hX
  intro H locs cells slots lsA hS
  obtain ⟨cA, hr, hS1, hc, hs, hll, hl⟩ := id hS
  obtain ⟨C, hk3, hk4, hz1, hlk, hel⟩ := hOK
  have hk3 : ¬ k < zNC + 3 := hk3
  have hz1 : zty k = .object C := hz1
  have hz := zNC_lt
  refine va_newq hx hb hown (hts _ hlk) (hni.2.2.2.2 C hel) hK hr.2.1 (zws_D B b cA w) hS1 (fun q hq => Nat.le_trans hB hq) (fun h => by rw [zI_lt0] at h; omega) (zclamp x) (by omega) (by omega) (by omega) hdg (fun q cN H1 hK1 hP1 hD1 hS2 => ?_)
  have hae : ArrOfT s cN (zty k) ∧ va_RA s cN (zty k) := by rw [hz1]; exact hK1.2 0 (cN, .object C) rfl
  intro T hT XX
  have hup := XX.heapSize
  rw [hT] at hup
  have hq := zq_eq hP1 hD1 (by omega)
  subst hq
  refine hk H1 locs (cells + 1) (slots + (zN x).toNat) lsA ⟨fun h => if h = zn w + 1 then cN else cA h, zRel_new hr hB hS1 hS2 (by omega) hP1 ((zE_new_ref hk3).trans (by simp only [if_true])) (fun _ => hae), hS2, ?_, ?_, hll, hl⟩ T hT XX
  · show s.heap.size + (cells + 1) = B + (zn w + 1)
    omega
  · show S0 + (slots + (zN x).toNat) = zsl w + (zN x).toNat
    omega
theorem zs_copy (hX : zCtx p R s m args meth c B D i) {ix h g : Nat} {sp dp n : Int} (hdg : decode (zB i) pc = .ok (.invokestatic ix, 3)) (hlf : zleaf i = true) (hw : Cond.methodLink (zY i).cls ix arraycopyName ∈ zGW ∧ Cond.native arraycopyName ∈ zGW ∧ Cond.static arraycopyName ∈ zGW ∧ Cond.initialized "java/lang/System" ∈ zGW) (hh : zk w h = zNC) (hkd : zk w g = zNC) (h1 : 0 ≤ zN sp) (h2 : 0 ≤ zN dp) (h3 : 0 ≤ zN n) (h4 : zN sp + zN n ≤ zl w h) (h5 : zN dp + zN n ≤ zl w g) (h6 : st.length ≤ 8) (hk : zG p l e R s m args below meth c Q B b D S0 i (pc + 3) ls st (zcp w h (zN sp).toNat g (zN dp).toNat (zN n).toNat)) : zG p l e R s m args below meth c Q B b D S0 i pc ls (.inl n :: .inl dp :: .inr (some g) :: .inl sp :: .inr (some h) :: st) w := by
  obtain ⟨hx, hb, hml, hown, hts, hni, hK, hB, hnm, hfr, hlo⟩ := hX
  intro H locs cells slots lsA hS
  obtain ⟨cA, hr, hS1, hc, hs, hll, hl⟩ := id hS
  have hz := zNC_lt
  obtain ⟨u, rfl, hu⟩ := hr.1.at (h := h) (by omega) (by omega)
  obtain ⟨v, rfl, hv⟩ := hr.1.at (h := g) (by omega) (by omega)
  have hau := hr.2.2.1 u hu (by omega)
  have hav := hr.2.2.1 v hv (by omega)
  rw [hh, zty0] at hau
  rw [hkd, zty0] at hav
  have hK1 := zK2 hK hau hav
  have heu : (zws B b cA w)[u]? = some (B + u, .inl (cA (u + 1), zl w (u + 1), .inl (fun j => zI (za w (u + 1) j)))) := by rw [zws_get hu, zE_arr (by omega) (by omega)]
  have hev : (zws B b cA w)[v]? = some (B + v, .inl (cA (v + 1), zl w (v + 1), .inl (fun j => zI (za w (v + 1) j)))) := by rw [zws_get hv, zE_arr (by omega) (by omega)]
  have hlf1 : 1 ≤ zFr i ∧ 40 ≤ zLo i := by
    unfold zleaf at hlf
    simpa using hlf
  have hcat := zcat B b st
  refine va_copyi hx hb (by rw [hml]; exact hl.1.symm) hown (hts _ hw.1) (hts _ hw.2.1) (hts _ hw.2.2.1) (hts _ hw.2.2.2) hK1 hr.2.1 (zws_D B b cA w) hS1 u v 0 1 heu hev rfl rfl rfl (fun h => by rw [zI_lt0] at h; omega) (fun h => by rw [zI_lt0] at h; omega) (fun h => by rw [zI_lt0] at h; omega) (by rw [zclamp, zclamp]; omega) (by rw [zclamp, zclamp]; omega) (fun _ _ => rfl) (by omega) ?_ hdg (fun H1 locs1 hP1 _ hS2 => ?_)
  · rw [hcat]
    have : nativeFrameWords "java/lang/System" "arraycopy" 5 = 7 := by decide
    omega
  · exact hk H1 locs1 cells slots lsA ⟨cA, zRel_store hr hB hS1 hS2 hP1 rfl (zE_cp_eq (by omega) (by omega)) (fun _ hq => zE_cp_ne hq) (fun _ => zcp_old (Nat.succ_ne_zero v).symm), hS2, hc, hs, hll, hl⟩
theorem zs_min (hX : zCtx p R s m args meth c B D i) {ix : Nat} {x y : Int} (hdg : decode (zB i) pc = .ok (.invokestatic ix, 3)) (hlf : zleaf i = true) (hw : Cond.methodLink (zY i).cls ix Lib.Math.min.name ∈ zGW ∧ Cond.static Lib.Math.min.name ∈ zGW ∧ Cond.initialized "java/lang/Math" ∈ zGW ∧ Cond.code Lib.Math.min.name Lib.Math.min.code 2 (some .int) ∈ zGW) (h6 : st.length ≤ 8) (hrc : B + zn w ≤ s.heap.size + R.cells) (hrs : zsl w ≤ S0 + R.slots) (hk : zG p l e R s m args below meth c Q B b D S0 i (pc + 3) ls (.inl (if zN y < zN x then y else x) :: st) w) : zG p l e R s m args below meth c Q B b D S0 i pc ls (.inl y :: .inl x :: st) w := by
  obtain ⟨hx, hb, hml, hown, hts, hni, hK, hB, hnm, hfr, hlo⟩ := hX
  intro H locs cells slots lsA hS
  obtain ⟨cA, hr, hS1, hc, hs, hll, hl⟩ := id hS
  have hlf1 : 1 ≤ zFr i ∧ 40 ≤ zLo i := by
    unfold zleaf at hlf
    simpa using hlf
  have hcat := zcat B b st
  have hk := hk H locs cells slots lsA hS
  have e1 : zcv B b (.inl (if zN y < zN x then y else x)) = .int (if zI y < zI x then zI y else zI x) := by
    by_cases h : zN y < zN x
    · rw [if_pos h, if_pos (zltI.mpr h)]; rfl
    · rw [if_neg h, if_neg (fun q => h (zltI.mp q))]; rfl
  rw [List.map_cons, e1] at hk
  exact va_mmin hx hb (by rw [hml]; exact hl.1.symm) hown (hts _ hw.1) (hts _ hw.2.1) (hts _ hw.2.2.1) (hts _ hw.2.2.2) (by omega) (by rw [hcat]; omega) (by omega) (by omega) hdg hk
theorem zs_objinit (hX : zCtx p R s m args meth c B D i) {ix h : Nat} (hdg : decode (zB i) pc = .ok (.invokespecial ix, 3)) (hlf : zleaf i = true) (hw : zOb (zY i).cls ix) (h6 : st.length ≤ 8) (hk : zG p l e R s m args below meth c Q B b D S0 i (pc + 3) ls st w) : zG p l e R s m args below meth c Q B b D S0 i pc ls (.inr (some h) :: st) w := by
  obtain ⟨hx, hb, hml, hown, hts, hni, hK, hB, hnm, hfr, hlo⟩ := hX
  intro H locs cells slots lsA hS
  obtain ⟨cA, hr, hS1, hc, hs, hll, hl⟩ := id hS
  have hlf1 : 1 ≤ zFr i ∧ 40 ≤ zLo i := by
    unfold zleaf at hlf
    simpa using hlf
  have hcat := zcat B b st
  refine W.objInit hx hb hown (hts _ hw.1) (hts _ hw.2.1) (hts _ hw.2.2) rfl (by rw [hml]; exact hl.1) (a := zad B b h) (rest := st.map (zcv B b)) rfl hdg (by omega) ?_ ?_
  · show 2 * 0 + _ + 12 ≤ _
    omega
  · exact hk H locs cells slots lsA hS
theorem zs_clone (hX : zCtx p R s m args meth c B D i) {ix h : Nat} (hdg : decode (zB i) pc = .ok (.invokevirtual ix, 3)) (hlf : zleaf i = true) (hw : zClw (zY i).cls ix) (hkd : zk w h = zNC) (h6 : st.length ≤ 8) (hrc : B + (zn w + 1) ≤ s.heap.size + R.cells) (hrs : zsl w + zl w h ≤ S0 + R.slots) (hk : zG p l e R s m args below meth c Q B b D S0 i (pc + 3) ls (.inr (some (zn w + 1)) :: st) (zclone w h)) : zG p l e R s m args below meth c Q B b D S0 i pc ls (.inr (some h) :: st) w := by
  obtain ⟨hx, hb, hml, hown, hts, hni, hK, hB, hnm, hfr, hlo⟩ := hX
  intro H locs cells slots lsA hS
  obtain ⟨cA, hr, hS1, hc, hs, hll, hl⟩ := id hS
  have hz := zNC_lt
  obtain ⟨g, rfl, hg⟩ := hr.1.at (h := h) (by omega) (by omega)
  have hae := hr.2.2.1 g hg (by omega)
  rw [hkd, zty0] at hae
  have hK1 := zK1 hK hae
  have he : (zws B b cA w)[g]? = some (B + g, .inl (cA (g + 1), zl w (g + 1), .inl (fun j => zI (za w (g + 1) j)))) := by rw [zws_get hg, zE_arr (by omega) (by omega)]
  have hlf1 : 1 ≤ zFr i ∧ 40 ≤ zLo i := by
    unfold zleaf at hlf
    simpa using hlf
  have hcat := zcat B b st
  have hnm2 : s.vm.findClass "[I" = some (cA (g + 1)) := by
    have h0 : s.vm.findClass ("[" ++ FieldType.int.toString) = some (cA (g + 1)) := hae.2
    rw [show "[" ++ FieldType.int.toString = "[I" by decide] at h0
    exact h0
  refine va_clone (ad := "[I") hx hb (by rw [hml]; exact hl.1.symm) hown (hts _ hw.1) (hts _ hw.2.1) (hts _ hw.2.2.1) (hts _ hw.2.2.2.1) (hts _ hw.2.2.2.2.1) (hni.2.2.2.1 _ hw.2.2.2.2.2) hK1 hr.2.1 (zws_D B b cA w) hS1 (fun q hq => Nat.le_trans hB hq) g 0 he rfl hnm2 (fun i v hv => zfit_int i v hv) (by omega) (by rw [hcat]; omega) (by omega) (by show slots + zl w (g + 1) ≤ R.slots; omega) hdg (fun q H1 hK2 hP1 hD1 hS2 => ?_)
  intro T hT XX
  have hup := XX.heapSize
  rw [hT] at hup
  have hq := zq_eq hP1 hD1 (by omega)
  subst hq
  refine hk H1 locs (cells + 1) (slots + zl w (g + 1)) lsA ⟨fun h => if h = zn w + 1 then cA (g + 1) else cA h, zRel_clone hr hB hS1 hS2 hP1 (zE_clone.trans (by simp only [if_true])) (hae), hS2, ?_, ?_, hll, hl⟩ T hT XX
  · show s.heap.size + (cells + 1) = B + (zn w + 1)
    omega
  · show S0 + (slots + zl w (g + 1)) = zsl w + zl w (g + 1)
    omega
theorem zs_cast (hX : zCtx p R s m args meth c B D i) {ix h : Nat} (hdg : decode (zB i) pc = .ok (.checkcast ix, 3)) (hw : Cond.classLink (zY i).cls ix "[I" ∈ zGW) (hkd : zk w h = zNC) (hk : zG p l e R s m args below meth c Q B b D S0 i (pc + 3) ls (.inr (some h) :: st) w) : zG p l e R s m args below meth c Q B b D S0 i pc ls (.inr (some h) :: st) w := by
  obtain ⟨hx, hb, hml, hown, hts, hni, hK, hB, hnm, hfr, hlo⟩ := hX
  intro H locs cells slots lsA hS
  obtain ⟨cA, hr, hS1, hc, hs, hll, hl⟩ := id hS
  have hz := zNC_lt
  obtain ⟨g, rfl, hg⟩ := hr.1.at (h := h) (by omega) (by omega)
  have hae := hr.2.2.1 g hg (by omega)
  rw [hkd, zty0] at hae
  have hK1 := zK1 hK hae
  have he : (zws B b cA w)[g]? = some (B + g, .inl (cA (g + 1), zl w (g + 1), .inl (fun j => zI (za w (g + 1) j)))) := by rw [zws_get hg, zE_arr (by omega) (by omega)]
  have hnm2 : s.vm.findClass "[I" = some (cA (g + 1)) := by
    have h0 : s.vm.findClass ("[" ++ FieldType.int.toString) = some (cA (g + 1)) := hae.2
    rw [show "[" ++ FieldType.int.toString = "[I" by decide] at h0
    exact h0
  exact va_castA hx hb hown (hts _ hw) hr.2.1 g he hnm2 hdg (hk H locs cells slots lsA hS)
end ZH
