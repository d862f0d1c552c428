-- rules of rewriting, an instruction each: laid by program
theorem zT_112_0 : zT 112 0 = some (.return_, 1, 0, []) := by decide +kernel
theorem zr_112_0 {l0 l1 l2 : Option zV} {w : zW} {Q : Option zV → zW → Prop} : zR 112 0 [l0, l1, l2] [] w Q = Q none w := zR_ret (zst zT_112_0 rfl)
theorem zT_113_0 : zT 113 0 = some (.aload_n 1, 1, 0, []) := by decide +kernel
theorem zr_113_0 {l0 l2 l3 : Option zV} {x : Option Nat} {st : List zV} {w : zW} {Q : Option zV → zW → Prop}  : zR 113 0 [l0, some (.inr x), l2, l3] st w Q = zR 113 1 [l0, some (.inr x), l2, l3] (.inr x :: st) w Q := zR_go (zst zT_113_0 rfl)
theorem zT_113_1 : zT 113 1 = some (.getfield 30, 3, 0, [(3, 0)]) := by decide +kernel
theorem zr_113_1 {l0 l1 l2 l3 : Option zV} {h : Nat} {st : List zV} {w : zW} {Q : Option zV → zW → Prop} (hk : zk w h = 3) : zR 113 1 [l0, l1, l2, l3] (.inr (some h) :: st) w Q = zR 113 4 [l0, l1, l2, l3] (.inl (zf w 26 h) :: st) w Q := zR_go (zst zT_113_1 (zget_i hk (Or.inl rfl)))
theorem zT_113_4 : zT 113 4 = some (.aload_n 0, 1, 0, []) := by decide +kernel
theorem zr_113_4 {l1 l2 l3 : Option zV} {x : Option Nat} {st : List zV} {w : zW} {Q : Option zV → zW → Prop}  : zR 113 4 [some (.inr x), l1, l2, l3] st w Q = zR 113 5 [some (.inr x), l1, l2, l3] (.inr x :: st) w Q := zR_go (zst zT_113_4 rfl)
theorem zT_113_5 : zT 113 5 = some (.getfield 22, 3, 0, [(1, 8), (4, 10), (8, 9)]) := by decide +kernel
theorem zr_113_5c1 {l0 l1 l2 l3 : Option zV} {h : Nat} {st : List zV} {w : zW} {Q : Option zV → zW → Prop} (hk : zk w h = 1) : zR 113 5 [l0, l1, l2, l3] (.inr (some h) :: st) w Q = zR 113 8 [l0, l1, l2, l3] (.inr (zp w 14 h) :: st) w Q := zR_go (zst zT_113_5 (zget_r hk rfl))
theorem zr_113_5c4 {l0 l1 l2 l3 : Option zV} {h : Nat} {st : List zV} {w : zW} {Q : Option zV → zW → Prop} (hk : zk w h = 4) : zR 113 5 [l0, l1, l2, l3] (.inr (some h) :: st) w Q = zR 113 8 [l0, l1, l2, l3] (.inr (zp w 14 h) :: st) w Q := zR_go (zst zT_113_5 (zget_r hk rfl))
theorem zr_113_5c8 {l0 l1 l2 l3 : Option zV} {h : Nat} {st : List zV} {w : zW} {Q : Option zV → zW → Prop} (hk : zk w h = 8) : zR 113 5 [l0, l1, l2, l3] (.inr (some h) :: st) w Q = zR 113 8 [l0, l1, l2, l3] (.inr (zp w 14 h) :: st) w Q := zR_go (zst zT_113_5 (zget_r hk rfl))
theorem zT_113_8 : zT 113 8 = some (.getfield 35, 3, 0, [(2, 4)]) := by decide +kernel
theorem zr_113_8 {l0 l1 l2 l3 : Option zV} {h : Nat} {st : List zV} {w : zW} {Q : Option zV → zW → Prop} (hk : zk w h = 2) : zR 113 8 [l0, l1, l2, l3] (.inr (some h) :: st) w Q = zR 113 11 [l0, l1, l2, l3] (.inl (zf w 21 h) :: st) w Q := zR_go (zst zT_113_8 (zget_i hk (Or.inl rfl)))
theorem zT_113_11 : zT 113 11 = some (.if_icmp .eq 11, 3, 0, []) := by decide +kernel
theorem zr_113_11 {l0 l1 l2 l3 : Option zV} {x y : Int} {st : List zV} {w : zW} {Q : Option zV → zW → Prop}  : zR 113 11 [l0, l1, l2, l3] (.inl y :: .inl x :: st) w Q = (if zN x = zN y then zR 113 22 [l0, l1, l2, l3] st w Q else zR 113 14 [l0, l1, l2, l3] st w Q) := zR_if (zstB zT_113_11 rfl) (by simp [zcmp])
theorem zT_113_14 : zT 113 14 = some (.aload_n 0, 1, 0, []) := by decide +kernel
theorem zr_113_14 {l1 l2 l3 : Option zV} {x : Option Nat} {st : List zV} {w : zW} {Q : Option zV → zW → Prop}  : zR 113 14 [some (.inr x), l1, l2, l3] st w Q = zR 113 15 [some (.inr x), l1, l2, l3] (.inr x :: st) w Q := zR_go (zst zT_113_14 rfl)
theorem zT_113_15 : zT 113 15 = some (.aload_n 1, 1, 0, []) := by decide +kernel
theorem zr_113_15 {l0 l2 l3 : Option zV} {x : Option Nat} {st : List zV} {w : zW} {Q : Option zV → zW → Prop}  : zR 113 15 [l0, some (.inr x), l2, l3] st w Q = zR 113 16 [l0, some (.inr x), l2, l3] (.inr x :: st) w Q := zR_go (zst zT_113_15 rfl)
theorem zT_113_16 : zT 113 16 = some (.iload_n 2, 1, 0, []) := by decide +kernel
theorem zr_113_16 {l0 l1 l3 : Option zV} {x : Int} {st : List zV} {w : zW} {Q : Option zV → zW → Prop}  : zR 113 16 [l0, l1, some (.inl x), l3] st w Q = zR 113 17 [l0, l1, some (.inl x), l3] (.inl x :: st) w Q := zR_go (zst zT_113_16 rfl)
theorem zT_113_17 : zT 113 17 = some (.invokevirtual 38, 3, 2, [(1, 112), (4, 75), (8, 112)]) := by decide +kernel
theorem zr_113_17c1 {l0 l1 l2 l3 : Option zV} {a0 a1 : zV} {h : Nat} {st : List zV} {w : zW} {Q : Option zV → zW → Prop} (hs : st.length ≤ 8) (hk : zk w h = 1) : zR 113 17 [l0, l1, l2, l3] (a1 :: a0 :: .inr (some h) :: st) w Q = zR 112 0 [some (.inr (some h)), some a0, some a1] [] w (fun r w2 => zR 113 20 [l0, l1, l2, l3] (r.toList ++ st) w2 Q) := zR_call (zst zT_113_17 (zcall_v [a1, a0] rfl hs hk rfl))
theorem zr_113_17c4 {l0 l1 l2 l3 : Option zV} {a0 a1 : zV} {h : Nat} {st : List zV} {w : zW} {Q : Option zV → zW → Prop} (hs : st.length ≤ 8) (hk : zk w h = 4) : zR 113 17 [l0, l1, l2, l3] (a1 :: a0 :: .inr (some h) :: st) w Q = zR 75 0 [some (.inr (some h)), some a0, some a1, none, none, none] [] w (fun r w2 => zR 113 20 [l0, l1, l2, l3] (r.toList ++ st) w2 Q) := zR_call (zst zT_113_17 (zcall_v [a1, a0] rfl hs hk rfl))
theorem zr_113_17c8 {l0 l1 l2 l3 : Option zV} {a0 a1 : zV} {h : Nat} {st : List zV} {w : zW} {Q : Option zV → zW → Prop} (hs : st.length ≤ 8) (hk : zk w h = 8) : zR 113 17 [l0, l1, l2, l3] (a1 :: a0 :: .inr (some h) :: st) w Q = zR 112 0 [some (.inr (some h)), some a0, some a1] [] w (fun r w2 => zR 113 20 [l0, l1, l2, l3] (r.toList ++ st) w2 Q) := zR_call (zst zT_113_17 (zcall_v [a1, a0] rfl hs hk rfl))
theorem zT_113_20 : zT 113 20 = some (.aconst_null, 1, 0, []) := by decide +kernel
theorem zr_113_20 {l0 l1 l2 l3 : Option zV} {st : List zV} {w : zW} {Q : Option zV → zW → Prop}  : zR 113 20 [l0, l1, l2, l3] st w Q = zR 113 21 [l0, l1, l2, l3] (.inr none :: st) w Q := zR_go (zst zT_113_20 rfl)
theorem zT_113_21 : zT 113 21 = some (.areturn, 1, 0, []) := by decide +kernel
theorem zr_113_21 {l0 l1 l2 l3 : Option zV} {x : Option Nat} {w : zW} {Q : Option zV → zW → Prop} : zR 113 21 [l0, l1, l2, l3] [.inr x] w Q = Q (some (.inr x)) w := zR_ret (zst zT_113_21 rfl)
theorem zT_113_22 : zT 113 22 = some (.aload_n 1, 1, 0, []) := by decide +kernel
theorem zr_113_22 {l0 l2 l3 : Option zV} {x : Option Nat} {st : List zV} {w : zW} {Q : Option zV → zW → Prop}  : zR 113 22 [l0, some (.inr x), l2, l3] st w Q = zR 113 23 [l0, some (.inr x), l2, l3] (.inr x :: st) w Q := zR_go (zst zT_113_22 rfl)
theorem zT_113_23 : zT 113 23 = some (.getfield 42, 3, 0, [(3, 1)]) := by decide +kernel
theorem zr_113_23 {l0 l1 l2 l3 : Option zV} {h : Nat} {st : List zV} {w : zW} {Q : Option zV → zW → Prop} (hk : zk w h = 3) : zR 113 23 [l0, l1, l2, l3] (.inr (some h) :: st) w Q = zR 113 26 [l0, l1, l2, l3] (.inl (zf w 27 h) :: st) w Q := zR_go (zst zT_113_23 (zget_i hk (Or.inl rfl)))
theorem zT_113_26 : zT 113 26 = some (.istore_n 3, 1, 0, []) := by decide +kernel
theorem zr_113_26 {l0 l1 l2 l3 : Option zV} {x : Int} {st : List zV} {w : zW} {Q : Option zV → zW → Prop}  : zR 113 26 [l0, l1, l2, l3] (.inl x :: st) w Q = zR 113 27 [l0, l1, l2, some (.inl x)] st w Q := zR_go (zst zT_113_26 rfl)
theorem zT_113_27 : zT 113 27 = some (.iload_n 3, 1, 0, []) := by decide +kernel
theorem zr_113_27 {l0 l1 l2 : Option zV} {x : Int} {st : List zV} {w : zW} {Q : Option zV → zW → Prop}  : zR 113 27 [l0, l1, l2, some (.inl x)] st w Q = zR 113 28 [l0, l1, l2, some (.inl x)] (.inl x :: st) w Q := zR_go (zst zT_113_27 rfl)
theorem zT_113_28 : zT 113 28 = some (.ifCond .lt 9, 3, 0, []) := by decide +kernel
theorem zr_113_28 {l0 l1 l2 l3 : Option zV} {x : Int} {st : List zV} {w : zW} {Q : Option zV → zW → Prop}  : zR 113 28 [l0, l1, l2, l3] (.inl x :: st) w Q = (if zN x < 0 then zR 113 37 [l0, l1, l2, l3] st w Q else zR 113 31 [l0, l1, l2, l3] st w Q) := zR_if (zstB zT_113_28 rfl) (by simp [zcmp])
theorem zT_113_31 : zT 113 31 = some (.iload_n 3, 1, 0, []) := by decide +kernel
theorem zr_113_31 {l0 l1 l2 : Option zV} {x : Int} {st : List zV} {w : zW} {Q : Option zV → zW → Prop}  : zR 113 31 [l0, l1, l2, some (.inl x)] st w Q = zR 113 32 [l0, l1, l2, some (.inl x)] (.inl x :: st) w Q := zR_go (zst zT_113_31 rfl)
theorem zT_113_32 : zT 113 32 = some (.bipush 64, 2, 0, []) := by decide +kernel
theorem zr_113_32 {l0 l1 l2 l3 : Option zV} {st : List zV} {w : zW} {Q : Option zV → zW → Prop}  : zR 113 32 [l0, l1, l2, l3] st w Q = zR 113 34 [l0, l1, l2, l3] (.inl 64 :: st) w Q := zR_go (zst zT_113_32 rfl)
theorem zT_113_34 : zT 113 34 = some (.if_icmp .lt 5, 3, 0, []) := by decide +kernel
theorem zr_113_34 {l0 l1 l2 l3 : Option zV} {x y : Int} {st : List zV} {w : zW} {Q : Option zV → zW → Prop}  : zR 113 34 [l0, l1, l2, l3] (.inl y :: .inl x :: st) w Q = (if zN x < zN y then zR 113 39 [l0, l1, l2, l3] st w Q else zR 113 37 [l0, l1, l2, l3] st w Q) := zR_if (zstB zT_113_34 rfl) (by simp [zcmp])
theorem zT_113_37 : zT 113 37 = some (.aconst_null, 1, 0, []) := by decide +kernel
theorem zr_113_37 {l0 l1 l2 l3 : Option zV} {st : List zV} {w : zW} {Q : Option zV → zW → Prop}  : zR 113 37 [l0, l1, l2, l3] st w Q = zR 113 38 [l0, l1, l2, l3] (.inr none :: st) w Q := zR_go (zst zT_113_37 rfl)
theorem zT_113_38 : zT 113 38 = some (.areturn, 1, 0, []) := by decide +kernel
theorem zr_113_38 {l0 l1 l2 l3 : Option zV} {x : Option Nat} {w : zW} {Q : Option zV → zW → Prop} : zR 113 38 [l0, l1, l2, l3] [.inr x] w Q = Q (some (.inr x)) w := zR_ret (zst zT_113_38 rfl)
theorem zT_113_39 : zT 113 39 = some (.aload_n 0, 1, 0, []) := by decide +kernel
theorem zr_113_39 {l1 l2 l3 : Option zV} {x : Option Nat} {st : List zV} {w : zW} {Q : Option zV → zW → Prop}  : zR 113 39 [some (.inr x), l1, l2, l3] st w Q = zR 113 40 [some (.inr x), l1, l2, l3] (.inr x :: st) w Q := zR_go (zst zT_113_39 rfl)
theorem zT_113_40 : zT 113 40 = some (.getfield 11, 3, 0, [(1, 10), (4, 12), (8, 11)]) := by decide +kernel
theorem zr_113_40c1 {l0 l1 l2 l3 : Option zV} {h : Nat} {st : List zV} {w : zW} {Q : Option zV → zW → Prop} (hk : zk w h = 1) : zR 113 40 [l0, l1, l2, l3] (.inr (some h) :: st) w Q = zR 113 43 [l0, l1, l2, l3] (.inr (zp w 16 h) :: st) w Q := zR_go (zst zT_113_40 (zget_r hk rfl))
theorem zr_113_40c4 {l0 l1 l2 l3 : Option zV} {h : Nat} {st : List zV} {w : zW} {Q : Option zV → zW → Prop} (hk : zk w h = 4) : zR 113 40 [l0, l1, l2, l3] (.inr (some h) :: st) w Q = zR 113 43 [l0, l1, l2, l3] (.inr (zp w 16 h) :: st) w Q := zR_go (zst zT_113_40 (zget_r hk rfl))
theorem zr_113_40c8 {l0 l1 l2 l3 : Option zV} {h : Nat} {st : List zV} {w : zW} {Q : Option zV → zW → Prop} (hk : zk w h = 8) : zR 113 40 [l0, l1, l2, l3] (.inr (some h) :: st) w Q = zR 113 43 [l0, l1, l2, l3] (.inr (zp w 16 h) :: st) w Q := zR_go (zst zT_113_40 (zget_r hk rfl))
theorem zT_113_43 : zT 113 43 = some (.iload_n 3, 1, 0, []) := by decide +kernel
theorem zr_113_43 {l0 l1 l2 : Option zV} {x : Int} {st : List zV} {w : zW} {Q : Option zV → zW → Prop}  : zR 113 43 [l0, l1, l2, some (.inl x)] st w Q = zR 113 44 [l0, l1, l2, some (.inl x)] (.inl x :: st) w Q := zR_go (zst zT_113_43 rfl)
theorem zT_113_44 : zT 113 44 = some (.aaload, 1, 0, []) := by decide +kernel
theorem zr_113_44 {l0 l1 l2 l3 : Option zV} {j : Int} {h : Nat} {st : List zV} {w : zW} {Q : Option zV → zW → Prop} (hk : zNC + 2 < zk w h ∧ zk w h < 1000 ∧ 0 ≤ zN j ∧ zN j < zl w h) : zR 113 44 [l0, l1, l2, l3] (.inl j :: .inr (some h) :: st) w Q = zR 113 45 [l0, l1, l2, l3] (.inr (zb w h (zN j).toNat) :: st) w Q := zR_go (zst zT_113_44 (if_pos hk))
theorem zT_113_45 : zT 113 45 = some (.ifnonnull 17, 3, 0, []) := by decide +kernel
theorem zr_113_45n {l0 l1 l2 l3 : Option zV} {st : List zV} {w : zW} {Q : Option zV → zW → Prop}  : zR 113 45 [l0, l1, l2, l3] (.inr none :: st) w Q = zR 113 48 [l0, l1, l2, l3] st w Q := zR_go (zst zT_113_45 rfl)
theorem zr_113_45s {l0 l1 l2 l3 : Option zV} {h : Nat} {st : List zV} {w : zW} {Q : Option zV → zW → Prop}  : zR 113 45 [l0, l1, l2, l3] (.inr (some h) :: st) w Q = zR 113 62 [l0, l1, l2, l3] st w Q := zR_go (zst zT_113_45 rfl)
theorem zT_113_48 : zT 113 48 = some (.aload_n 0, 1, 0, []) := by decide +kernel
theorem zr_113_48 {l1 l2 l3 : Option zV} {x : Option Nat} {st : List zV} {w : zW} {Q : Option zV → zW → Prop}  : zR 113 48 [some (.inr x), l1, l2, l3] st w Q = zR 113 49 [some (.inr x), l1, l2, l3] (.inr x :: st) w Q := zR_go (zst zT_113_48 rfl)
theorem zT_113_49 : zT 113 49 = some (.getfield 11, 3, 0, [(1, 10), (4, 12), (8, 11)]) := by decide +kernel
theorem zr_113_49c1 {l0 l1 l2 l3 : Option zV} {h : Nat} {st : List zV} {w : zW} {Q : Option zV → zW → Prop} (hk : zk w h = 1) : zR 113 49 [l0, l1, l2, l3] (.inr (some h) :: st) w Q = zR 113 52 [l0, l1, l2, l3] (.inr (zp w 16 h) :: st) w Q := zR_go (zst zT_113_49 (zget_r hk rfl))
theorem zr_113_49c4 {l0 l1 l2 l3 : Option zV} {h : Nat} {st : List zV} {w : zW} {Q : Option zV → zW → Prop} (hk : zk w h = 4) : zR 113 49 [l0, l1, l2, l3] (.inr (some h) :: st) w Q = zR 113 52 [l0, l1, l2, l3] (.inr (zp w 16 h) :: st) w Q := zR_go (zst zT_113_49 (zget_r hk rfl))
theorem zr_113_49c8 {l0 l1 l2 l3 : Option zV} {h : Nat} {st : List zV} {w : zW} {Q : Option zV → zW → Prop} (hk : zk w h = 8) : zR 113 49 [l0, l1, l2, l3] (.inr (some h) :: st) w Q = zR 113 52 [l0, l1, l2, l3] (.inr (zp w 16 h) :: st) w Q := zR_go (zst zT_113_49 (zget_r hk rfl))
theorem zT_113_52 : zT 113 52 = some (.iload_n 3, 1, 0, []) := by decide +kernel
theorem zr_113_52 {l0 l1 l2 : Option zV} {x : Int} {st : List zV} {w : zW} {Q : Option zV → zW → Prop}  : zR 113 52 [l0, l1, l2, some (.inl x)] st w Q = zR 113 53 [l0, l1, l2, some (.inl x)] (.inl x :: st) w Q := zR_go (zst zT_113_52 rfl)
theorem zT_113_53 : zT 113 53 = some (.new 9, 3, 0, [(9, 6)]) := by decide +kernel
theorem zr_113_53 {l0 l1 l2 l3 : Option zV} {st : List zV} {w : zW} {Q : Option zV → zW → Prop}  : zR 113 53 [l0, l1, l2, l3] st w Q = zR 113 56 [l0, l1, l2, l3] (.inr (some (zn w + 1)) :: st) (znew w 9 6) Q := zR_go (zst zT_113_53 rfl)
theorem zT_113_56 : zT 113 56 = some (.dup, 1, 0, []) := by decide +kernel
theorem zr_113_56 {l0 l1 l2 l3 : Option zV} {v : zV} {st : List zV} {w : zW} {Q : Option zV → zW → Prop}  : zR 113 56 [l0, l1, l2, l3] (v :: st) w Q = zR 113 57 [l0, l1, l2, l3] (v :: v :: st) w Q := zR_go (zst zT_113_56 rfl)
theorem zT_113_57 : zT 113 57 = some (.iload_n 3, 1, 0, []) := by decide +kernel
theorem zr_113_57 {l0 l1 l2 : Option zV} {x : Int} {st : List zV} {w : zW} {Q : Option zV → zW → Prop}  : zR 113 57 [l0, l1, l2, some (.inl x)] st w Q = zR 113 58 [l0, l1, l2, some (.inl x)] (.inl x :: st) w Q := zR_go (zst zT_113_57 rfl)
theorem zT_113_58 : zT 113 58 = some (.invokespecial 45, 3, 1, [(123, 1)]) := by decide +kernel
theorem zr_113_58 {l0 l1 l2 l3 : Option zV} {a0 : zV} {h : Nat} {st : List zV} {w : zW} {Q : Option zV → zW → Prop} (hs : st.length ≤ 8) (hk : zk w h < 1000) : zR 113 58 [l0, l1, l2, l3] (a0 :: .inr (some h) :: st) w Q = zR 123 0 [some (.inr (some h)), some a0] [] w (fun r w2 => zR 113 61 [l0, l1, l2, l3] (r.toList ++ st) w2 Q) := zR_call (zst zT_113_58 (zcall_i (ls := [l0, l1, l2, l3]) (n := 1) [a0] rfl hs hk))
theorem zT_113_61 : zT 113 61 = some (.aastore, 1, 0, []) := by decide +kernel
theorem zr_113_61n {l0 l1 l2 l3 : Option zV} {j : Int} {h : Nat} {st : List zV} {w : zW} {Q : Option zV → zW → Prop} (hk : zNC + 2 < zk w h ∧ zk w h < 1000 ∧ 0 ≤ zN j ∧ zN j < zl w h) : zR 113 61 [l0, l1, l2, l3] (.inr none :: .inl j :: .inr (some h) :: st) w Q = zR 113 62 [l0, l1, l2, l3] st (zsb w h (zN j).toNat none) Q := zR_go (zst zT_113_61 (if_pos hk))
theorem zr_113_61s {l0 l1 l2 l3 : Option zV} {j : Int} {h v : Nat} {st : List zV} {w : zW} {Q : Option zV → zW → Prop} (hk : zNC + 2 < zk w h ∧ zk w h < 1000 ∧ 0 ≤ zN j ∧ zN j < zl w h ∧ zAS (zk w h) (zk w v) = true) : zR 113 61 [l0, l1, l2, l3] (.inr (some v) :: .inl j :: .inr (some h) :: st) w Q = zR 113 62 [l0, l1, l2, l3] st (zsb w h (zN j).toNat (some v)) Q := zR_go (zst zT_113_61 (if_pos hk))
theorem zT_113_62 : zT 113 62 = some (.aload_n 0, 1, 0, []) := by decide +kernel
theorem zr_113_62 {l1 l2 l3 : Option zV} {x : Option Nat} {st : List zV} {w : zW} {Q : Option zV → zW → Prop}  : zR 113 62 [some (.inr x), l1, l2, l3] st w Q = zR 113 63 [some (.inr x), l1, l2, l3] (.inr x :: st) w Q := zR_go (zst zT_113_62 rfl)
theorem zT_113_63 : zT 113 63 = some (.getfield 11, 3, 0, [(1, 10), (4, 12), (8, 11)]) := by decide +kernel
theorem zr_113_63c1 {l0 l1 l2 l3 : Option zV} {h : Nat} {st : List zV} {w : zW} {Q : Option zV → zW → Prop} (hk : zk w h = 1) : zR 113 63 [l0, l1, l2, l3] (.inr (some h) :: st) w Q = zR 113 66 [l0, l1, l2, l3] (.inr (zp w 16 h) :: st) w Q := zR_go (zst zT_113_63 (zget_r hk rfl))
theorem zr_113_63c4 {l0 l1 l2 l3 : Option zV} {h : Nat} {st : List zV} {w : zW} {Q : Option zV → zW → Prop} (hk : zk w h = 4) : zR 113 63 [l0, l1, l2, l3] (.inr (some h) :: st) w Q = zR 113 66 [l0, l1, l2, l3] (.inr (zp w 16 h) :: st) w Q := zR_go (zst zT_113_63 (zget_r hk rfl))
theorem zr_113_63c8 {l0 l1 l2 l3 : Option zV} {h : Nat} {st : List zV} {w : zW} {Q : Option zV → zW → Prop} (hk : zk w h = 8) : zR 113 63 [l0, l1, l2, l3] (.inr (some h) :: st) w Q = zR 113 66 [l0, l1, l2, l3] (.inr (zp w 16 h) :: st) w Q := zR_go (zst zT_113_63 (zget_r hk rfl))
theorem zT_113_66 : zT 113 66 = some (.iload_n 3, 1, 0, []) := by decide +kernel
theorem zr_113_66 {l0 l1 l2 : Option zV} {x : Int} {st : List zV} {w : zW} {Q : Option zV → zW → Prop}  : zR 113 66 [l0, l1, l2, some (.inl x)] st w Q = zR 113 67 [l0, l1, l2, some (.inl x)] (.inl x :: st) w Q := zR_go (zst zT_113_66 rfl)
theorem zT_113_67 : zT 113 67 = some (.aaload, 1, 0, []) := by decide +kernel
theorem zr_113_67 {l0 l1 l2 l3 : Option zV} {j : Int} {h : Nat} {st : List zV} {w : zW} {Q : Option zV → zW → Prop} (hk : zNC + 2 < zk w h ∧ zk w h < 1000 ∧ 0 ≤ zN j ∧ zN j < zl w h) : zR 113 67 [l0, l1, l2, l3] (.inl j :: .inr (some h) :: st) w Q = zR 113 68 [l0, l1, l2, l3] (.inr (zb w h (zN j).toNat) :: st) w Q := zR_go (zst zT_113_67 (if_pos hk))
theorem zT_113_68 : zT 113 68 = some (.aload_n 1, 1, 0, []) := by decide +kernel
theorem zr_113_68 {l0 l2 l3 : Option zV} {x : Option Nat} {st : List zV} {w : zW} {Q : Option zV → zW → Prop}  : zR 113 68 [l0, some (.inr x), l2, l3] st w Q = zR 113 69 [l0, some (.inr x), l2, l3] (.inr x :: st) w Q := zR_go (zst zT_113_68 rfl)
theorem zT_113_69 : zT 113 69 = some (.invokevirtual 48, 3, 1, [(9, 126)]) := by decide +kernel
theorem zr_113_69 {l0 l1 l2 l3 : Option zV} {a0 : zV} {h : Nat} {st : List zV} {w : zW} {Q : Option zV → zW → Prop} (hs : st.length ≤ 8) (hk : zk w h = 9) : zR 113 69 [l0, l1, l2, l3] (a0 :: .inr (some h) :: st) w Q = zR 126 0 [some (.inr (some h)), some a0] [] w (fun r w2 => zR 113 72 [l0, l1, l2, l3] (r.toList ++ st) w2 Q) := zR_call (zst zT_113_69 (zcall_v [a0] rfl hs hk rfl))
theorem zT_113_72 : zT 113 72 = some (.ifCond .eq 12, 3, 0, []) := by decide +kernel
theorem zr_113_72 {l0 l1 l2 l3 : Option zV} {x : Int} {st : List zV} {w : zW} {Q : Option zV → zW → Prop}  : zR 113 72 [l0, l1, l2, l3] (.inl x :: st) w Q = (if zN x = 0 then zR 113 84 [l0, l1, l2, l3] st w Q else zR 113 75 [l0, l1, l2, l3] st w Q) := zR_if (zstB zT_113_72 rfl) (by simp [zcmp])
theorem zT_113_75 : zT 113 75 = some (.aload_n 0, 1, 0, []) := by decide +kernel
theorem zr_113_75 {l1 l2 l3 : Option zV} {x : Option Nat} {st : List zV} {w : zW} {Q : Option zV → zW → Prop}  : zR 113 75 [some (.inr x), l1, l2, l3] st w Q = zR 113 76 [some (.inr x), l1, l2, l3] (.inr x :: st) w Q := zR_go (zst zT_113_75 rfl)
theorem zT_113_76 : zT 113 76 = some (.getfield 11, 3, 0, [(1, 10), (4, 12), (8, 11)]) := by decide +kernel
theorem zr_113_76c1 {l0 l1 l2 l3 : Option zV} {h : Nat} {st : List zV} {w : zW} {Q : Option zV → zW → Prop} (hk : zk w h = 1) : zR 113 76 [l0, l1, l2, l3] (.inr (some h) :: st) w Q = zR 113 79 [l0, l1, l2, l3] (.inr (zp w 16 h) :: st) w Q := zR_go (zst zT_113_76 (zget_r hk rfl))
theorem zr_113_76c4 {l0 l1 l2 l3 : Option zV} {h : Nat} {st : List zV} {w : zW} {Q : Option zV → zW → Prop} (hk : zk w h = 4) : zR 113 76 [l0, l1, l2, l3] (.inr (some h) :: st) w Q = zR 113 79 [l0, l1, l2, l3] (.inr (zp w 16 h) :: st) w Q := zR_go (zst zT_113_76 (zget_r hk rfl))
theorem zr_113_76c8 {l0 l1 l2 l3 : Option zV} {h : Nat} {st : List zV} {w : zW} {Q : Option zV → zW → Prop} (hk : zk w h = 8) : zR 113 76 [l0, l1, l2, l3] (.inr (some h) :: st) w Q = zR 113 79 [l0, l1, l2, l3] (.inr (zp w 16 h) :: st) w Q := zR_go (zst zT_113_76 (zget_r hk rfl))
theorem zT_113_79 : zT 113 79 = some (.iload_n 3, 1, 0, []) := by decide +kernel
theorem zr_113_79 {l0 l1 l2 : Option zV} {x : Int} {st : List zV} {w : zW} {Q : Option zV → zW → Prop}  : zR 113 79 [l0, l1, l2, some (.inl x)] st w Q = zR 113 80 [l0, l1, l2, some (.inl x)] (.inl x :: st) w Q := zR_go (zst zT_113_79 rfl)
theorem zT_113_80 : zT 113 80 = some (.aaload, 1, 0, []) := by decide +kernel
theorem zr_113_80 {l0 l1 l2 l3 : Option zV} {j : Int} {h : Nat} {st : List zV} {w : zW} {Q : Option zV → zW → Prop} (hk : zNC + 2 < zk w h ∧ zk w h < 1000 ∧ 0 ≤ zN j ∧ zN j < zl w h) : zR 113 80 [l0, l1, l2, l3] (.inl j :: .inr (some h) :: st) w Q = zR 113 81 [l0, l1, l2, l3] (.inr (zb w h (zN j).toNat) :: st) w Q := zR_go (zst zT_113_80 (if_pos hk))
theorem zT_113_81 : zT 113 81 = some (.goto 4, 3, 0, []) := by decide +kernel
theorem zr_113_81 {l0 l1 l2 l3 : Option zV} {st : List zV} {w : zW} {Q : Option zV → zW → Prop}  : zR 113 81 [l0, l1, l2, l3] st w Q = zR 113 85 [l0, l1, l2, l3] st w Q := zR_go (zst zT_113_81 rfl)
theorem zT_113_84 : zT 113 84 = some (.aconst_null, 1, 0, []) := by decide +kernel
theorem zr_113_84 {l0 l1 l2 l3 : Option zV} {st : List zV} {w : zW} {Q : Option zV → zW → Prop}  : zR 113 84 [l0, l1, l2, l3] st w Q = zR 113 85 [l0, l1, l2, l3] (.inr none :: st) w Q := zR_go (zst zT_113_84 rfl)
theorem zT_113_85 : zT 113 85 = some (.areturn, 1, 0, []) := by decide +kernel
theorem zr_113_85 {l0 l1 l2 l3 : Option zV} {x : Option Nat} {w : zW} {Q : Option zV → zW → Prop} : zR 113 85 [l0, l1, l2, l3] [.inr x] w Q = Q (some (.inr x)) w := zR_ret (zst zT_113_85 rfl)
theorem zT_114_0 : zT 114 0 = some (.iload 4, 2, 0, []) := by decide +kernel
theorem zr_114_0 {l0 l1 l2 l3 l5 l6 l7 l8 l9 : Option zV} {x : Int} {st : List zV} {w : zW} {Q : Option zV → zW → Prop}  : zR 114 0 [l0, l1, l2, l3, some (.inl x), l5, l6, l7, l8, l9] st w Q = zR 114 2 [l0, l1, l2, l3, some (.inl x), l5, l6, l7, l8, l9] (.inl x :: st) w Q := zR_go (zst zT_114_0 rfl)
theorem zT_114_2 : zT 114 2 = some (.bipush 8, 2, 0, []) := by decide +kernel
theorem zr_114_2 {l0 l1 l2 l3 l4 l5 l6 l7 l8 l9 : Option zV} {st : List zV} {w : zW} {Q : Option zV → zW → Prop}  : zR 114 2 [l0, l1, l2, l3, l4, l5, l6, l7, l8, l9] st w Q = zR 114 4 [l0, l1, l2, l3, l4, l5, l6, l7, l8, l9] (.inl 8 :: st) w Q := zR_go (zst zT_114_2 rfl)
theorem zT_114_4 : zT 114 4 = some (.iadd, 1, 0, []) := by decide +kernel
theorem zr_114_4 {l0 l1 l2 l3 l4 l5 l6 l7 l8 l9 : Option zV} {x y : Int} {st : List zV} {w : zW} {Q : Option zV → zW → Prop}  : zR 114 4 [l0, l1, l2, l3, l4, l5, l6, l7, l8, l9] (.inl y :: .inl x :: st) w Q = zR 114 5 [l0, l1, l2, l3, l4, l5, l6, l7, l8, l9] (.inl (x + y) :: st) w Q := zR_go (zst zT_114_4 rfl)
theorem zT_114_5 : zT 114 5 = some (.iconst 1, 1, 0, []) := by decide +kernel
theorem zr_114_5 {l0 l1 l2 l3 l4 l5 l6 l7 l8 l9 : Option zV} {st : List zV} {w : zW} {Q : Option zV → zW → Prop}  : zR 114 5 [l0, l1, l2, l3, l4, l5, l6, l7, l8, l9] st w Q = zR 114 6 [l0, l1, l2, l3, l4, l5, l6, l7, l8, l9] (.inl 1 :: st) w Q := zR_go (zst zT_114_5 rfl)
theorem zT_114_6 : zT 114 6 = some (.isub, 1, 0, []) := by decide +kernel
theorem zr_114_6 {l0 l1 l2 l3 l4 l5 l6 l7 l8 l9 : Option zV} {x y : Int} {st : List zV} {w : zW} {Q : Option zV → zW → Prop}  : zR 114 6 [l0, l1, l2, l3, l4, l5, l6, l7, l8, l9] (.inl y :: .inl x :: st) w Q = zR 114 7 [l0, l1, l2, l3, l4, l5, l6, l7, l8, l9] (.inl (x - y) :: st) w Q := zR_go (zst zT_114_6 rfl)
theorem zT_114_7 : zT 114 7 = some (.bipush 8, 2, 0, []) := by decide +kernel
theorem zr_114_7 {l0 l1 l2 l3 l4 l5 l6 l7 l8 l9 : Option zV} {st : List zV} {w : zW} {Q : Option zV → zW → Prop}  : zR 114 7 [l0, l1, l2, l3, l4, l5, l6, l7, l8, l9] st w Q = zR 114 9 [l0, l1, l2, l3, l4, l5, l6, l7, l8, l9] (.inl 8 :: st) w Q := zR_go (zst zT_114_7 rfl)
theorem zT_114_9 : zT 114 9 = some (.idiv, 1, 0, []) := by decide +kernel
theorem zr_114_9 {l0 l1 l2 l3 l4 l5 l6 l7 l8 l9 : Option zV} {x y : Int} {st : List zV} {w : zW} {Q : Option zV → zW → Prop} (hy : ¬ zN y = 0) : zR 114 9 [l0, l1, l2, l3, l4, l5, l6, l7, l8, l9] (.inl y :: .inl x :: st) w Q = zR 114 10 [l0, l1, l2, l3, l4, l5, l6, l7, l8, l9] (.inl (zo_div x y) :: st) w Q := zR_go (zst zT_114_9 (if_neg hy))
theorem zT_114_10 : zT 114 10 = some (.istore 5, 2, 0, []) := by decide +kernel
theorem zr_114_10 {l0 l1 l2 l3 l4 l5 l6 l7 l8 l9 : Option zV} {x : Int} {st : List zV} {w : zW} {Q : Option zV → zW → Prop}  : zR 114 10 [l0, l1, l2, l3, l4, l5, l6, l7, l8, l9] (.inl x :: st) w Q = zR 114 12 [l0, l1, l2, l3, l4, some (.inl x), l6, l7, l8, l9] st w Q := zR_go (zst zT_114_10 rfl)
theorem zT_114_12 : zT 114 12 = some (.aload_n 0, 1, 0, []) := by decide +kernel
theorem zr_114_12 {l1 l2 l3 l4 l5 l6 l7 l8 l9 : Option zV} {x : Option Nat} {st : List zV} {w : zW} {Q : Option zV → zW → Prop}  : zR 114 12 [some (.inr x), l1, l2, l3, l4, l5, l6, l7, l8, l9] st w Q = zR 114 13 [some (.inr x), l1, l2, l3, l4, l5, l6, l7, l8, l9] (.inr x :: st) w Q := zR_go (zst zT_114_12 rfl)
theorem zT_114_13 : zT 114 13 = some (.getfield 22, 3, 0, [(1, 8), (4, 10), (8, 9)]) := by decide +kernel
theorem zr_114_13c1 {l0 l1 l2 l3 l4 l5 l6 l7 l8 l9 : Option zV} {h : Nat} {st : List zV} {w : zW} {Q : Option zV → zW → Prop} (hk : zk w h = 1) : zR 114 13 [l0, l1, l2, l3, l4, l5, l6, l7, l8, l9] (.inr (some h) :: st) w Q = zR 114 16 [l0, l1, l2, l3, l4, l5, l6, l7, l8, l9] (.inr (zp w 14 h) :: st) w Q := zR_go (zst zT_114_13 (zget_r hk rfl))
theorem zr_114_13c4 {l0 l1 l2 l3 l4 l5 l6 l7 l8 l9 : Option zV} {h : Nat} {st : List zV} {w : zW} {Q : Option zV → zW → Prop} (hk : zk w h = 4) : zR 114 13 [l0, l1, l2, l3, l4, l5, l6, l7, l8, l9] (.inr (some h) :: st) w Q = zR 114 16 [l0, l1, l2, l3, l4, l5, l6, l7, l8, l9] (.inr (zp w 14 h) :: st) w Q := zR_go (zst zT_114_13 (zget_r hk rfl))
theorem zr_114_13c8 {l0 l1 l2 l3 l4 l5 l6 l7 l8 l9 : Option zV} {h : Nat} {st : List zV} {w : zW} {Q : Option zV → zW → Prop} (hk : zk w h = 8) : zR 114 13 [l0, l1, l2, l3, l4, l5, l6, l7, l8, l9] (.inr (some h) :: st) w Q = zR 114 16 [l0, l1, l2, l3, l4, l5, l6, l7, l8, l9] (.inr (zp w 14 h) :: st) w Q := zR_go (zst zT_114_13 (zget_r hk rfl))
theorem zT_114_16 : zT 114 16 = some (.iload 5, 2, 0, []) := by decide +kernel
theorem zr_114_16 {l0 l1 l2 l3 l4 l6 l7 l8 l9 : Option zV} {x : Int} {st : List zV} {w : zW} {Q : Option zV → zW → Prop}  : zR 114 16 [l0, l1, l2, l3, l4, some (.inl x), l6, l7, l8, l9] st w Q = zR 114 18 [l0, l1, l2, l3, l4, some (.inl x), l6, l7, l8, l9] (.inl x :: st) w Q := zR_go (zst zT_114_16 rfl)
theorem zT_114_18 : zT 114 18 = some (.invokevirtual 52, 3, 1, [(2, 129)]) := by decide +kernel
theorem zr_114_18 {l0 l1 l2 l3 l4 l5 l6 l7 l8 l9 : Option zV} {a0 : zV} {h : Nat} {st : List zV} {w : zW} {Q : Option zV → zW → Prop} (hs : st.length ≤ 8) (hk : zk w h = 2) : zR 114 18 [l0, l1, l2, l3, l4, l5, l6, l7, l8, l9] (a0 :: .inr (some h) :: st) w Q = zR 129 0 [some (.inr (some h)), some a0] [] w (fun r w2 => zR 114 21 [l0, l1, l2, l3, l4, l5, l6, l7, l8, l9] (r.toList ++ st) w2 Q) := zR_call (zst zT_114_18 (zcall_v [a0] rfl hs hk rfl))
theorem zT_114_21 : zT 114 21 = some (.ifCond .ne 4, 3, 0, []) := by decide +kernel
theorem zr_114_21 {l0 l1 l2 l3 l4 l5 l6 l7 l8 l9 : Option zV} {x : Int} {st : List zV} {w : zW} {Q : Option zV → zW → Prop}  : zR 114 21 [l0, l1, l2, l3, l4, l5, l6, l7, l8, l9] (.inl x :: st) w Q = (if zN x ≠ 0 then zR 114 25 [l0, l1, l2, l3, l4, l5, l6, l7, l8, l9] st w Q else zR 114 24 [l0, l1, l2, l3, l4, l5, l6, l7, l8, l9] st w Q) := zR_if (zstB zT_114_21 rfl) (by simp [zcmp])
theorem zT_114_24 : zT 114 24 = some (.return_, 1, 0, []) := by decide +kernel
theorem zr_114_24 {l0 l1 l2 l3 l4 l5 l6 l7 l8 l9 : Option zV} {w : zW} {Q : Option zV → zW → Prop} : zR 114 24 [l0, l1, l2, l3, l4, l5, l6, l7, l8, l9] [] w Q = Q none w := zR_ret (zst zT_114_24 rfl)
theorem zT_114_25 : zT 114 25 = some (.iconst 0, 1, 0, []) := by decide +kernel
theorem zr_114_25 {l0 l1 l2 l3 l4 l5 l6 l7 l8 l9 : Option zV} {st : List zV} {w : zW} {Q : Option zV → zW → Prop}  : zR 114 25 [l0, l1, l2, l3, l4, l5, l6, l7, l8, l9] st w Q = zR 114 26 [l0, l1, l2, l3, l4, l5, l6, l7, l8, l9] (.inl 0 :: st) w Q := zR_go (zst zT_114_25 rfl)
theorem zT_114_26 : zT 114 26 = some (.istore 6, 2, 0, []) := by decide +kernel
theorem zr_114_26 {l0 l1 l2 l3 l4 l5 l6 l7 l8 l9 : Option zV} {x : Int} {st : List zV} {w : zW} {Q : Option zV → zW → Prop}  : zR 114 26 [l0, l1, l2, l3, l4, l5, l6, l7, l8, l9] (.inl x :: st) w Q = zR 114 28 [l0, l1, l2, l3, l4, l5, some (.inl x), l7, l8, l9] st w Q := zR_go (zst zT_114_26 rfl)
theorem zT_114_28 : zT 114 28 = some (.iload 6, 2, 0, []) := by decide +kernel
theorem zr_114_28 {l0 l1 l2 l3 l4 l5 l7 l8 l9 : Option zV} {x : Int} {st : List zV} {w : zW} {Q : Option zV → zW → Prop}  : zR 114 28 [l0, l1, l2, l3, l4, l5, some (.inl x), l7, l8, l9] st w Q = zR 114 30 [l0, l1, l2, l3, l4, l5, some (.inl x), l7, l8, l9] (.inl x :: st) w Q := zR_go (zst zT_114_28 rfl)
theorem zT_114_30 : zT 114 30 = some (.iload 5, 2, 0, []) := by decide +kernel
theorem zr_114_30 {l0 l1 l2 l3 l4 l6 l7 l8 l9 : Option zV} {x : Int} {st : List zV} {w : zW} {Q : Option zV → zW → Prop}  : zR 114 30 [l0, l1, l2, l3, l4, some (.inl x), l6, l7, l8, l9] st w Q = zR 114 32 [l0, l1, l2, l3, l4, some (.inl x), l6, l7, l8, l9] (.inl x :: st) w Q := zR_go (zst zT_114_30 rfl)
theorem zT_114_32 : zT 114 32 = some (.if_icmp .ge 90, 3, 0, []) := by decide +kernel
theorem zr_114_32 {l0 l1 l2 l3 l4 l5 l6 l7 l8 l9 : Option zV} {x y : Int} {st : List zV} {w : zW} {Q : Option zV → zW → Prop}  : zR 114 32 [l0, l1, l2, l3, l4, l5, l6, l7, l8, l9] (.inl y :: .inl x :: st) w Q = (if zN y ≤ zN x then zR 114 122 [l0, l1, l2, l3, l4, l5, l6, l7, l8, l9] st w Q else zR 114 35 [l0, l1, l2, l3, l4, l5, l6, l7, l8, l9] st w Q) := zR_if (zstB zT_114_32 rfl) (by simp [zcmp])
theorem zT_114_35 : zT 114 35 = some (.iload_n 2, 1, 0, []) := by decide +kernel
theorem zr_114_35 {l0 l1 l3 l4 l5 l6 l7 l8 l9 : Option zV} {x : Int} {st : List zV} {w : zW} {Q : Option zV → zW → Prop}  : zR 114 35 [l0, l1, some (.inl x), l3, l4, l5, l6, l7, l8, l9] st w Q = zR 114 36 [l0, l1, some (.inl x), l3, l4, l5, l6, l7, l8, l9] (.inl x :: st) w Q := zR_go (zst zT_114_35 rfl)
theorem zT_114_36 : zT 114 36 = some (.bipush 16, 2, 0, []) := by decide +kernel
theorem zr_114_36 {l0 l1 l2 l3 l4 l5 l6 l7 l8 l9 : Option zV} {st : List zV} {w : zW} {Q : Option zV → zW → Prop}  : zR 114 36 [l0, l1, l2, l3, l4, l5, l6, l7, l8, l9] st w Q = zR 114 38 [l0, l1, l2, l3, l4, l5, l6, l7, l8, l9] (.inl 16 :: st) w Q := zR_go (zst zT_114_36 rfl)
theorem zT_114_38 : zT 114 38 = some (.iload 6, 2, 0, []) := by decide +kernel
theorem zr_114_38 {l0 l1 l2 l3 l4 l5 l7 l8 l9 : Option zV} {x : Int} {st : List zV} {w : zW} {Q : Option zV → zW → Prop}  : zR 114 38 [l0, l1, l2, l3, l4, l5, some (.inl x), l7, l8, l9] st w Q = zR 114 40 [l0, l1, l2, l3, l4, l5, some (.inl x), l7, l8, l9] (.inl x :: st) w Q := zR_go (zst zT_114_38 rfl)
theorem zT_114_40 : zT 114 40 = some (.imul, 1, 0, []) := by decide +kernel
theorem zr_114_40 {l0 l1 l2 l3 l4 l5 l6 l7 l8 l9 : Option zV} {x y : Int} {st : List zV} {w : zW} {Q : Option zV → zW → Prop}  : zR 114 40 [l0, l1, l2, l3, l4, l5, l6, l7, l8, l9] (.inl y :: .inl x :: st) w Q = zR 114 41 [l0, l1, l2, l3, l4, l5, l6, l7, l8, l9] (.inl (x * y) :: st) w Q := zR_go (zst zT_114_40 rfl)
theorem zT_114_41 : zT 114 41 = some (.iadd, 1, 0, []) := by decide +kernel
theorem zr_114_41 {l0 l1 l2 l3 l4 l5 l6 l7 l8 l9 : Option zV} {x y : Int} {st : List zV} {w : zW} {Q : Option zV → zW → Prop}  : zR 114 41 [l0, l1, l2, l3, l4, l5, l6, l7, l8, l9] (.inl y :: .inl x :: st) w Q = zR 114 42 [l0, l1, l2, l3, l4, l5, l6, l7, l8, l9] (.inl (x + y) :: st) w Q := zR_go (zst zT_114_41 rfl)
theorem zT_114_42 : zT 114 42 = some (.istore 7, 2, 0, []) := by decide +kernel
theorem zr_114_42 {l0 l1 l2 l3 l4 l5 l6 l7 l8 l9 : Option zV} {x : Int} {st : List zV} {w : zW} {Q : Option zV → zW → Prop}  : zR 114 42 [l0, l1, l2, l3, l4, l5, l6, l7, l8, l9] (.inl x :: st) w Q = zR 114 44 [l0, l1, l2, l3, l4, l5, l6, some (.inl x), l8, l9] st w Q := zR_go (zst zT_114_42 rfl)
theorem zT_114_44 : zT 114 44 = some (.iload 6, 2, 0, []) := by decide +kernel
theorem zr_114_44 {l0 l1 l2 l3 l4 l5 l7 l8 l9 : Option zV} {x : Int} {st : List zV} {w : zW} {Q : Option zV → zW → Prop}  : zR 114 44 [l0, l1, l2, l3, l4, l5, some (.inl x), l7, l8, l9] st w Q = zR 114 46 [l0, l1, l2, l3, l4, l5, some (.inl x), l7, l8, l9] (.inl x :: st) w Q := zR_go (zst zT_114_44 rfl)
theorem zT_114_46 : zT 114 46 = some (.ifCond .ne 9, 3, 0, []) := by decide +kernel
theorem zr_114_46 {l0 l1 l2 l3 l4 l5 l6 l7 l8 l9 : Option zV} {x : Int} {st : List zV} {w : zW} {Q : Option zV → zW → Prop}  : zR 114 46 [l0, l1, l2, l3, l4, l5, l6, l7, l8, l9] (.inl x :: st) w Q = (if zN x ≠ 0 then zR 114 55 [l0, l1, l2, l3, l4, l5, l6, l7, l8, l9] st w Q else zR 114 49 [l0, l1, l2, l3, l4, l5, l6, l7, l8, l9] st w Q) := zR_if (zstB zT_114_46 rfl) (by simp [zcmp])
theorem zT_114_49 : zT 114 49 = some (.iinc 7 128, 6, 0, []) := by decide +kernel
theorem zr_114_49 {l0 l1 l2 l3 l4 l5 l6 l8 l9 : Option zV} {x : Int} {st : List zV} {w : zW} {Q : Option zV → zW → Prop}  : zR 114 49 [l0, l1, l2, l3, l4, l5, l6, some (.inl x), l8, l9] st w Q = zR 114 55 [l0, l1, l2, l3, l4, l5, l6, some (.inl (x + 128)), l8, l9] st w Q := zR_go (zst zT_114_49 rfl)
theorem zT_114_55 : zT 114 55 = some (.iload 6, 2, 0, []) := by decide +kernel
theorem zr_114_55 {l0 l1 l2 l3 l4 l5 l7 l8 l9 : Option zV} {x : Int} {st : List zV} {w : zW} {Q : Option zV → zW → Prop}  : zR 114 55 [l0, l1, l2, l3, l4, l5, some (.inl x), l7, l8, l9] st w Q = zR 114 57 [l0, l1, l2, l3, l4, l5, some (.inl x), l7, l8, l9] (.inl x :: st) w Q := zR_go (zst zT_114_55 rfl)
theorem zT_114_57 : zT 114 57 = some (.iload 5, 2, 0, []) := by decide +kernel
theorem zr_114_57 {l0 l1 l2 l3 l4 l6 l7 l8 l9 : Option zV} {x : Int} {st : List zV} {w : zW} {Q : Option zV → zW → Prop}  : zR 114 57 [l0, l1, l2, l3, l4, some (.inl x), l6, l7, l8, l9] st w Q = zR 114 59 [l0, l1, l2, l3, l4, some (.inl x), l6, l7, l8, l9] (.inl x :: st) w Q := zR_go (zst zT_114_57 rfl)
theorem zT_114_59 : zT 114 59 = some (.iconst 1, 1, 0, []) := by decide +kernel
theorem zr_114_59 {l0 l1 l2 l3 l4 l5 l6 l7 l8 l9 : Option zV} {st : List zV} {w : zW} {Q : Option zV → zW → Prop}  : zR 114 59 [l0, l1, l2, l3, l4, l5, l6, l7, l8, l9] st w Q = zR 114 60 [l0, l1, l2, l3, l4, l5, l6, l7, l8, l9] (.inl 1 :: st) w Q := zR_go (zst zT_114_59 rfl)
theorem zT_114_60 : zT 114 60 = some (.isub, 1, 0, []) := by decide +kernel
theorem zr_114_60 {l0 l1 l2 l3 l4 l5 l6 l7 l8 l9 : Option zV} {x y : Int} {st : List zV} {w : zW} {Q : Option zV → zW → Prop}  : zR 114 60 [l0, l1, l2, l3, l4, l5, l6, l7, l8, l9] (.inl y :: .inl x :: st) w Q = zR 114 61 [l0, l1, l2, l3, l4, l5, l6, l7, l8, l9] (.inl (x - y) :: st) w Q := zR_go (zst zT_114_60 rfl)
theorem zT_114_61 : zT 114 61 = some (.if_icmp .ne 6, 3, 0, []) := by decide +kernel
theorem zr_114_61 {l0 l1 l2 l3 l4 l5 l6 l7 l8 l9 : Option zV} {x y : Int} {st : List zV} {w : zW} {Q : Option zV → zW → Prop}  : zR 114 61 [l0, l1, l2, l3, l4, l5, l6, l7, l8, l9] (.inl y :: .inl x :: st) w Q = (if zN x ≠ zN y then zR 114 67 [l0, l1, l2, l3, l4, l5, l6, l7, l8, l9] st w Q else zR 114 64 [l0, l1, l2, l3, l4, l5, l6, l7, l8, l9] st w Q) := zR_if (zstB zT_114_61 rfl) (by simp [zcmp])
theorem zT_114_64 : zT 114 64 = some (.iinc 7 64, 3, 0, []) := by decide +kernel
theorem zr_114_64 {l0 l1 l2 l3 l4 l5 l6 l8 l9 : Option zV} {x : Int} {st : List zV} {w : zW} {Q : Option zV → zW → Prop}  : zR 114 64 [l0, l1, l2, l3, l4, l5, l6, some (.inl x), l8, l9] st w Q = zR 114 67 [l0, l1, l2, l3, l4, l5, l6, some (.inl (x + 64)), l8, l9] st w Q := zR_go (zst zT_114_64 rfl)
theorem zT_114_67 : zT 114 67 = some (.bipush 8, 2, 0, []) := by decide +kernel
theorem zr_114_67 {l0 l1 l2 l3 l4 l5 l6 l7 l8 l9 : Option zV} {st : List zV} {w : zW} {Q : Option zV → zW → Prop}  : zR 114 67 [l0, l1, l2, l3, l4, l5, l6, l7, l8, l9] st w Q = zR 114 69 [l0, l1, l2, l3, l4, l5, l6, l7, l8, l9] (.inl 8 :: st) w Q := zR_go (zst zT_114_67 rfl)
theorem zT_114_69 : zT 114 69 = some (.iload 6, 2, 0, []) := by decide +kernel
theorem zr_114_69 {l0 l1 l2 l3 l4 l5 l7 l8 l9 : Option zV} {x : Int} {st : List zV} {w : zW} {Q : Option zV → zW → Prop}  : zR 114 69 [l0, l1, l2, l3, l4, l5, some (.inl x), l7, l8, l9] st w Q = zR 114 71 [l0, l1, l2, l3, l4, l5, some (.inl x), l7, l8, l9] (.inl x :: st) w Q := zR_go (zst zT_114_69 rfl)
theorem zT_114_71 : zT 114 71 = some (.imul, 1, 0, []) := by decide +kernel
theorem zr_114_71 {l0 l1 l2 l3 l4 l5 l6 l7 l8 l9 : Option zV} {x y : Int} {st : List zV} {w : zW} {Q : Option zV → zW → Prop}  : zR 114 71 [l0, l1, l2, l3, l4, l5, l6, l7, l8, l9] (.inl y :: .inl x :: st) w Q = zR 114 72 [l0, l1, l2, l3, l4, l5, l6, l7, l8, l9] (.inl (x * y) :: st) w Q := zR_go (zst zT_114_71 rfl)
theorem zT_114_72 : zT 114 72 = some (.istore 8, 2, 0, []) := by decide +kernel
theorem zr_114_72 {l0 l1 l2 l3 l4 l5 l6 l7 l8 l9 : Option zV} {x : Int} {st : List zV} {w : zW} {Q : Option zV → zW → Prop}  : zR 114 72 [l0, l1, l2, l3, l4, l5, l6, l7, l8, l9] (.inl x :: st) w Q = zR 114 74 [l0, l1, l2, l3, l4, l5, l6, l7, some (.inl x), l9] st w Q := zR_go (zst zT_114_72 rfl)
theorem zT_114_74 : zT 114 74 = some (.aload_n 0, 1, 0, []) := by decide +kernel
theorem zr_114_74 {l1 l2 l3 l4 l5 l6 l7 l8 l9 : Option zV} {x : Option Nat} {st : List zV} {w : zW} {Q : Option zV → zW → Prop}  : zR 114 74 [some (.inr x), l1, l2, l3, l4, l5, l6, l7, l8, l9] st w Q = zR 114 75 [some (.inr x), l1, l2, l3, l4, l5, l6, l7, l8, l9] (.inr x :: st) w Q := zR_go (zst zT_114_74 rfl)
theorem zT_114_75 : zT 114 75 = some (.getfield 22, 3, 0, [(1, 8), (4, 10), (8, 9)]) := by decide +kernel
theorem zr_114_75c1 {l0 l1 l2 l3 l4 l5 l6 l7 l8 l9 : Option zV} {h : Nat} {st : List zV} {w : zW} {Q : Option zV → zW → Prop} (hk : zk w h = 1) : zR 114 75 [l0, l1, l2, l3, l4, l5, l6, l7, l8, l9] (.inr (some h) :: st) w Q = zR 114 78 [l0, l1, l2, l3, l4, l5, l6, l7, l8, l9] (.inr (zp w 14 h) :: st) w Q := zR_go (zst zT_114_75 (zget_r hk rfl))
theorem zr_114_75c4 {l0 l1 l2 l3 l4 l5 l6 l7 l8 l9 : Option zV} {h : Nat} {st : List zV} {w : zW} {Q : Option zV → zW → Prop} (hk : zk w h = 4) : zR 114 75 [l0, l1, l2, l3, l4, l5, l6, l7, l8, l9] (.inr (some h) :: st) w Q = zR 114 78 [l0, l1, l2, l3, l4, l5, l6, l7, l8, l9] (.inr (zp w 14 h) :: st) w Q := zR_go (zst zT_114_75 (zget_r hk rfl))
theorem zr_114_75c8 {l0 l1 l2 l3 l4 l5 l6 l7 l8 l9 : Option zV} {h : Nat} {st : List zV} {w : zW} {Q : Option zV → zW → Prop} (hk : zk w h = 8) : zR 114 75 [l0, l1, l2, l3, l4, l5, l6, l7, l8, l9] (.inr (some h) :: st) w Q = zR 114 78 [l0, l1, l2, l3, l4, l5, l6, l7, l8, l9] (.inr (zp w 14 h) :: st) w Q := zR_go (zst zT_114_75 (zget_r hk rfl))
theorem zT_114_78 : zT 114 78 = some (.invokevirtual 56, 3, 0, [(2, 131)]) := by decide +kernel
theorem zr_114_78 {l0 l1 l2 l3 l4 l5 l6 l7 l8 l9 : Option zV} {h : Nat} {st : List zV} {w : zW} {Q : Option zV → zW → Prop} (hs : st.length ≤ 8) (hk : zk w h = 2) : zR 114 78 [l0, l1, l2, l3, l4, l5, l6, l7, l8, l9] (.inr (some h) :: st) w Q = zR 131 0 [some (.inr (some h)), none] [] w (fun r w2 => zR 114 81 [l0, l1, l2, l3, l4, l5, l6, l7, l8, l9] (r.toList ++ st) w2 Q) := zR_call (zst zT_114_78 (zcall_v [] rfl hs hk rfl))
theorem zT_114_81 : zT 114 81 = some (.astore 9, 2, 0, []) := by decide +kernel
theorem zr_114_81 {l0 l1 l2 l3 l4 l5 l6 l7 l8 l9 : Option zV} {x : Option Nat} {st : List zV} {w : zW} {Q : Option zV → zW → Prop}  : zR 114 81 [l0, l1, l2, l3, l4, l5, l6, l7, l8, l9] (.inr x :: st) w Q = zR 114 83 [l0, l1, l2, l3, l4, l5, l6, l7, l8, some (.inr x)] st w Q := zR_go (zst zT_114_81 rfl)
theorem zT_114_83 : zT 114 83 = some (.aload 9, 2, 0, []) := by decide +kernel
theorem zr_114_83 {l0 l1 l2 l3 l4 l5 l6 l7 l8 : Option zV} {x : Option Nat} {st : List zV} {w : zW} {Q : Option zV → zW → Prop}  : zR 114 83 [l0, l1, l2, l3, l4, l5, l6, l7, l8, some (.inr x)] st w Q = zR 114 85 [l0, l1, l2, l3, l4, l5, l6, l7, l8, some (.inr x)] (.inr x :: st) w Q := zR_go (zst zT_114_83 rfl)
theorem zT_114_85 : zT 114 85 = some (.iload_n 1, 1, 0, []) := by decide +kernel
theorem zr_114_85 {l0 l2 l3 l4 l5 l6 l7 l8 l9 : Option zV} {x : Int} {st : List zV} {w : zW} {Q : Option zV → zW → Prop}  : zR 114 85 [l0, some (.inl x), l2, l3, l4, l5, l6, l7, l8, l9] st w Q = zR 114 86 [l0, some (.inl x), l2, l3, l4, l5, l6, l7, l8, l9] (.inl x :: st) w Q := zR_go (zst zT_114_85 rfl)
theorem zT_114_86 : zT 114 86 = some (.aload_n 0, 1, 0, []) := by decide +kernel
theorem zr_114_86 {l1 l2 l3 l4 l5 l6 l7 l8 l9 : Option zV} {x : Option Nat} {st : List zV} {w : zW} {Q : Option zV → zW → Prop}  : zR 114 86 [some (.inr x), l1, l2, l3, l4, l5, l6, l7, l8, l9] st w Q = zR 114 87 [some (.inr x), l1, l2, l3, l4, l5, l6, l7, l8, l9] (.inr x :: st) w Q := zR_go (zst zT_114_86 rfl)
theorem zT_114_87 : zT 114 87 = some (.getfield 22, 3, 0, [(1, 8), (4, 10), (8, 9)]) := by decide +kernel
theorem zr_114_87c1 {l0 l1 l2 l3 l4 l5 l6 l7 l8 l9 : Option zV} {h : Nat} {st : List zV} {w : zW} {Q : Option zV → zW → Prop} (hk : zk w h = 1) : zR 114 87 [l0, l1, l2, l3, l4, l5, l6, l7, l8, l9] (.inr (some h) :: st) w Q = zR 114 90 [l0, l1, l2, l3, l4, l5, l6, l7, l8, l9] (.inr (zp w 14 h) :: st) w Q := zR_go (zst zT_114_87 (zget_r hk rfl))
theorem zr_114_87c4 {l0 l1 l2 l3 l4 l5 l6 l7 l8 l9 : Option zV} {h : Nat} {st : List zV} {w : zW} {Q : Option zV → zW → Prop} (hk : zk w h = 4) : zR 114 87 [l0, l1, l2, l3, l4, l5, l6, l7, l8, l9] (.inr (some h) :: st) w Q = zR 114 90 [l0, l1, l2, l3, l4, l5, l6, l7, l8, l9] (.inr (zp w 14 h) :: st) w Q := zR_go (zst zT_114_87 (zget_r hk rfl))
theorem zr_114_87c8 {l0 l1 l2 l3 l4 l5 l6 l7 l8 l9 : Option zV} {h : Nat} {st : List zV} {w : zW} {Q : Option zV → zW → Prop} (hk : zk w h = 8) : zR 114 87 [l0, l1, l2, l3, l4, l5, l6, l7, l8, l9] (.inr (some h) :: st) w Q = zR 114 90 [l0, l1, l2, l3, l4, l5, l6, l7, l8, l9] (.inr (zp w 14 h) :: st) w Q := zR_go (zst zT_114_87 (zget_r hk rfl))
theorem zT_114_90 : zT 114 90 = some (.getfield 35, 3, 0, [(2, 4)]) := by decide +kernel
theorem zr_114_90 {l0 l1 l2 l3 l4 l5 l6 l7 l8 l9 : Option zV} {h : Nat} {st : List zV} {w : zW} {Q : Option zV → zW → Prop} (hk : zk w h = 2) : zR 114 90 [l0, l1, l2, l3, l4, l5, l6, l7, l8, l9] (.inr (some h) :: st) w Q = zR 114 93 [l0, l1, l2, l3, l4, l5, l6, l7, l8, l9] (.inl (zf w 21 h) :: st) w Q := zR_go (zst zT_114_90 (zget_i hk (Or.inl rfl)))
theorem zT_114_93 : zT 114 93 = some (.iload 7, 2, 0, []) := by decide +kernel
theorem zr_114_93 {l0 l1 l2 l3 l4 l5 l6 l8 l9 : Option zV} {x : Int} {st : List zV} {w : zW} {Q : Option zV → zW → Prop}  : zR 114 93 [l0, l1, l2, l3, l4, l5, l6, some (.inl x), l8, l9] st w Q = zR 114 95 [l0, l1, l2, l3, l4, l5, l6, some (.inl x), l8, l9] (.inl x :: st) w Q := zR_go (zst zT_114_93 rfl)
theorem zT_114_95 : zT 114 95 = some (.invokevirtual 60, 3, 3, [(3, 117)]) := by decide +kernel
theorem zr_114_95 {l0 l1 l2 l3 l4 l5 l6 l7 l8 l9 : Option zV} {a0 a1 a2 : zV} {h : Nat} {st : List zV} {w : zW} {Q : Option zV → zW → Prop} (hs : st.length ≤ 8) (hk : zk w h = 3) : zR 114 95 [l0, l1, l2, l3, l4, l5, l6, l7, l8, l9] (a2 :: a1 :: a0 :: .inr (some h) :: st) w Q = zR 117 0 [some (.inr (some h)), some a0, some a1, some a2] [] w (fun r w2 => zR 114 98 [l0, l1, l2, l3, l4, l5, l6, l7, l8, l9] (r.toList ++ st) w2 Q) := zR_call (zst zT_114_95 (zcall_v [a2, a1, a0] rfl hs hk rfl))
theorem zT_114_98 : zT 114 98 = some (.aload 9, 2, 0, []) := by decide +kernel
theorem zr_114_98 {l0 l1 l2 l3 l4 l5 l6 l7 l8 : Option zV} {x : Option Nat} {st : List zV} {w : zW} {Q : Option zV → zW → Prop}  : zR 114 98 [l0, l1, l2, l3, l4, l5, l6, l7, l8, some (.inr x)] st w Q = zR 114 100 [l0, l1, l2, l3, l4, l5, l6, l7, l8, some (.inr x)] (.inr x :: st) w Q := zR_go (zst zT_114_98 rfl)
theorem zT_114_100 : zT 114 100 = some (.aload_n 3, 1, 0, []) := by decide +kernel
theorem zr_114_100 {l0 l1 l2 l4 l5 l6 l7 l8 l9 : Option zV} {x : Option Nat} {st : List zV} {w : zW} {Q : Option zV → zW → Prop}  : zR 114 100 [l0, l1, l2, some (.inr x), l4, l5, l6, l7, l8, l9] st w Q = zR 114 101 [l0, l1, l2, some (.inr x), l4, l5, l6, l7, l8, l9] (.inr x :: st) w Q := zR_go (zst zT_114_100 rfl)
theorem zT_114_101 : zT 114 101 = some (.iload 8, 2, 0, []) := by decide +kernel
theorem zr_114_101 {l0 l1 l2 l3 l4 l5 l6 l7 l9 : Option zV} {x : Int} {st : List zV} {w : zW} {Q : Option zV → zW → Prop}  : zR 114 101 [l0, l1, l2, l3, l4, l5, l6, l7, some (.inl x), l9] st w Q = zR 114 103 [l0, l1, l2, l3, l4, l5, l6, l7, some (.inl x), l9] (.inl x :: st) w Q := zR_go (zst zT_114_101 rfl)
theorem zT_114_103 : zT 114 103 = some (.bipush 8, 2, 0, []) := by decide +kernel
theorem zr_114_103 {l0 l1 l2 l3 l4 l5 l6 l7 l8 l9 : Option zV} {st : List zV} {w : zW} {Q : Option zV → zW → Prop}  : zR 114 103 [l0, l1, l2, l3, l4, l5, l6, l7, l8, l9] st w Q = zR 114 105 [l0, l1, l2, l3, l4, l5, l6, l7, l8, l9] (.inl 8 :: st) w Q := zR_go (zst zT_114_103 rfl)
theorem zT_114_105 : zT 114 105 = some (.iload 4, 2, 0, []) := by decide +kernel
theorem zr_114_105 {l0 l1 l2 l3 l5 l6 l7 l8 l9 : Option zV} {x : Int} {st : List zV} {w : zW} {Q : Option zV → zW → Prop}  : zR 114 105 [l0, l1, l2, l3, some (.inl x), l5, l6, l7, l8, l9] st w Q = zR 114 107 [l0, l1, l2, l3, some (.inl x), l5, l6, l7, l8, l9] (.inl x :: st) w Q := zR_go (zst zT_114_105 rfl)
theorem zT_114_107 : zT 114 107 = some (.iload 8, 2, 0, []) := by decide +kernel
theorem zr_114_107 {l0 l1 l2 l3 l4 l5 l6 l7 l9 : Option zV} {x : Int} {st : List zV} {w : zW} {Q : Option zV → zW → Prop}  : zR 114 107 [l0, l1, l2, l3, l4, l5, l6, l7, some (.inl x), l9] st w Q = zR 114 109 [l0, l1, l2, l3, l4, l5, l6, l7, some (.inl x), l9] (.inl x :: st) w Q := zR_go (zst zT_114_107 rfl)
theorem zT_114_109 : zT 114 109 = some (.isub, 1, 0, []) := by decide +kernel
theorem zr_114_109 {l0 l1 l2 l3 l4 l5 l6 l7 l8 l9 : Option zV} {x y : Int} {st : List zV} {w : zW} {Q : Option zV → zW → Prop}  : zR 114 109 [l0, l1, l2, l3, l4, l5, l6, l7, l8, l9] (.inl y :: .inl x :: st) w Q = zR 114 110 [l0, l1, l2, l3, l4, l5, l6, l7, l8, l9] (.inl (x - y) :: st) w Q := zR_go (zst zT_114_109 rfl)
theorem zT_114_110 : zT 114 110 = some (.invokestatic 64, 3, 2, [(1, 0)]) := by decide +kernel
theorem zr_114_110 {l0 l1 l2 l3 l4 l5 l6 l7 l8 l9 : Option zV} {x y : Int} {st : List zV} {w : zW} {Q : Option zV → zW → Prop} (hk : st.length ≤ 8) : zR 114 110 [l0, l1, l2, l3, l4, l5, l6, l7, l8, l9] (.inl y :: .inl x :: st) w Q = zR 114 113 [l0, l1, l2, l3, l4, l5, l6, l7, l8, l9] (.inl (if zN y < zN x then y else x) :: st) w Q := zR_go (zst zT_114_110 (if_pos hk))
theorem zT_114_113 : zT 114 113 = some (.invokevirtual 70, 3, 3, [(3, 118)]) := by decide +kernel
theorem zr_114_113 {l0 l1 l2 l3 l4 l5 l6 l7 l8 l9 : Option zV} {a0 a1 a2 : zV} {h : Nat} {st : List zV} {w : zW} {Q : Option zV → zW → Prop} (hs : st.length ≤ 8) (hk : zk w h = 3) : zR 114 113 [l0, l1, l2, l3, l4, l5, l6, l7, l8, l9] (a2 :: a1 :: a0 :: .inr (some h) :: st) w Q = zR 118 0 [some (.inr (some h)), some a0, some a1, some a2] [] w (fun r w2 => zR 114 116 [l0, l1, l2, l3, l4, l5, l6, l7, l8, l9] (r.toList ++ st) w2 Q) := zR_call (zst zT_114_113 (zcall_v [a2, a1, a0] rfl hs hk rfl))
theorem zT_114_116 : zT 114 116 = some (.iinc 6 1, 3, 0, []) := by decide +kernel
theorem zr_114_116 {l0 l1 l2 l3 l4 l5 l7 l8 l9 : Option zV} {x : Int} {st : List zV} {w : zW} {Q : Option zV → zW → Prop}  : zR 114 116 [l0, l1, l2, l3, l4, l5, some (.inl x), l7, l8, l9] st w Q = zR 114 119 [l0, l1, l2, l3, l4, l5, some (.inl (x + 1)), l7, l8, l9] st w Q := zR_go (zst zT_114_116 rfl)
theorem zT_114_119 : zT 114 119 = some (.goto (-91), 3, 0, []) := by decide +kernel
theorem zr_114_119 {l0 l1 l2 l3 l4 l5 l6 l7 l8 l9 : Option zV} {st : List zV} {w : zW} {Q : Option zV → zW → Prop}  : zR 114 119 [l0, l1, l2, l3, l4, l5, l6, l7, l8, l9] st w Q = zR 114 28 [l0, l1, l2, l3, l4, l5, l6, l7, l8, l9] st w Q := zR_go (zst zT_114_119 rfl)
theorem zT_114_122 : zT 114 122 = some (.return_, 1, 0, []) := by decide +kernel
theorem zr_114_122 {l0 l1 l2 l3 l4 l5 l6 l7 l8 l9 : Option zV} {w : zW} {Q : Option zV → zW → Prop} : zR 114 122 [l0, l1, l2, l3, l4, l5, l6, l7, l8, l9] [] w Q = Q none w := zR_ret (zst zT_114_122 rfl)
theorem zT_115_0 : zT 115 0 = some (.iconst 0, 1, 0, []) := by decide +kernel
theorem zr_115_0 {l0 l1 : Option zV} {st : List zV} {w : zW} {Q : Option zV → zW → Prop}  : zR 115 0 [l0, l1] st w Q = zR 115 1 [l0, l1] (.inl 0 :: st) w Q := zR_go (zst zT_115_0 rfl)
theorem zT_115_1 : zT 115 1 = some (.istore_n 1, 1, 0, []) := by decide +kernel
theorem zr_115_1 {l0 l1 : Option zV} {x : Int} {st : List zV} {w : zW} {Q : Option zV → zW → Prop}  : zR 115 1 [l0, l1] (.inl x :: st) w Q = zR 115 2 [l0, some (.inl x)] st w Q := zR_go (zst zT_115_1 rfl)
theorem zT_115_2 : zT 115 2 = some (.iload_n 1, 1, 0, []) := by decide +kernel
theorem zr_115_2 {l0 : Option zV} {x : Int} {st : List zV} {w : zW} {Q : Option zV → zW → Prop}  : zR 115 2 [l0, some (.inl x)] st w Q = zR 115 3 [l0, some (.inl x)] (.inl x :: st) w Q := zR_go (zst zT_115_2 rfl)
theorem zT_115_3 : zT 115 3 = some (.bipush 64, 2, 0, []) := by decide +kernel
theorem zr_115_3 {l0 l1 : Option zV} {st : List zV} {w : zW} {Q : Option zV → zW → Prop}  : zR 115 3 [l0, l1] st w Q = zR 115 5 [l0, l1] (.inl 64 :: st) w Q := zR_go (zst zT_115_3 rfl)
theorem zT_115_5 : zT 115 5 = some (.if_icmp .ge 28, 3, 0, []) := by decide +kernel
theorem zr_115_5 {l0 l1 : Option zV} {x y : Int} {st : List zV} {w : zW} {Q : Option zV → zW → Prop}  : zR 115 5 [l0, l1] (.inl y :: .inl x :: st) w Q = (if zN y ≤ zN x then zR 115 33 [l0, l1] st w Q else zR 115 8 [l0, l1] st w Q) := zR_if (zstB zT_115_5 rfl) (by simp [zcmp])
theorem zT_115_8 : zT 115 8 = some (.aload_n 0, 1, 0, []) := by decide +kernel
theorem zr_115_8 {l1 : Option zV} {x : Option Nat} {st : List zV} {w : zW} {Q : Option zV → zW → Prop}  : zR 115 8 [some (.inr x), l1] st w Q = zR 115 9 [some (.inr x), l1] (.inr x :: st) w Q := zR_go (zst zT_115_8 rfl)
theorem zT_115_9 : zT 115 9 = some (.getfield 11, 3, 0, [(1, 10), (4, 12), (8, 11)]) := by decide +kernel
theorem zr_115_9c1 {l0 l1 : Option zV} {h : Nat} {st : List zV} {w : zW} {Q : Option zV → zW → Prop} (hk : zk w h = 1) : zR 115 9 [l0, l1] (.inr (some h) :: st) w Q = zR 115 12 [l0, l1] (.inr (zp w 16 h) :: st) w Q := zR_go (zst zT_115_9 (zget_r hk rfl))
theorem zr_115_9c4 {l0 l1 : Option zV} {h : Nat} {st : List zV} {w : zW} {Q : Option zV → zW → Prop} (hk : zk w h = 4) : zR 115 9 [l0, l1] (.inr (some h) :: st) w Q = zR 115 12 [l0, l1] (.inr (zp w 16 h) :: st) w Q := zR_go (zst zT_115_9 (zget_r hk rfl))
theorem zr_115_9c8 {l0 l1 : Option zV} {h : Nat} {st : List zV} {w : zW} {Q : Option zV → zW → Prop} (hk : zk w h = 8) : zR 115 9 [l0, l1] (.inr (some h) :: st) w Q = zR 115 12 [l0, l1] (.inr (zp w 16 h) :: st) w Q := zR_go (zst zT_115_9 (zget_r hk rfl))
theorem zT_115_12 : zT 115 12 = some (.iload_n 1, 1, 0, []) := by decide +kernel
theorem zr_115_12 {l0 : Option zV} {x : Int} {st : List zV} {w : zW} {Q : Option zV → zW → Prop}  : zR 115 12 [l0, some (.inl x)] st w Q = zR 115 13 [l0, some (.inl x)] (.inl x :: st) w Q := zR_go (zst zT_115_12 rfl)
theorem zT_115_13 : zT 115 13 = some (.aaload, 1, 0, []) := by decide +kernel
theorem zr_115_13 {l0 l1 : Option zV} {j : Int} {h : Nat} {st : List zV} {w : zW} {Q : Option zV → zW → Prop} (hk : zNC + 2 < zk w h ∧ zk w h < 1000 ∧ 0 ≤ zN j ∧ zN j < zl w h) : zR 115 13 [l0, l1] (.inl j :: .inr (some h) :: st) w Q = zR 115 14 [l0, l1] (.inr (zb w h (zN j).toNat) :: st) w Q := zR_go (zst zT_115_13 (if_pos hk))
theorem zT_115_14 : zT 115 14 = some (.ifnull 13, 3, 0, []) := by decide +kernel
theorem zr_115_14n {l0 l1 : Option zV} {st : List zV} {w : zW} {Q : Option zV → zW → Prop}  : zR 115 14 [l0, l1] (.inr none :: st) w Q = zR 115 27 [l0, l1] st w Q := zR_go (zst zT_115_14 rfl)
theorem zr_115_14s {l0 l1 : Option zV} {h : Nat} {st : List zV} {w : zW} {Q : Option zV → zW → Prop}  : zR 115 14 [l0, l1] (.inr (some h) :: st) w Q = zR 115 17 [l0, l1] st w Q := zR_go (zst zT_115_14 rfl)
theorem zT_115_17 : zT 115 17 = some (.aload_n 0, 1, 0, []) := by decide +kernel
theorem zr_115_17 {l1 : Option zV} {x : Option Nat} {st : List zV} {w : zW} {Q : Option zV → zW → Prop}  : zR 115 17 [some (.inr x), l1] st w Q = zR 115 18 [some (.inr x), l1] (.inr x :: st) w Q := zR_go (zst zT_115_17 rfl)
theorem zT_115_18 : zT 115 18 = some (.getfield 11, 3, 0, [(1, 10), (4, 12), (8, 11)]) := by decide +kernel
theorem zr_115_18c1 {l0 l1 : Option zV} {h : Nat} {st : List zV} {w : zW} {Q : Option zV → zW → Prop} (hk : zk w h = 1) : zR 115 18 [l0, l1] (.inr (some h) :: st) w Q = zR 115 21 [l0, l1] (.inr (zp w 16 h) :: st) w Q := zR_go (zst zT_115_18 (zget_r hk rfl))
theorem zr_115_18c4 {l0 l1 : Option zV} {h : Nat} {st : List zV} {w : zW} {Q : Option zV → zW → Prop} (hk : zk w h = 4) : zR 115 18 [l0, l1] (.inr (some h) :: st) w Q = zR 115 21 [l0, l1] (.inr (zp w 16 h) :: st) w Q := zR_go (zst zT_115_18 (zget_r hk rfl))
theorem zr_115_18c8 {l0 l1 : Option zV} {h : Nat} {st : List zV} {w : zW} {Q : Option zV → zW → Prop} (hk : zk w h = 8) : zR 115 18 [l0, l1] (.inr (some h) :: st) w Q = zR 115 21 [l0, l1] (.inr (zp w 16 h) :: st) w Q := zR_go (zst zT_115_18 (zget_r hk rfl))
theorem zT_115_21 : zT 115 21 = some (.iload_n 1, 1, 0, []) := by decide +kernel
theorem zr_115_21 {l0 : Option zV} {x : Int} {st : List zV} {w : zW} {Q : Option zV → zW → Prop}  : zR 115 21 [l0, some (.inl x)] st w Q = zR 115 22 [l0, some (.inl x)] (.inl x :: st) w Q := zR_go (zst zT_115_21 rfl)
theorem zT_115_22 : zT 115 22 = some (.aaload, 1, 0, []) := by decide +kernel
theorem zr_115_22 {l0 l1 : Option zV} {j : Int} {h : Nat} {st : List zV} {w : zW} {Q : Option zV → zW → Prop} (hk : zNC + 2 < zk w h ∧ zk w h < 1000 ∧ 0 ≤ zN j ∧ zN j < zl w h) : zR 115 22 [l0, l1] (.inl j :: .inr (some h) :: st) w Q = zR 115 23 [l0, l1] (.inr (zb w h (zN j).toNat) :: st) w Q := zR_go (zst zT_115_22 (if_pos hk))
theorem zT_115_23 : zT 115 23 = some (.iconst 0, 1, 0, []) := by decide +kernel
theorem zr_115_23 {l0 l1 : Option zV} {st : List zV} {w : zW} {Q : Option zV → zW → Prop}  : zR 115 23 [l0, l1] st w Q = zR 115 24 [l0, l1] (.inl 0 :: st) w Q := zR_go (zst zT_115_23 rfl)
theorem zT_115_24 : zT 115 24 = some (.putfield 74, 3, 0, [(9, 4)]) := by decide +kernel
theorem zr_115_24 {l0 l1 : Option zV} {h : Nat} {x : Int} {st : List zV} {w : zW} {Q : Option zV → zW → Prop} (hk : zk w h = 9) (hx : zN x = 0 ∨ zN x = 1) : zR 115 24 [l0, l1] (.inl x :: .inr (some h) :: st) w Q = zR 115 27 [l0, l1] st (zsf w 62 h x) Q := zR_go (zst zT_115_24 (zput_z hk rfl hx))
theorem zT_115_27 : zT 115 27 = some (.iinc 1 1, 3, 0, []) := by decide +kernel
theorem zr_115_27 {l0 : Option zV} {x : Int} {st : List zV} {w : zW} {Q : Option zV → zW → Prop}  : zR 115 27 [l0, some (.inl x)] st w Q = zR 115 30 [l0, some (.inl (x + 1))] st w Q := zR_go (zst zT_115_27 rfl)
theorem zT_115_30 : zT 115 30 = some (.goto (-28), 3, 0, []) := by decide +kernel
theorem zr_115_30 {l0 l1 : Option zV} {st : List zV} {w : zW} {Q : Option zV → zW → Prop}  : zR 115 30 [l0, l1] st w Q = zR 115 2 [l0, l1] st w Q := zR_go (zst zT_115_30 rfl)
theorem zT_115_33 : zT 115 33 = some (.return_, 1, 0, []) := by decide +kernel
theorem zr_115_33 {l0 l1 : Option zV} {w : zW} {Q : Option zV → zW → Prop} : zR 115 33 [l0, l1] [] w Q = Q none w := zR_ret (zst zT_115_33 rfl)
theorem zT_117_0 : zT 117 0 = some (.aload_n 0, 1, 0, []) := by decide +kernel
theorem zr_117_0 {l1 l2 l3 : Option zV} {x : Option Nat} {st : List zV} {w : zW} {Q : Option zV → zW → Prop}  : zR 117 0 [some (.inr x), l1, l2, l3] st w Q = zR 117 1 [some (.inr x), l1, l2, l3] (.inr x :: st) w Q := zR_go (zst zT_117_0 rfl)
theorem zT_117_1 : zT 117 1 = some (.iload_n 1, 1, 0, []) := by decide +kernel
theorem zr_117_1 {l0 l2 l3 : Option zV} {x : Int} {st : List zV} {w : zW} {Q : Option zV → zW → Prop}  : zR 117 1 [l0, some (.inl x), l2, l3] st w Q = zR 117 2 [l0, some (.inl x), l2, l3] (.inl x :: st) w Q := zR_go (zst zT_117_1 rfl)
theorem zT_117_2 : zT 117 2 = some (.putfield 15, 3, 0, [(3, 0)]) := by decide +kernel
theorem zr_117_2 {l0 l1 l2 l3 : Option zV} {h : Nat} {x : Int} {st : List zV} {w : zW} {Q : Option zV → zW → Prop} (hk : zk w h = 3) : zR 117 2 [l0, l1, l2, l3] (.inl x :: .inr (some h) :: st) w Q = zR 117 5 [l0, l1, l2, l3] st (zsf w 26 h x) Q := zR_go (zst zT_117_2 (zput_i hk rfl))
theorem zT_117_5 : zT 117 5 = some (.aload_n 0, 1, 0, []) := by decide +kernel
theorem zr_117_5 {l1 l2 l3 : Option zV} {x : Option Nat} {st : List zV} {w : zW} {Q : Option zV → zW → Prop}  : zR 117 5 [some (.inr x), l1, l2, l3] st w Q = zR 117 6 [some (.inr x), l1, l2, l3] (.inr x :: st) w Q := zR_go (zst zT_117_5 rfl)
theorem zT_117_6 : zT 117 6 = some (.iload_n 2, 1, 0, []) := by decide +kernel
theorem zr_117_6 {l0 l1 l3 : Option zV} {x : Int} {st : List zV} {w : zW} {Q : Option zV → zW → Prop}  : zR 117 6 [l0, l1, some (.inl x), l3] st w Q = zR 117 7 [l0, l1, some (.inl x), l3] (.inl x :: st) w Q := zR_go (zst zT_117_6 rfl)
theorem zT_117_7 : zT 117 7 = some (.putfield 19, 3, 0, [(3, 1)]) := by decide +kernel
theorem zr_117_7 {l0 l1 l2 l3 : Option zV} {h : Nat} {x : Int} {st : List zV} {w : zW} {Q : Option zV → zW → Prop} (hk : zk w h = 3) : zR 117 7 [l0, l1, l2, l3] (.inl x :: .inr (some h) :: st) w Q = zR 117 10 [l0, l1, l2, l3] st (zsf w 27 h x) Q := zR_go (zst zT_117_7 (zput_i hk rfl))
theorem zT_117_10 : zT 117 10 = some (.aload_n 0, 1, 0, []) := by decide +kernel
theorem zr_117_10 {l1 l2 l3 : Option zV} {x : Option Nat} {st : List zV} {w : zW} {Q : Option zV → zW → Prop}  : zR 117 10 [some (.inr x), l1, l2, l3] st w Q = zR 117 11 [some (.inr x), l1, l2, l3] (.inr x :: st) w Q := zR_go (zst zT_117_10 rfl)
theorem zT_117_11 : zT 117 11 = some (.iload_n 3, 1, 0, []) := by decide +kernel
theorem zr_117_11 {l0 l1 l2 : Option zV} {x : Int} {st : List zV} {w : zW} {Q : Option zV → zW → Prop}  : zR 117 11 [l0, l1, l2, some (.inl x)] st w Q = zR 117 12 [l0, l1, l2, some (.inl x)] (.inl x :: st) w Q := zR_go (zst zT_117_11 rfl)
theorem zT_117_12 : zT 117 12 = some (.putfield 22, 3, 0, [(3, 2)]) := by decide +kernel
theorem zr_117_12 {l0 l1 l2 l3 : Option zV} {h : Nat} {x : Int} {st : List zV} {w : zW} {Q : Option zV → zW → Prop} (hk : zk w h = 3) : zR 117 12 [l0, l1, l2, l3] (.inl x :: .inr (some h) :: st) w Q = zR 117 15 [l0, l1, l2, l3] st (zsf w 28 h x) Q := zR_go (zst zT_117_12 (zput_i hk rfl))
theorem zT_117_15 : zT 117 15 = some (.return_, 1, 0, []) := by decide +kernel
theorem zr_117_15 {l0 l1 l2 l3 : Option zV} {w : zW} {Q : Option zV → zW → Prop} : zR 117 15 [l0, l1, l2, l3] [] w Q = Q none w := zR_ret (zst zT_117_15 rfl)
theorem zT_118_0 : zT 118 0 = some (.aload_n 0, 1, 0, []) := by decide +kernel
theorem zr_118_0 {l1 l2 l3 : Option zV} {x : Option Nat} {st : List zV} {w : zW} {Q : Option zV → zW → Prop}  : zR 118 0 [some (.inr x), l1, l2, l3] st w Q = zR 118 1 [some (.inr x), l1, l2, l3] (.inr x :: st) w Q := zR_go (zst zT_118_0 rfl)
theorem zT_118_1 : zT 118 1 = some (.iload_n 3, 1, 0, []) := by decide +kernel
theorem zr_118_1 {l0 l1 l2 : Option zV} {x : Int} {st : List zV} {w : zW} {Q : Option zV → zW → Prop}  : zR 118 1 [l0, l1, l2, some (.inl x)] st w Q = zR 118 2 [l0, l1, l2, some (.inl x)] (.inl x :: st) w Q := zR_go (zst zT_118_1 rfl)
theorem zT_118_2 : zT 118 2 = some (.putfield 25, 3, 0, [(3, 3)]) := by decide +kernel
theorem zr_118_2 {l0 l1 l2 l3 : Option zV} {h : Nat} {x : Int} {st : List zV} {w : zW} {Q : Option zV → zW → Prop} (hk : zk w h = 3) : zR 118 2 [l0, l1, l2, l3] (.inl x :: .inr (some h) :: st) w Q = zR 118 5 [l0, l1, l2, l3] st (zsf w 29 h x) Q := zR_go (zst zT_118_2 (zput_i hk rfl))
theorem zT_118_5 : zT 118 5 = some (.aload_n 1, 1, 0, []) := by decide +kernel
theorem zr_118_5 {l0 l2 l3 : Option zV} {x : Option Nat} {st : List zV} {w : zW} {Q : Option zV → zW → Prop}  : zR 118 5 [l0, some (.inr x), l2, l3] st w Q = zR 118 6 [l0, some (.inr x), l2, l3] (.inr x :: st) w Q := zR_go (zst zT_118_5 rfl)
theorem zT_118_6 : zT 118 6 = some (.iload_n 2, 1, 0, []) := by decide +kernel
theorem zr_118_6 {l0 l1 l3 : Option zV} {x : Int} {st : List zV} {w : zW} {Q : Option zV → zW → Prop}  : zR 118 6 [l0, l1, some (.inl x), l3] st w Q = zR 118 7 [l0, l1, some (.inl x), l3] (.inl x :: st) w Q := zR_go (zst zT_118_6 rfl)
theorem zT_118_7 : zT 118 7 = some (.aload_n 0, 1, 0, []) := by decide +kernel
theorem zr_118_7 {l1 l2 l3 : Option zV} {x : Option Nat} {st : List zV} {w : zW} {Q : Option zV → zW → Prop}  : zR 118 7 [some (.inr x), l1, l2, l3] st w Q = zR 118 8 [some (.inr x), l1, l2, l3] (.inr x :: st) w Q := zR_go (zst zT_118_7 rfl)
theorem zT_118_8 : zT 118 8 = some (.getfield 9, 3, 0, [(3, 4)]) := by decide +kernel
theorem zr_118_8 {l0 l1 l2 l3 : Option zV} {h : Nat} {st : List zV} {w : zW} {Q : Option zV → zW → Prop} (hk : zk w h = 3) : zR 118 8 [l0, l1, l2, l3] (.inr (some h) :: st) w Q = zR 118 11 [l0, l1, l2, l3] (.inr (zp w 30 h) :: st) w Q := zR_go (zst zT_118_8 (zget_r hk rfl))
theorem zT_118_11 : zT 118 11 = some (.iconst 0, 1, 0, []) := by decide +kernel
theorem zr_118_11 {l0 l1 l2 l3 : Option zV} {st : List zV} {w : zW} {Q : Option zV → zW → Prop}  : zR 118 11 [l0, l1, l2, l3] st w Q = zR 118 12 [l0, l1, l2, l3] (.inl 0 :: st) w Q := zR_go (zst zT_118_11 rfl)
theorem zT_118_12 : zT 118 12 = some (.iload_n 3, 1, 0, []) := by decide +kernel
theorem zr_118_12 {l0 l1 l2 : Option zV} {x : Int} {st : List zV} {w : zW} {Q : Option zV → zW → Prop}  : zR 118 12 [l0, l1, l2, some (.inl x)] st w Q = zR 118 13 [l0, l1, l2, some (.inl x)] (.inl x :: st) w Q := zR_go (zst zT_118_12 rfl)
theorem zT_118_13 : zT 118 13 = some (.invokestatic 28, 3, 5, [(0, 0)]) := by decide +kernel
theorem zr_118_13 {l0 l1 l2 l3 : Option zV} {n dp sp : Int} {g h : Nat} {st : List zV} {w : zW} {Q : Option zV → zW → Prop} (hk : zk w h = zNC ∧ zk w g = zNC ∧ 0 ≤ zN sp ∧ 0 ≤ zN dp ∧ 0 ≤ zN n ∧ zN sp + zN n ≤ zl w h ∧ zN dp + zN n ≤ zl w g ∧ st.length ≤ 8) : zR 118 13 [l0, l1, l2, l3] (.inl n :: .inl dp :: .inr (some g) :: .inl sp :: .inr (some h) :: st) w Q = zR 118 16 [l0, l1, l2, l3] st (zcp w h (zN sp).toNat g (zN dp).toNat (zN n).toNat) Q := zR_go (zst zT_118_13 (if_pos hk))
theorem zT_118_16 : zT 118 16 = some (.return_, 1, 0, []) := by decide +kernel
theorem zr_118_16 {l0 l1 l2 l3 : Option zV} {w : zW} {Q : Option zV → zW → Prop} : zR 118 16 [l0, l1, l2, l3] [] w Q = Q none w := zR_ret (zst zT_118_16 rfl)
theorem zT_119_0 : zT 119 0 = some (.aload_n 0, 1, 0, []) := by decide +kernel
theorem zr_119_0 {x : Option Nat} {st : List zV} {w : zW} {Q : Option zV → zW → Prop}  : zR 119 0 [some (.inr x)] st w Q = zR 119 1 [some (.inr x)] (.inr x :: st) w Q := zR_go (zst zT_119_0 rfl)
theorem zT_119_1 : zT 119 1 = some (.getfield 22, 3, 0, [(3, 2)]) := by decide +kernel
theorem zr_119_1 {l0 : Option zV} {h : Nat} {st : List zV} {w : zW} {Q : Option zV → zW → Prop} (hk : zk w h = 3) : zR 119 1 [l0] (.inr (some h) :: st) w Q = zR 119 4 [l0] (.inl (zf w 28 h) :: st) w Q := zR_go (zst zT_119_1 (zget_i hk (Or.inl rfl)))
theorem zT_119_4 : zT 119 4 = some (.sipush 128, 3, 0, []) := by decide +kernel
theorem zr_119_4 {l0 : Option zV} {st : List zV} {w : zW} {Q : Option zV → zW → Prop}  : zR 119 4 [l0] st w Q = zR 119 7 [l0] (.inl 128 :: st) w Q := zR_go (zst zT_119_4 rfl)
theorem zT_119_7 : zT 119 7 = some (.iand, 1, 0, []) := by decide +kernel
theorem zr_119_7 {l0 : Option zV} {x y : Int} {st : List zV} {w : zW} {Q : Option zV → zW → Prop}  : zR 119 7 [l0] (.inl y :: .inl x :: st) w Q = zR 119 8 [l0] (.inl (zo_and x y) :: st) w Q := zR_go (zst zT_119_7 rfl)
theorem zT_119_8 : zT 119 8 = some (.ifCond .eq 7, 3, 0, []) := by decide +kernel
theorem zr_119_8 {l0 : Option zV} {x : Int} {st : List zV} {w : zW} {Q : Option zV → zW → Prop}  : zR 119 8 [l0] (.inl x :: st) w Q = (if zN x = 0 then zR 119 15 [l0] st w Q else zR 119 11 [l0] st w Q) := zR_if (zstB zT_119_8 rfl) (by simp [zcmp])
theorem zT_119_11 : zT 119 11 = some (.iconst 1, 1, 0, []) := by decide +kernel
theorem zr_119_11 {l0 : Option zV} {st : List zV} {w : zW} {Q : Option zV → zW → Prop}  : zR 119 11 [l0] st w Q = zR 119 12 [l0] (.inl 1 :: st) w Q := zR_go (zst zT_119_11 rfl)
theorem zT_119_12 : zT 119 12 = some (.goto 4, 3, 0, []) := by decide +kernel
theorem zr_119_12 {l0 : Option zV} {st : List zV} {w : zW} {Q : Option zV → zW → Prop}  : zR 119 12 [l0] st w Q = zR 119 16 [l0] st w Q := zR_go (zst zT_119_12 rfl)
theorem zT_119_15 : zT 119 15 = some (.iconst 0, 1, 0, []) := by decide +kernel
theorem zr_119_15 {l0 : Option zV} {st : List zV} {w : zW} {Q : Option zV → zW → Prop}  : zR 119 15 [l0] st w Q = zR 119 16 [l0] (.inl 0 :: st) w Q := zR_go (zst zT_119_15 rfl)
theorem zT_119_16 : zT 119 16 = some (.ireturn, 1, 0, []) := by decide +kernel
theorem zr_119_16 {l0 : Option zV} {x : Int} {w : zW} {Q : Option zV → zW → Prop} (hx : zN x = 0 ∨ zN x = 1) : zR 119 16 [l0] [.inl x] w Q = Q (some (.inl x)) w := zR_ret (zst zT_119_16 (if_pos (Or.inr ⟨rfl, hx⟩)))
theorem zT_120_0 : zT 120 0 = some (.aload_n 0, 1, 0, []) := by decide +kernel
theorem zr_120_0 {x : Option Nat} {st : List zV} {w : zW} {Q : Option zV → zW → Prop}  : zR 120 0 [some (.inr x)] st w Q = zR 120 1 [some (.inr x)] (.inr x :: st) w Q := zR_go (zst zT_120_0 rfl)
theorem zT_120_1 : zT 120 1 = some (.getfield 22, 3, 0, [(3, 2)]) := by decide +kernel
theorem zr_120_1 {l0 : Option zV} {h : Nat} {st : List zV} {w : zW} {Q : Option zV → zW → Prop} (hk : zk w h = 3) : zR 120 1 [l0] (.inr (some h) :: st) w Q = zR 120 4 [l0] (.inl (zf w 28 h) :: st) w Q := zR_go (zst zT_120_1 (zget_i hk (Or.inl rfl)))
theorem zT_120_4 : zT 120 4 = some (.bipush 64, 2, 0, []) := by decide +kernel
theorem zr_120_4 {l0 : Option zV} {st : List zV} {w : zW} {Q : Option zV → zW → Prop}  : zR 120 4 [l0] st w Q = zR 120 6 [l0] (.inl 64 :: st) w Q := zR_go (zst zT_120_4 rfl)
theorem zT_120_6 : zT 120 6 = some (.iand, 1, 0, []) := by decide +kernel
theorem zr_120_6 {l0 : Option zV} {x y : Int} {st : List zV} {w : zW} {Q : Option zV → zW → Prop}  : zR 120 6 [l0] (.inl y :: .inl x :: st) w Q = zR 120 7 [l0] (.inl (zo_and x y) :: st) w Q := zR_go (zst zT_120_6 rfl)
theorem zT_120_7 : zT 120 7 = some (.ifCond .eq 7, 3, 0, []) := by decide +kernel
theorem zr_120_7 {l0 : Option zV} {x : Int} {st : List zV} {w : zW} {Q : Option zV → zW → Prop}  : zR 120 7 [l0] (.inl x :: st) w Q = (if zN x = 0 then zR 120 14 [l0] st w Q else zR 120 10 [l0] st w Q) := zR_if (zstB zT_120_7 rfl) (by simp [zcmp])
theorem zT_120_10 : zT 120 10 = some (.iconst 1, 1, 0, []) := by decide +kernel
theorem zr_120_10 {l0 : Option zV} {st : List zV} {w : zW} {Q : Option zV → zW → Prop}  : zR 120 10 [l0] st w Q = zR 120 11 [l0] (.inl 1 :: st) w Q := zR_go (zst zT_120_10 rfl)
theorem zT_120_11 : zT 120 11 = some (.goto 4, 3, 0, []) := by decide +kernel
theorem zr_120_11 {l0 : Option zV} {st : List zV} {w : zW} {Q : Option zV → zW → Prop}  : zR 120 11 [l0] st w Q = zR 120 15 [l0] st w Q := zR_go (zst zT_120_11 rfl)
theorem zT_120_14 : zT 120 14 = some (.iconst 0, 1, 0, []) := by decide +kernel
theorem zr_120_14 {l0 : Option zV} {st : List zV} {w : zW} {Q : Option zV → zW → Prop}  : zR 120 14 [l0] st w Q = zR 120 15 [l0] (.inl 0 :: st) w Q := zR_go (zst zT_120_14 rfl)
theorem zT_120_15 : zT 120 15 = some (.ireturn, 1, 0, []) := by decide +kernel
theorem zr_120_15 {l0 : Option zV} {x : Int} {w : zW} {Q : Option zV → zW → Prop} (hx : zN x = 0 ∨ zN x = 1) : zR 120 15 [l0] [.inl x] w Q = Q (some (.inl x)) w := zR_ret (zst zT_120_15 (if_pos (Or.inr ⟨rfl, hx⟩)))
theorem zT_121_0 : zT 121 0 = some (.aload_n 0, 1, 0, []) := by decide +kernel
theorem zr_121_0 {x : Option Nat} {st : List zV} {w : zW} {Q : Option zV → zW → Prop}  : zR 121 0 [some (.inr x)] st w Q = zR 121 1 [some (.inr x)] (.inr x :: st) w Q := zR_go (zst zT_121_0 rfl)
theorem zT_121_1 : zT 121 1 = some (.getfield 22, 3, 0, [(3, 2)]) := by decide +kernel
theorem zr_121_1 {l0 : Option zV} {h : Nat} {st : List zV} {w : zW} {Q : Option zV → zW → Prop} (hk : zk w h = 3) : zR 121 1 [l0] (.inr (some h) :: st) w Q = zR 121 4 [l0] (.inl (zf w 28 h) :: st) w Q := zR_go (zst zT_121_1 (zget_i hk (Or.inl rfl)))
theorem zT_121_4 : zT 121 4 = some (.bipush 16, 2, 0, []) := by decide +kernel
theorem zr_121_4 {l0 : Option zV} {st : List zV} {w : zW} {Q : Option zV → zW → Prop}  : zR 121 4 [l0] st w Q = zR 121 6 [l0] (.inl 16 :: st) w Q := zR_go (zst zT_121_4 rfl)
theorem zT_121_6 : zT 121 6 = some (.idiv, 1, 0, []) := by decide +kernel
theorem zr_121_6 {l0 : Option zV} {x y : Int} {st : List zV} {w : zW} {Q : Option zV → zW → Prop} (hy : ¬ zN y = 0) : zR 121 6 [l0] (.inl y :: .inl x :: st) w Q = zR 121 7 [l0] (.inl (zo_div x y) :: st) w Q := zR_go (zst zT_121_6 (if_neg hy))
theorem zT_121_7 : zT 121 7 = some (.iconst 4, 1, 0, []) := by decide +kernel
theorem zr_121_7 {l0 : Option zV} {st : List zV} {w : zW} {Q : Option zV → zW → Prop}  : zR 121 7 [l0] st w Q = zR 121 8 [l0] (.inl 4 :: st) w Q := zR_go (zst zT_121_7 rfl)
theorem zT_121_8 : zT 121 8 = some (.irem, 1, 0, []) := by decide +kernel
theorem zr_121_8 {l0 : Option zV} {x y : Int} {st : List zV} {w : zW} {Q : Option zV → zW → Prop} (hy : ¬ zN y = 0) : zR 121 8 [l0] (.inl y :: .inl x :: st) w Q = zR 121 9 [l0] (.inl (zo_rem x y) :: st) w Q := zR_go (zst zT_121_8 (if_neg hy))
theorem zT_121_9 : zT 121 9 = some (.ireturn, 1, 0, []) := by decide +kernel
theorem zr_121_9 {l0 : Option zV} {x : Int} {w : zW} {Q : Option zV → zW → Prop}  : zR 121 9 [l0] [.inl x] w Q = Q (some (.inl x)) w := zR_ret (zst zT_121_9 rfl)
theorem zT_122_0 : zT 122 0 = some (.aload_n 0, 1, 0, []) := by decide +kernel
theorem zr_122_0 {x : Option Nat} {st : List zV} {w : zW} {Q : Option zV → zW → Prop}  : zR 122 0 [some (.inr x)] st w Q = zR 122 1 [some (.inr x)] (.inr x :: st) w Q := zR_go (zst zT_122_0 rfl)
theorem zT_122_1 : zT 122 1 = some (.getfield 22, 3, 0, [(3, 2)]) := by decide +kernel
theorem zr_122_1 {l0 : Option zV} {h : Nat} {st : List zV} {w : zW} {Q : Option zV → zW → Prop} (hk : zk w h = 3) : zR 122 1 [l0] (.inr (some h) :: st) w Q = zR 122 4 [l0] (.inl (zf w 28 h) :: st) w Q := zR_go (zst zT_122_1 (zget_i hk (Or.inl rfl)))
theorem zT_122_4 : zT 122 4 = some (.bipush 16, 2, 0, []) := by decide +kernel
theorem zr_122_4 {l0 : Option zV} {st : List zV} {w : zW} {Q : Option zV → zW → Prop}  : zR 122 4 [l0] st w Q = zR 122 6 [l0] (.inl 16 :: st) w Q := zR_go (zst zT_122_4 rfl)
theorem zT_122_6 : zT 122 6 = some (.irem, 1, 0, []) := by decide +kernel
theorem zr_122_6 {l0 : Option zV} {x y : Int} {st : List zV} {w : zW} {Q : Option zV → zW → Prop} (hy : ¬ zN y = 0) : zR 122 6 [l0] (.inl y :: .inl x :: st) w Q = zR 122 7 [l0] (.inl (zo_rem x y) :: st) w Q := zR_go (zst zT_122_6 (if_neg hy))
theorem zT_122_7 : zT 122 7 = some (.ireturn, 1, 0, []) := by decide +kernel
theorem zr_122_7 {l0 : Option zV} {x : Int} {w : zW} {Q : Option zV → zW → Prop}  : zR 122 7 [l0] [.inl x] w Q = Q (some (.inl x)) w := zR_ret (zst zT_122_7 rfl)
theorem zT_124_0 : zT 124 0 = some (.aload_n 0, 1, 0, []) := by decide +kernel
theorem zr_124_0 {x : Option Nat} {st : List zV} {w : zW} {Q : Option zV → zW → Prop}  : zR 124 0 [some (.inr x)] st w Q = zR 124 1 [some (.inr x)] (.inr x :: st) w Q := zR_go (zst zT_124_0 rfl)
theorem zT_124_1 : zT 124 1 = some (.getfield 19, 3, 0, [(9, 1)]) := by decide +kernel
theorem zr_124_1 {l0 : Option zV} {h : Nat} {st : List zV} {w : zW} {Q : Option zV → zW → Prop} (hk : zk w h = 9) : zR 124 1 [l0] (.inr (some h) :: st) w Q = zR 124 4 [l0] (.inl (zf w 59 h) :: st) w Q := zR_go (zst zT_124_1 (zget_i hk (Or.inl rfl)))
theorem zT_124_4 : zT 124 4 = some (.bipush 8, 2, 0, []) := by decide +kernel
theorem zr_124_4 {l0 : Option zV} {st : List zV} {w : zW} {Q : Option zV → zW → Prop}  : zR 124 4 [l0] st w Q = zR 124 6 [l0] (.inl 8 :: st) w Q := zR_go (zst zT_124_4 rfl)
theorem zT_124_6 : zT 124 6 = some (.if_icmp .ge 7, 3, 0, []) := by decide +kernel
theorem zr_124_6 {l0 : Option zV} {x y : Int} {st : List zV} {w : zW} {Q : Option zV → zW → Prop}  : zR 124 6 [l0] (.inl y :: .inl x :: st) w Q = (if zN y ≤ zN x then zR 124 13 [l0] st w Q else zR 124 9 [l0] st w Q) := zR_if (zstB zT_124_6 rfl) (by simp [zcmp])
theorem zT_124_9 : zT 124 9 = some (.iconst 1, 1, 0, []) := by decide +kernel
theorem zr_124_9 {l0 : Option zV} {st : List zV} {w : zW} {Q : Option zV → zW → Prop}  : zR 124 9 [l0] st w Q = zR 124 10 [l0] (.inl 1 :: st) w Q := zR_go (zst zT_124_9 rfl)
theorem zT_124_10 : zT 124 10 = some (.goto 4, 3, 0, []) := by decide +kernel
theorem zr_124_10 {l0 : Option zV} {st : List zV} {w : zW} {Q : Option zV → zW → Prop}  : zR 124 10 [l0] st w Q = zR 124 14 [l0] st w Q := zR_go (zst zT_124_10 rfl)
theorem zT_124_13 : zT 124 13 = some (.iconst 0, 1, 0, []) := by decide +kernel
theorem zr_124_13 {l0 : Option zV} {st : List zV} {w : zW} {Q : Option zV → zW → Prop}  : zR 124 13 [l0] st w Q = zR 124 14 [l0] (.inl 0 :: st) w Q := zR_go (zst zT_124_13 rfl)
theorem zT_124_14 : zT 124 14 = some (.ireturn, 1, 0, []) := by decide +kernel
theorem zr_124_14 {l0 : Option zV} {x : Int} {w : zW} {Q : Option zV → zW → Prop} (hx : zN x = 0 ∨ zN x = 1) : zR 124 14 [l0] [.inl x] w Q = Q (some (.inl x)) w := zR_ret (zst zT_124_14 (if_pos (Or.inr ⟨rfl, hx⟩)))
theorem zT_125_0 : zT 125 0 = some (.aload_n 0, 1, 0, []) := by decide +kernel
theorem zr_125_0 {x : Option Nat} {st : List zV} {w : zW} {Q : Option zV → zW → Prop}  : zR 125 0 [some (.inr x)] st w Q = zR 125 1 [some (.inr x)] (.inr x :: st) w Q := zR_go (zst zT_125_0 rfl)
theorem zT_125_1 : zT 125 1 = some (.getfield 19, 3, 0, [(9, 1)]) := by decide +kernel
theorem zr_125_1 {l0 : Option zV} {h : Nat} {st : List zV} {w : zW} {Q : Option zV → zW → Prop} (hk : zk w h = 9) : zR 125 1 [l0] (.inr (some h) :: st) w Q = zR 125 4 [l0] (.inl (zf w 59 h) :: st) w Q := zR_go (zst zT_125_1 (zget_i hk (Or.inl rfl)))
theorem zT_125_4 : zT 125 4 = some (.bipush 8, 2, 0, []) := by decide +kernel
theorem zr_125_4 {l0 : Option zV} {st : List zV} {w : zW} {Q : Option zV → zW → Prop}  : zR 125 4 [l0] st w Q = zR 125 6 [l0] (.inl 8 :: st) w Q := zR_go (zst zT_125_4 rfl)
theorem zT_125_6 : zT 125 6 = some (.irem, 1, 0, []) := by decide +kernel
theorem zr_125_6 {l0 : Option zV} {x y : Int} {st : List zV} {w : zW} {Q : Option zV → zW → Prop} (hy : ¬ zN y = 0) : zR 125 6 [l0] (.inl y :: .inl x :: st) w Q = zR 125 7 [l0] (.inl (zo_rem x y) :: st) w Q := zR_go (zst zT_125_6 (if_neg hy))
theorem zT_125_7 : zT 125 7 = some (.ireturn, 1, 0, []) := by decide +kernel
theorem zr_125_7 {l0 : Option zV} {x : Int} {w : zW} {Q : Option zV → zW → Prop}  : zR 125 7 [l0] [.inl x] w Q = Q (some (.inl x)) w := zR_ret (zst zT_125_7 rfl)
theorem zT_126_0 : zT 126 0 = some (.aload_n 1, 1, 0, []) := by decide +kernel
theorem zr_126_0 {l0 : Option zV} {x : Option Nat} {st : List zV} {w : zW} {Q : Option zV → zW → Prop}  : zR 126 0 [l0, some (.inr x)] st w Q = zR 126 1 [l0, some (.inr x)] (.inr x :: st) w Q := zR_go (zst zT_126_0 rfl)
theorem zT_126_1 : zT 126 1 = some (.invokevirtual 22, 3, 0, [(3, 119)]) := by decide +kernel
theorem zr_126_1 {l0 l1 : Option zV} {h : Nat} {st : List zV} {w : zW} {Q : Option zV → zW → Prop} (hs : st.length ≤ 8) (hk : zk w h = 3) : zR 126 1 [l0, l1] (.inr (some h) :: st) w Q = zR 119 0 [some (.inr (some h))] [] w (fun r w2 => zR 126 4 [l0, l1] (r.toList ++ st) w2 Q) := zR_call (zst zT_126_1 (zcall_v [] rfl hs hk rfl))
theorem zT_126_4 : zT 126 4 = some (.ifCond .eq 24, 3, 0, []) := by decide +kernel
theorem zr_126_4 {l0 l1 : Option zV} {x : Int} {st : List zV} {w : zW} {Q : Option zV → zW → Prop}  : zR 126 4 [l0, l1] (.inl x :: st) w Q = (if zN x = 0 then zR 126 28 [l0, l1] st w Q else zR 126 7 [l0, l1] st w Q) := zR_if (zstB zT_126_4 rfl) (by simp [zcmp])
theorem zT_126_7 : zT 126 7 = some (.aload_n 0, 1, 0, []) := by decide +kernel
theorem zr_126_7 {l1 : Option zV} {x : Option Nat} {st : List zV} {w : zW} {Q : Option zV → zW → Prop}  : zR 126 7 [some (.inr x), l1] st w Q = zR 126 8 [some (.inr x), l1] (.inr x :: st) w Q := zR_go (zst zT_126_7 rfl)
theorem zT_126_8 : zT 126 8 = some (.aload_n 1, 1, 0, []) := by decide +kernel
theorem zr_126_8 {l0 : Option zV} {x : Option Nat} {st : List zV} {w : zW} {Q : Option zV → zW → Prop}  : zR 126 8 [l0, some (.inr x)] st w Q = zR 126 9 [l0, some (.inr x)] (.inr x :: st) w Q := zR_go (zst zT_126_8 rfl)
theorem zT_126_9 : zT 126 9 = some (.invokevirtual 28, 3, 0, [(3, 122)]) := by decide +kernel
theorem zr_126_9 {l0 l1 : Option zV} {h : Nat} {st : List zV} {w : zW} {Q : Option zV → zW → Prop} (hs : st.length ≤ 8) (hk : zk w h = 3) : zR 126 9 [l0, l1] (.inr (some h) :: st) w Q = zR 122 0 [some (.inr (some h))] [] w (fun r w2 => zR 126 12 [l0, l1] (r.toList ++ st) w2 Q) := zR_call (zst zT_126_9 (zcall_v [] rfl hs hk rfl))
theorem zT_126_12 : zT 126 12 = some (.putfield 19, 3, 0, [(9, 1)]) := by decide +kernel
theorem zr_126_12 {l0 l1 : Option zV} {h : Nat} {x : Int} {st : List zV} {w : zW} {Q : Option zV → zW → Prop} (hk : zk w h = 9) : zR 126 12 [l0, l1] (.inl x :: .inr (some h) :: st) w Q = zR 126 15 [l0, l1] st (zsf w 59 h x) Q := zR_go (zst zT_126_12 (zput_i hk rfl))
theorem zT_126_15 : zT 126 15 = some (.aload_n 0, 1, 0, []) := by decide +kernel
theorem zr_126_15 {l1 : Option zV} {x : Option Nat} {st : List zV} {w : zW} {Q : Option zV → zW → Prop}  : zR 126 15 [some (.inr x), l1] st w Q = zR 126 16 [some (.inr x), l1] (.inr x :: st) w Q := zR_go (zst zT_126_15 rfl)
theorem zT_126_16 : zT 126 16 = some (.iconst 0, 1, 0, []) := by decide +kernel
theorem zr_126_16 {l0 l1 : Option zV} {st : List zV} {w : zW} {Q : Option zV → zW → Prop}  : zR 126 16 [l0, l1] st w Q = zR 126 17 [l0, l1] (.inl 0 :: st) w Q := zR_go (zst zT_126_16 rfl)
theorem zT_126_17 : zT 126 17 = some (.putfield 31, 3, 0, [(9, 2)]) := by decide +kernel
theorem zr_126_17 {l0 l1 : Option zV} {h : Nat} {x : Int} {st : List zV} {w : zW} {Q : Option zV → zW → Prop} (hk : zk w h = 9) : zR 126 17 [l0, l1] (.inl x :: .inr (some h) :: st) w Q = zR 126 20 [l0, l1] st (zsf w 60 h x) Q := zR_go (zst zT_126_17 (zput_i hk rfl))
theorem zT_126_20 : zT 126 20 = some (.aload_n 0, 1, 0, []) := by decide +kernel
theorem zr_126_20 {l1 : Option zV} {x : Option Nat} {st : List zV} {w : zW} {Q : Option zV → zW → Prop}  : zR 126 20 [some (.inr x), l1] st w Q = zR 126 21 [some (.inr x), l1] (.inr x :: st) w Q := zR_go (zst zT_126_20 rfl)
theorem zT_126_21 : zT 126 21 = some (.iconst 1, 1, 0, []) := by decide +kernel
theorem zr_126_21 {l0 l1 : Option zV} {st : List zV} {w : zW} {Q : Option zV → zW → Prop}  : zR 126 21 [l0, l1] st w Q = zR 126 22 [l0, l1] (.inl 1 :: st) w Q := zR_go (zst zT_126_21 rfl)
theorem zT_126_22 : zT 126 22 = some (.putfield 34, 3, 0, [(9, 4)]) := by decide +kernel
theorem zr_126_22 {l0 l1 : Option zV} {h : Nat} {x : Int} {st : List zV} {w : zW} {Q : Option zV → zW → Prop} (hk : zk w h = 9) (hx : zN x = 0 ∨ zN x = 1) : zR 126 22 [l0, l1] (.inl x :: .inr (some h) :: st) w Q = zR 126 25 [l0, l1] st (zsf w 62 h x) Q := zR_go (zst zT_126_22 (zput_z hk rfl hx))
theorem zT_126_25 : zT 126 25 = some (.goto 30, 3, 0, []) := by decide +kernel
theorem zr_126_25 {l0 l1 : Option zV} {st : List zV} {w : zW} {Q : Option zV → zW → Prop}  : zR 126 25 [l0, l1] st w Q = zR 126 55 [l0, l1] st w Q := zR_go (zst zT_126_25 rfl)
theorem zT_126_28 : zT 126 28 = some (.aload_n 1, 1, 0, []) := by decide +kernel
theorem zr_126_28 {l0 : Option zV} {x : Option Nat} {st : List zV} {w : zW} {Q : Option zV → zW → Prop}  : zR 126 28 [l0, some (.inr x)] st w Q = zR 126 29 [l0, some (.inr x)] (.inr x :: st) w Q := zR_go (zst zT_126_28 rfl)
theorem zT_126_29 : zT 126 29 = some (.invokevirtual 28, 3, 0, [(3, 122)]) := by decide +kernel
theorem zr_126_29 {l0 l1 : Option zV} {h : Nat} {st : List zV} {w : zW} {Q : Option zV → zW → Prop} (hs : st.length ≤ 8) (hk : zk w h = 3) : zR 126 29 [l0, l1] (.inr (some h) :: st) w Q = zR 122 0 [some (.inr (some h))] [] w (fun r w2 => zR 126 32 [l0, l1] (r.toList ++ st) w2 Q) := zR_call (zst zT_126_29 (zcall_v [] rfl hs hk rfl))
theorem zT_126_32 : zT 126 32 = some (.aload_n 0, 1, 0, []) := by decide +kernel
theorem zr_126_32 {l1 : Option zV} {x : Option Nat} {st : List zV} {w : zW} {Q : Option zV → zW → Prop}  : zR 126 32 [some (.inr x), l1] st w Q = zR 126 33 [some (.inr x), l1] (.inr x :: st) w Q := zR_go (zst zT_126_32 rfl)
theorem zT_126_33 : zT 126 33 = some (.getfield 19, 3, 0, [(9, 1)]) := by decide +kernel
theorem zr_126_33 {l0 l1 : Option zV} {h : Nat} {st : List zV} {w : zW} {Q : Option zV → zW → Prop} (hk : zk w h = 9) : zR 126 33 [l0, l1] (.inr (some h) :: st) w Q = zR 126 36 [l0, l1] (.inl (zf w 59 h) :: st) w Q := zR_go (zst zT_126_33 (zget_i hk (Or.inl rfl)))
theorem zT_126_36 : zT 126 36 = some (.if_icmp .ne 14, 3, 0, []) := by decide +kernel
theorem zr_126_36 {l0 l1 : Option zV} {x y : Int} {st : List zV} {w : zW} {Q : Option zV → zW → Prop}  : zR 126 36 [l0, l1] (.inl y :: .inl x :: st) w Q = (if zN x ≠ zN y then zR 126 50 [l0, l1] st w Q else zR 126 39 [l0, l1] st w Q) := zR_if (zstB zT_126_36 rfl) (by simp [zcmp])
theorem zT_126_39 : zT 126 39 = some (.aload_n 1, 1, 0, []) := by decide +kernel
theorem zr_126_39 {l0 : Option zV} {x : Option Nat} {st : List zV} {w : zW} {Q : Option zV → zW → Prop}  : zR 126 39 [l0, some (.inr x)] st w Q = zR 126 40 [l0, some (.inr x)] (.inr x :: st) w Q := zR_go (zst zT_126_39 rfl)
theorem zT_126_40 : zT 126 40 = some (.invokevirtual 38, 3, 0, [(3, 121)]) := by decide +kernel
theorem zr_126_40 {l0 l1 : Option zV} {h : Nat} {st : List zV} {w : zW} {Q : Option zV → zW → Prop} (hs : st.length ≤ 8) (hk : zk w h = 3) : zR 126 40 [l0, l1] (.inr (some h) :: st) w Q = zR 121 0 [some (.inr (some h))] [] w (fun r w2 => zR 126 43 [l0, l1] (r.toList ++ st) w2 Q) := zR_call (zst zT_126_40 (zcall_v [] rfl hs hk rfl))
theorem zT_126_43 : zT 126 43 = some (.aload_n 0, 1, 0, []) := by decide +kernel
theorem zr_126_43 {l1 : Option zV} {x : Option Nat} {st : List zV} {w : zW} {Q : Option zV → zW → Prop}  : zR 126 43 [some (.inr x), l1] st w Q = zR 126 44 [some (.inr x), l1] (.inr x :: st) w Q := zR_go (zst zT_126_43 rfl)
theorem zT_126_44 : zT 126 44 = some (.getfield 41, 3, 0, [(9, 5)]) := by decide +kernel
theorem zr_126_44 {l0 l1 : Option zV} {h : Nat} {st : List zV} {w : zW} {Q : Option zV → zW → Prop} (hk : zk w h = 9) : zR 126 44 [l0, l1] (.inr (some h) :: st) w Q = zR 126 47 [l0, l1] (.inl (zf w 63 h) :: st) w Q := zR_go (zst zT_126_44 (zget_i hk (Or.inl rfl)))
theorem zT_126_47 : zT 126 47 = some (.if_icmp .eq 8, 3, 0, []) := by decide +kernel
theorem zr_126_47 {l0 l1 : Option zV} {x y : Int} {st : List zV} {w : zW} {Q : Option zV → zW → Prop}  : zR 126 47 [l0, l1] (.inl y :: .inl x :: st) w Q = (if zN x = zN y then zR 126 55 [l0, l1] st w Q else zR 126 50 [l0, l1] st w Q) := zR_if (zstB zT_126_47 rfl) (by simp [zcmp])
theorem zT_126_50 : zT 126 50 = some (.aload_n 0, 1, 0, []) := by decide +kernel
theorem zr_126_50 {l1 : Option zV} {x : Option Nat} {st : List zV} {w : zW} {Q : Option zV → zW → Prop}  : zR 126 50 [some (.inr x), l1] st w Q = zR 126 51 [some (.inr x), l1] (.inr x :: st) w Q := zR_go (zst zT_126_50 rfl)
theorem zT_126_51 : zT 126 51 = some (.iconst 0, 1, 0, []) := by decide +kernel
theorem zr_126_51 {l0 l1 : Option zV} {st : List zV} {w : zW} {Q : Option zV → zW → Prop}  : zR 126 51 [l0, l1] st w Q = zR 126 52 [l0, l1] (.inl 0 :: st) w Q := zR_go (zst zT_126_51 rfl)
theorem zT_126_52 : zT 126 52 = some (.putfield 34, 3, 0, [(9, 4)]) := by decide +kernel
theorem zr_126_52 {l0 l1 : Option zV} {h : Nat} {x : Int} {st : List zV} {w : zW} {Q : Option zV → zW → Prop} (hk : zk w h = 9) (hx : zN x = 0 ∨ zN x = 1) : zR 126 52 [l0, l1] (.inl x :: .inr (some h) :: st) w Q = zR 126 55 [l0, l1] st (zsf w 62 h x) Q := zR_go (zst zT_126_52 (zput_z hk rfl hx))
theorem zT_126_55 : zT 126 55 = some (.aload_n 0, 1, 0, []) := by decide +kernel
theorem zr_126_55 {l1 : Option zV} {x : Option Nat} {st : List zV} {w : zW} {Q : Option zV → zW → Prop}  : zR 126 55 [some (.inr x), l1] st w Q = zR 126 56 [some (.inr x), l1] (.inr x :: st) w Q := zR_go (zst zT_126_55 rfl)
theorem zT_126_56 : zT 126 56 = some (.getfield 31, 3, 0, [(9, 2)]) := by decide +kernel
theorem zr_126_56 {l0 l1 : Option zV} {h : Nat} {st : List zV} {w : zW} {Q : Option zV → zW → Prop} (hk : zk w h = 9) : zR 126 56 [l0, l1] (.inr (some h) :: st) w Q = zR 126 59 [l0, l1] (.inl (zf w 60 h) :: st) w Q := zR_go (zst zT_126_56 (zget_i hk (Or.inl rfl)))
theorem zT_126_59 : zT 126 59 = some (.aload_n 1, 1, 0, []) := by decide +kernel
theorem zr_126_59 {l0 : Option zV} {x : Option Nat} {st : List zV} {w : zW} {Q : Option zV → zW → Prop}  : zR 126 59 [l0, some (.inr x)] st w Q = zR 126 60 [l0, some (.inr x)] (.inr x :: st) w Q := zR_go (zst zT_126_59 rfl)
theorem zT_126_60 : zT 126 60 = some (.getfield 44, 3, 0, [(3, 3)]) := by decide +kernel
theorem zr_126_60 {l0 l1 : Option zV} {h : Nat} {st : List zV} {w : zW} {Q : Option zV → zW → Prop} (hk : zk w h = 3) : zR 126 60 [l0, l1] (.inr (some h) :: st) w Q = zR 126 63 [l0, l1] (.inl (zf w 29 h) :: st) w Q := zR_go (zst zT_126_60 (zget_i hk (Or.inl rfl)))
theorem zT_126_63 : zT 126 63 = some (.iadd, 1, 0, []) := by decide +kernel
theorem zr_126_63 {l0 l1 : Option zV} {x y : Int} {st : List zV} {w : zW} {Q : Option zV → zW → Prop}  : zR 126 63 [l0, l1] (.inl y :: .inl x :: st) w Q = zR 126 64 [l0, l1] (.inl (x + y) :: st) w Q := zR_go (zst zT_126_63 rfl)
theorem zT_126_64 : zT 126 64 = some (.bipush 32, 2, 0, []) := by decide +kernel
theorem zr_126_64 {l0 l1 : Option zV} {st : List zV} {w : zW} {Q : Option zV → zW → Prop}  : zR 126 64 [l0, l1] st w Q = zR 126 66 [l0, l1] (.inl 32 :: st) w Q := zR_go (zst zT_126_64 rfl)
theorem zT_126_66 : zT 126 66 = some (.if_icmp .le 8, 3, 0, []) := by decide +kernel
theorem zr_126_66 {l0 l1 : Option zV} {x y : Int} {st : List zV} {w : zW} {Q : Option zV → zW → Prop}  : zR 126 66 [l0, l1] (.inl y :: .inl x :: st) w Q = (if zN x ≤ zN y then zR 126 74 [l0, l1] st w Q else zR 126 69 [l0, l1] st w Q) := zR_if (zstB zT_126_66 rfl) (by simp [zcmp])
theorem zT_126_69 : zT 126 69 = some (.aload_n 0, 1, 0, []) := by decide +kernel
theorem zr_126_69 {l1 : Option zV} {x : Option Nat} {st : List zV} {w : zW} {Q : Option zV → zW → Prop}  : zR 126 69 [some (.inr x), l1] st w Q = zR 126 70 [some (.inr x), l1] (.inr x :: st) w Q := zR_go (zst zT_126_69 rfl)
theorem zT_126_70 : zT 126 70 = some (.iconst 0, 1, 0, []) := by decide +kernel
theorem zr_126_70 {l0 l1 : Option zV} {st : List zV} {w : zW} {Q : Option zV → zW → Prop}  : zR 126 70 [l0, l1] st w Q = zR 126 71 [l0, l1] (.inl 0 :: st) w Q := zR_go (zst zT_126_70 rfl)
theorem zT_126_71 : zT 126 71 = some (.putfield 34, 3, 0, [(9, 4)]) := by decide +kernel
theorem zr_126_71 {l0 l1 : Option zV} {h : Nat} {x : Int} {st : List zV} {w : zW} {Q : Option zV → zW → Prop} (hk : zk w h = 9) (hx : zN x = 0 ∨ zN x = 1) : zR 126 71 [l0, l1] (.inl x :: .inr (some h) :: st) w Q = zR 126 74 [l0, l1] st (zsf w 62 h x) Q := zR_go (zst zT_126_71 (zput_z hk rfl hx))
theorem zT_126_74 : zT 126 74 = some (.aload_n 0, 1, 0, []) := by decide +kernel
theorem zr_126_74 {l1 : Option zV} {x : Option Nat} {st : List zV} {w : zW} {Q : Option zV → zW → Prop}  : zR 126 74 [some (.inr x), l1] st w Q = zR 126 75 [some (.inr x), l1] (.inr x :: st) w Q := zR_go (zst zT_126_74 rfl)
theorem zT_126_75 : zT 126 75 = some (.getfield 34, 3, 0, [(9, 4)]) := by decide +kernel
theorem zr_126_75 {l0 l1 : Option zV} {h : Nat} {st : List zV} {w : zW} {Q : Option zV → zW → Prop} (hk : zk w h = 9) : zR 126 75 [l0, l1] (.inr (some h) :: st) w Q = zR 126 78 [l0, l1] (.inl (zf w 62 h) :: st) w Q := zR_go (zst zT_126_75 (zget_i hk (Or.inr rfl)))
theorem zT_126_78 : zT 126 78 = some (.ifCond .ne 5, 3, 0, []) := by decide +kernel
theorem zr_126_78 {l0 l1 : Option zV} {x : Int} {st : List zV} {w : zW} {Q : Option zV → zW → Prop}  : zR 126 78 [l0, l1] (.inl x :: st) w Q = (if zN x ≠ 0 then zR 126 83 [l0, l1] st w Q else zR 126 81 [l0, l1] st w Q) := zR_if (zstB zT_126_78 rfl) (by simp [zcmp])
theorem zT_126_81 : zT 126 81 = some (.iconst 0, 1, 0, []) := by decide +kernel
theorem zr_126_81 {l0 l1 : Option zV} {st : List zV} {w : zW} {Q : Option zV → zW → Prop}  : zR 126 81 [l0, l1] st w Q = zR 126 82 [l0, l1] (.inl 0 :: st) w Q := zR_go (zst zT_126_81 rfl)
theorem zT_126_82 : zT 126 82 = some (.ireturn, 1, 0, []) := by decide +kernel
theorem zr_126_82 {l0 l1 : Option zV} {x : Int} {w : zW} {Q : Option zV → zW → Prop} (hx : zN x = 0 ∨ zN x = 1) : zR 126 82 [l0, l1] [.inl x] w Q = Q (some (.inl x)) w := zR_ret (zst zT_126_82 (if_pos (Or.inr ⟨rfl, hx⟩)))
theorem zT_126_83 : zT 126 83 = some (.aload_n 1, 1, 0, []) := by decide +kernel
theorem zr_126_83 {l0 : Option zV} {x : Option Nat} {st : List zV} {w : zW} {Q : Option zV → zW → Prop}  : zR 126 83 [l0, some (.inr x)] st w Q = zR 126 84 [l0, some (.inr x)] (.inr x :: st) w Q := zR_go (zst zT_126_83 rfl)
theorem zT_126_84 : zT 126 84 = some (.getfield 45, 3, 0, [(3, 4)]) := by decide +kernel
theorem zr_126_84 {l0 l1 : Option zV} {h : Nat} {st : List zV} {w : zW} {Q : Option zV → zW → Prop} (hk : zk w h = 3) : zR 126 84 [l0, l1] (.inr (some h) :: st) w Q = zR 126 87 [l0, l1] (.inr (zp w 30 h) :: st) w Q := zR_go (zst zT_126_84 (zget_r hk rfl))
theorem zT_126_87 : zT 126 87 = some (.iconst 0, 1, 0, []) := by decide +kernel
theorem zr_126_87 {l0 l1 : Option zV} {st : List zV} {w : zW} {Q : Option zV → zW → Prop}  : zR 126 87 [l0, l1] st w Q = zR 126 88 [l0, l1] (.inl 0 :: st) w Q := zR_go (zst zT_126_87 rfl)
theorem zT_126_88 : zT 126 88 = some (.aload_n 0, 1, 0, []) := by decide +kernel
theorem zr_126_88 {l1 : Option zV} {x : Option Nat} {st : List zV} {w : zW} {Q : Option zV → zW → Prop}  : zR 126 88 [some (.inr x), l1] st w Q = zR 126 89 [some (.inr x), l1] (.inr x :: st) w Q := zR_go (zst zT_126_88 rfl)
theorem zT_126_89 : zT 126 89 = some (.getfield 9, 3, 0, [(9, 3)]) := by decide +kernel
theorem zr_126_89 {l0 l1 : Option zV} {h : Nat} {st : List zV} {w : zW} {Q : Option zV → zW → Prop} (hk : zk w h = 9) : zR 126 89 [l0, l1] (.inr (some h) :: st) w Q = zR 126 92 [l0, l1] (.inr (zp w 61 h) :: st) w Q := zR_go (zst zT_126_89 (zget_r hk rfl))
theorem zT_126_92 : zT 126 92 = some (.aload_n 0, 1, 0, []) := by decide +kernel
theorem zr_126_92 {l1 : Option zV} {x : Option Nat} {st : List zV} {w : zW} {Q : Option zV → zW → Prop}  : zR 126 92 [some (.inr x), l1] st w Q = zR 126 93 [some (.inr x), l1] (.inr x :: st) w Q := zR_go (zst zT_126_92 rfl)
theorem zT_126_93 : zT 126 93 = some (.getfield 31, 3, 0, [(9, 2)]) := by decide +kernel
theorem zr_126_93 {l0 l1 : Option zV} {h : Nat} {st : List zV} {w : zW} {Q : Option zV → zW → Prop} (hk : zk w h = 9) : zR 126 93 [l0, l1] (.inr (some h) :: st) w Q = zR 126 96 [l0, l1] (.inl (zf w 60 h) :: st) w Q := zR_go (zst zT_126_93 (zget_i hk (Or.inl rfl)))
theorem zT_126_96 : zT 126 96 = some (.aload_n 1, 1, 0, []) := by decide +kernel
theorem zr_126_96 {l0 : Option zV} {x : Option Nat} {st : List zV} {w : zW} {Q : Option zV → zW → Prop}  : zR 126 96 [l0, some (.inr x)] st w Q = zR 126 97 [l0, some (.inr x)] (.inr x :: st) w Q := zR_go (zst zT_126_96 rfl)
theorem zT_126_97 : zT 126 97 = some (.getfield 44, 3, 0, [(3, 3)]) := by decide +kernel
theorem zr_126_97 {l0 l1 : Option zV} {h : Nat} {st : List zV} {w : zW} {Q : Option zV → zW → Prop} (hk : zk w h = 3) : zR 126 97 [l0, l1] (.inr (some h) :: st) w Q = zR 126 100 [l0, l1] (.inl (zf w 29 h) :: st) w Q := zR_go (zst zT_126_97 (zget_i hk (Or.inl rfl)))
theorem zT_126_100 : zT 126 100 = some (.invokestatic 46, 3, 5, [(0, 0)]) := by decide +kernel
theorem zr_126_100 {l0 l1 : Option zV} {n dp sp : Int} {g h : Nat} {st : List zV} {w : zW} {Q : Option zV → zW → Prop} (hk : zk w h = zNC ∧ zk w g = zNC ∧ 0 ≤ zN sp ∧ 0 ≤ zN dp ∧ 0 ≤ zN n ∧ zN sp + zN n ≤ zl w h ∧ zN dp + zN n ≤ zl w g ∧ st.length ≤ 8) : zR 126 100 [l0, l1] (.inl n :: .inl dp :: .inr (some g) :: .inl sp :: .inr (some h) :: st) w Q = zR 126 103 [l0, l1] st (zcp w h (zN sp).toNat g (zN dp).toNat (zN n).toNat) Q := zR_go (zst zT_126_100 (if_pos hk))
theorem zT_126_103 : zT 126 103 = some (.aload_n 0, 1, 0, []) := by decide +kernel
theorem zr_126_103 {l1 : Option zV} {x : Option Nat} {st : List zV} {w : zW} {Q : Option zV → zW → Prop}  : zR 126 103 [some (.inr x), l1] st w Q = zR 126 104 [some (.inr x), l1] (.inr x :: st) w Q := zR_go (zst zT_126_103 rfl)
theorem zT_126_104 : zT 126 104 = some (.dup, 1, 0, []) := by decide +kernel
theorem zr_126_104 {l0 l1 : Option zV} {v : zV} {st : List zV} {w : zW} {Q : Option zV → zW → Prop}  : zR 126 104 [l0, l1] (v :: st) w Q = zR 126 105 [l0, l1] (v :: v :: st) w Q := zR_go (zst zT_126_104 rfl)
theorem zT_126_105 : zT 126 105 = some (.getfield 31, 3, 0, [(9, 2)]) := by decide +kernel
theorem zr_126_105 {l0 l1 : Option zV} {h : Nat} {st : List zV} {w : zW} {Q : Option zV → zW → Prop} (hk : zk w h = 9) : zR 126 105 [l0, l1] (.inr (some h) :: st) w Q = zR 126 108 [l0, l1] (.inl (zf w 60 h) :: st) w Q := zR_go (zst zT_126_105 (zget_i hk (Or.inl rfl)))
theorem zT_126_108 : zT 126 108 = some (.aload_n 1, 1, 0, []) := by decide +kernel
theorem zr_126_108 {l0 : Option zV} {x : Option Nat} {st : List zV} {w : zW} {Q : Option zV → zW → Prop}  : zR 126 108 [l0, some (.inr x)] st w Q = zR 126 109 [l0, some (.inr x)] (.inr x :: st) w Q := zR_go (zst zT_126_108 rfl)
theorem zT_126_109 : zT 126 109 = some (.getfield 44, 3, 0, [(3, 3)]) := by decide +kernel
theorem zr_126_109 {l0 l1 : Option zV} {h : Nat} {st : List zV} {w : zW} {Q : Option zV → zW → Prop} (hk : zk w h = 3) : zR 126 109 [l0, l1] (.inr (some h) :: st) w Q = zR 126 112 [l0, l1] (.inl (zf w 29 h) :: st) w Q := zR_go (zst zT_126_109 (zget_i hk (Or.inl rfl)))
theorem zT_126_112 : zT 126 112 = some (.iadd, 1, 0, []) := by decide +kernel
theorem zr_126_112 {l0 l1 : Option zV} {x y : Int} {st : List zV} {w : zW} {Q : Option zV → zW → Prop}  : zR 126 112 [l0, l1] (.inl y :: .inl x :: st) w Q = zR 126 113 [l0, l1] (.inl (x + y) :: st) w Q := zR_go (zst zT_126_112 rfl)
theorem zT_126_113 : zT 126 113 = some (.putfield 31, 3, 0, [(9, 2)]) := by decide +kernel
theorem zr_126_113 {l0 l1 : Option zV} {h : Nat} {x : Int} {st : List zV} {w : zW} {Q : Option zV → zW → Prop} (hk : zk w h = 9) : zR 126 113 [l0, l1] (.inl x :: .inr (some h) :: st) w Q = zR 126 116 [l0, l1] st (zsf w 60 h x) Q := zR_go (zst zT_126_113 (zput_i hk rfl))
theorem zT_126_116 : zT 126 116 = some (.aload_n 0, 1, 0, []) := by decide +kernel
theorem zr_126_116 {l1 : Option zV} {x : Option Nat} {st : List zV} {w : zW} {Q : Option zV → zW → Prop}  : zR 126 116 [some (.inr x), l1] st w Q = zR 126 117 [some (.inr x), l1] (.inr x :: st) w Q := zR_go (zst zT_126_116 rfl)
theorem zT_126_117 : zT 126 117 = some (.aload_n 1, 1, 0, []) := by decide +kernel
theorem zr_126_117 {l0 : Option zV} {x : Option Nat} {st : List zV} {w : zW} {Q : Option zV → zW → Prop}  : zR 126 117 [l0, some (.inr x)] st w Q = zR 126 118 [l0, some (.inr x)] (.inr x :: st) w Q := zR_go (zst zT_126_117 rfl)
theorem zT_126_118 : zT 126 118 = some (.invokevirtual 38, 3, 0, [(3, 121)]) := by decide +kernel
theorem zr_126_118 {l0 l1 : Option zV} {h : Nat} {st : List zV} {w : zW} {Q : Option zV → zW → Prop} (hs : st.length ≤ 8) (hk : zk w h = 3) : zR 126 118 [l0, l1] (.inr (some h) :: st) w Q = zR 121 0 [some (.inr (some h))] [] w (fun r w2 => zR 126 121 [l0, l1] (r.toList ++ st) w2 Q) := zR_call (zst zT_126_118 (zcall_v [] rfl hs hk rfl))
theorem zT_126_121 : zT 126 121 = some (.iconst 1, 1, 0, []) := by decide +kernel
theorem zr_126_121 {l0 l1 : Option zV} {st : List zV} {w : zW} {Q : Option zV → zW → Prop}  : zR 126 121 [l0, l1] st w Q = zR 126 122 [l0, l1] (.inl 1 :: st) w Q := zR_go (zst zT_126_121 rfl)
theorem zT_126_122 : zT 126 122 = some (.iadd, 1, 0, []) := by decide +kernel
theorem zr_126_122 {l0 l1 : Option zV} {x y : Int} {st : List zV} {w : zW} {Q : Option zV → zW → Prop}  : zR 126 122 [l0, l1] (.inl y :: .inl x :: st) w Q = zR 126 123 [l0, l1] (.inl (x + y) :: st) w Q := zR_go (zst zT_126_122 rfl)
theorem zT_126_123 : zT 126 123 = some (.iconst 4, 1, 0, []) := by decide +kernel
theorem zr_126_123 {l0 l1 : Option zV} {st : List zV} {w : zW} {Q : Option zV → zW → Prop}  : zR 126 123 [l0, l1] st w Q = zR 126 124 [l0, l1] (.inl 4 :: st) w Q := zR_go (zst zT_126_123 rfl)
theorem zT_126_124 : zT 126 124 = some (.irem, 1, 0, []) := by decide +kernel
theorem zr_126_124 {l0 l1 : Option zV} {x y : Int} {st : List zV} {w : zW} {Q : Option zV → zW → Prop} (hy : ¬ zN y = 0) : zR 126 124 [l0, l1] (.inl y :: .inl x :: st) w Q = zR 126 125 [l0, l1] (.inl (zo_rem x y) :: st) w Q := zR_go (zst zT_126_124 (if_neg hy))
theorem zT_126_125 : zT 126 125 = some (.putfield 41, 3, 0, [(9, 5)]) := by decide +kernel
theorem zr_126_125 {l0 l1 : Option zV} {h : Nat} {x : Int} {st : List zV} {w : zW} {Q : Option zV → zW → Prop} (hk : zk w h = 9) : zR 126 125 [l0, l1] (.inl x :: .inr (some h) :: st) w Q = zR 126 128 [l0, l1] st (zsf w 63 h x) Q := zR_go (zst zT_126_125 (zput_i hk rfl))
theorem zT_126_128 : zT 126 128 = some (.aload_n 0, 1, 0, []) := by decide +kernel
theorem zr_126_128 {l1 : Option zV} {x : Option Nat} {st : List zV} {w : zW} {Q : Option zV → zW → Prop}  : zR 126 128 [some (.inr x), l1] st w Q = zR 126 129 [some (.inr x), l1] (.inr x :: st) w Q := zR_go (zst zT_126_128 rfl)
theorem zT_126_129 : zT 126 129 = some (.aload_n 1, 1, 0, []) := by decide +kernel
theorem zr_126_129 {l0 : Option zV} {x : Option Nat} {st : List zV} {w : zW} {Q : Option zV → zW → Prop}  : zR 126 129 [l0, some (.inr x)] st w Q = zR 126 130 [l0, some (.inr x)] (.inr x :: st) w Q := zR_go (zst zT_126_129 rfl)
theorem zT_126_130 : zT 126 130 = some (.invokevirtual 52, 3, 0, [(3, 120)]) := by decide +kernel
theorem zr_126_130 {l0 l1 : Option zV} {h : Nat} {st : List zV} {w : zW} {Q : Option zV → zW → Prop} (hs : st.length ≤ 8) (hk : zk w h = 3) : zR 126 130 [l0, l1] (.inr (some h) :: st) w Q = zR 120 0 [some (.inr (some h))] [] w (fun r w2 => zR 126 133 [l0, l1] (r.toList ++ st) w2 Q) := zR_call (zst zT_126_130 (zcall_v [] rfl hs hk rfl))
theorem zT_126_133 : zT 126 133 = some (.ifCond .ne 7, 3, 0, []) := by decide +kernel
theorem zr_126_133 {l0 l1 : Option zV} {x : Int} {st : List zV} {w : zW} {Q : Option zV → zW → Prop}  : zR 126 133 [l0, l1] (.inl x :: st) w Q = (if zN x ≠ 0 then zR 126 140 [l0, l1] st w Q else zR 126 136 [l0, l1] st w Q) := zR_if (zstB zT_126_133 rfl) (by simp [zcmp])
theorem zT_126_136 : zT 126 136 = some (.iconst 1, 1, 0, []) := by decide +kernel
theorem zr_126_136 {l0 l1 : Option zV} {st : List zV} {w : zW} {Q : Option zV → zW → Prop}  : zR 126 136 [l0, l1] st w Q = zR 126 137 [l0, l1] (.inl 1 :: st) w Q := zR_go (zst zT_126_136 rfl)
theorem zT_126_137 : zT 126 137 = some (.goto 4, 3, 0, []) := by decide +kernel
theorem zr_126_137 {l0 l1 : Option zV} {st : List zV} {w : zW} {Q : Option zV → zW → Prop}  : zR 126 137 [l0, l1] st w Q = zR 126 141 [l0, l1] st w Q := zR_go (zst zT_126_137 rfl)
theorem zT_126_140 : zT 126 140 = some (.iconst 0, 1, 0, []) := by decide +kernel
theorem zr_126_140 {l0 l1 : Option zV} {st : List zV} {w : zW} {Q : Option zV → zW → Prop}  : zR 126 140 [l0, l1] st w Q = zR 126 141 [l0, l1] (.inl 0 :: st) w Q := zR_go (zst zT_126_140 rfl)
theorem zT_126_141 : zT 126 141 = some (.putfield 34, 3, 0, [(9, 4)]) := by decide +kernel
theorem zr_126_141 {l0 l1 : Option zV} {h : Nat} {x : Int} {st : List zV} {w : zW} {Q : Option zV → zW → Prop} (hk : zk w h = 9) (hx : zN x = 0 ∨ zN x = 1) : zR 126 141 [l0, l1] (.inl x :: .inr (some h) :: st) w Q = zR 126 144 [l0, l1] st (zsf w 62 h x) Q := zR_go (zst zT_126_141 (zput_z hk rfl hx))
theorem zT_126_144 : zT 126 144 = some (.aload_n 0, 1, 0, []) := by decide +kernel
theorem zr_126_144 {l1 : Option zV} {x : Option Nat} {st : List zV} {w : zW} {Q : Option zV → zW → Prop}  : zR 126 144 [some (.inr x), l1] st w Q = zR 126 145 [some (.inr x), l1] (.inr x :: st) w Q := zR_go (zst zT_126_144 rfl)
theorem zT_126_145 : zT 126 145 = some (.getfield 34, 3, 0, [(9, 4)]) := by decide +kernel
theorem zr_126_145 {l0 l1 : Option zV} {h : Nat} {st : List zV} {w : zW} {Q : Option zV → zW → Prop} (hk : zk w h = 9) : zR 126 145 [l0, l1] (.inr (some h) :: st) w Q = zR 126 148 [l0, l1] (.inl (zf w 62 h) :: st) w Q := zR_go (zst zT_126_145 (zget_i hk (Or.inr rfl)))
theorem zT_126_148 : zT 126 148 = some (.ifCond .ne 7, 3, 0, []) := by decide +kernel
theorem zr_126_148 {l0 l1 : Option zV} {x : Int} {st : List zV} {w : zW} {Q : Option zV → zW → Prop}  : zR 126 148 [l0, l1] (.inl x :: st) w Q = (if zN x ≠ 0 then zR 126 155 [l0, l1] st w Q else zR 126 151 [l0, l1] st w Q) := zR_if (zstB zT_126_148 rfl) (by simp [zcmp])
theorem zT_126_151 : zT 126 151 = some (.iconst 1, 1, 0, []) := by decide +kernel
theorem zr_126_151 {l0 l1 : Option zV} {st : List zV} {w : zW} {Q : Option zV → zW → Prop}  : zR 126 151 [l0, l1] st w Q = zR 126 152 [l0, l1] (.inl 1 :: st) w Q := zR_go (zst zT_126_151 rfl)
theorem zT_126_152 : zT 126 152 = some (.goto 4, 3, 0, []) := by decide +kernel
theorem zr_126_152 {l0 l1 : Option zV} {st : List zV} {w : zW} {Q : Option zV → zW → Prop}  : zR 126 152 [l0, l1] st w Q = zR 126 156 [l0, l1] st w Q := zR_go (zst zT_126_152 rfl)
theorem zT_126_155 : zT 126 155 = some (.iconst 0, 1, 0, []) := by decide +kernel
theorem zr_126_155 {l0 l1 : Option zV} {st : List zV} {w : zW} {Q : Option zV → zW → Prop}  : zR 126 155 [l0, l1] st w Q = zR 126 156 [l0, l1] (.inl 0 :: st) w Q := zR_go (zst zT_126_155 rfl)
theorem zT_126_156 : zT 126 156 = some (.ireturn, 1, 0, []) := by decide +kernel
theorem zr_126_156 {l0 l1 : Option zV} {x : Int} {w : zW} {Q : Option zV → zW → Prop} (hx : zN x = 0 ∨ zN x = 1) : zR 126 156 [l0, l1] [.inl x] w Q = Q (some (.inl x)) w := zR_ret (zst zT_126_156 (if_pos (Or.inr ⟨rfl, hx⟩)))
theorem zT_128_0 : zT 128 0 = some (.aload_n 0, 1, 0, []) := by decide +kernel
theorem zr_128_0 {l1 : Option zV} {x : Option Nat} {st : List zV} {w : zW} {Q : Option zV → zW → Prop}  : zR 128 0 [some (.inr x), l1] st w Q = zR 128 1 [some (.inr x), l1] (.inr x :: st) w Q := zR_go (zst zT_128_0 rfl)
theorem zT_128_1 : zT 128 1 = some (.iload_n 1, 1, 0, []) := by decide +kernel
theorem zr_128_1 {l0 : Option zV} {x : Int} {st : List zV} {w : zW} {Q : Option zV → zW → Prop}  : zR 128 1 [l0, some (.inl x)] st w Q = zR 128 2 [l0, some (.inl x)] (.inl x :: st) w Q := zR_go (zst zT_128_1 rfl)
theorem zT_128_2 : zT 128 2 = some (.putfield 29, 3, 0, [(2, 1)]) := by decide +kernel
theorem zr_128_2 {l0 l1 : Option zV} {h : Nat} {x : Int} {st : List zV} {w : zW} {Q : Option zV → zW → Prop} (hk : zk w h = 2) : zR 128 2 [l0, l1] (.inl x :: .inr (some h) :: st) w Q = zR 128 5 [l0, l1] st (zsf w 18 h x) Q := zR_go (zst zT_128_2 (zput_i hk rfl))
theorem zT_128_5 : zT 128 5 = some (.aload_n 0, 1, 0, []) := by decide +kernel
theorem zr_128_5 {l1 : Option zV} {x : Option Nat} {st : List zV} {w : zW} {Q : Option zV → zW → Prop}  : zR 128 5 [some (.inr x), l1] st w Q = zR 128 6 [some (.inr x), l1] (.inr x :: st) w Q := zR_go (zst zT_128_5 rfl)
theorem zT_128_6 : zT 128 6 = some (.iconst 0, 1, 0, []) := by decide +kernel
theorem zr_128_6 {l0 l1 : Option zV} {st : List zV} {w : zW} {Q : Option zV → zW → Prop}  : zR 128 6 [l0, l1] st w Q = zR 128 7 [l0, l1] (.inl 0 :: st) w Q := zR_go (zst zT_128_6 rfl)
theorem zT_128_7 : zT 128 7 = some (.putfield 21, 3, 0, [(2, 2)]) := by decide +kernel
theorem zr_128_7 {l0 l1 : Option zV} {h : Nat} {x : Int} {st : List zV} {w : zW} {Q : Option zV → zW → Prop} (hk : zk w h = 2) : zR 128 7 [l0, l1] (.inl x :: .inr (some h) :: st) w Q = zR 128 10 [l0, l1] st (zsf w 19 h x) Q := zR_go (zst zT_128_7 (zput_i hk rfl))
theorem zT_128_10 : zT 128 10 = some (.aload_n 0, 1, 0, []) := by decide +kernel
theorem zr_128_10 {l1 : Option zV} {x : Option Nat} {st : List zV} {w : zW} {Q : Option zV → zW → Prop}  : zR 128 10 [some (.inr x), l1] st w Q = zR 128 11 [some (.inr x), l1] (.inr x :: st) w Q := zR_go (zst zT_128_10 rfl)
theorem zT_128_11 : zT 128 11 = some (.iconst 0, 1, 0, []) := by decide +kernel
theorem zr_128_11 {l0 l1 : Option zV} {st : List zV} {w : zW} {Q : Option zV → zW → Prop}  : zR 128 11 [l0, l1] st w Q = zR 128 12 [l0, l1] (.inl 0 :: st) w Q := zR_go (zst zT_128_11 rfl)
theorem zT_128_12 : zT 128 12 = some (.putfield 25, 3, 0, [(2, 3)]) := by decide +kernel
theorem zr_128_12 {l0 l1 : Option zV} {h : Nat} {x : Int} {st : List zV} {w : zW} {Q : Option zV → zW → Prop} (hk : zk w h = 2) (hx : zN x = 0 ∨ zN x = 1) : zR 128 12 [l0, l1] (.inl x :: .inr (some h) :: st) w Q = zR 128 15 [l0, l1] st (zsf w 20 h x) Q := zR_go (zst zT_128_12 (zput_z hk rfl hx))
theorem zT_128_15 : zT 128 15 = some (.aload_n 0, 1, 0, []) := by decide +kernel
theorem zr_128_15 {l1 : Option zV} {x : Option Nat} {st : List zV} {w : zW} {Q : Option zV → zW → Prop}  : zR 128 15 [some (.inr x), l1] st w Q = zR 128 16 [some (.inr x), l1] (.inr x :: st) w Q := zR_go (zst zT_128_15 rfl)
theorem zT_128_16 : zT 128 16 = some (.iconst 0, 1, 0, []) := by decide +kernel
theorem zr_128_16 {l0 l1 : Option zV} {st : List zV} {w : zW} {Q : Option zV → zW → Prop}  : zR 128 16 [l0, l1] st w Q = zR 128 17 [l0, l1] (.inl 0 :: st) w Q := zR_go (zst zT_128_16 rfl)
theorem zT_128_17 : zT 128 17 = some (.putfield 32, 3, 0, [(2, 4)]) := by decide +kernel
theorem zr_128_17 {l0 l1 : Option zV} {h : Nat} {x : Int} {st : List zV} {w : zW} {Q : Option zV → zW → Prop} (hk : zk w h = 2) : zR 128 17 [l0, l1] (.inl x :: .inr (some h) :: st) w Q = zR 128 20 [l0, l1] st (zsf w 21 h x) Q := zR_go (zst zT_128_17 (zput_i hk rfl))
theorem zT_128_20 : zT 128 20 = some (.aload_n 0, 1, 0, []) := by decide +kernel
theorem zr_128_20 {l1 : Option zV} {x : Option Nat} {st : List zV} {w : zW} {Q : Option zV → zW → Prop}  : zR 128 20 [some (.inr x), l1] st w Q = zR 128 21 [some (.inr x), l1] (.inr x :: st) w Q := zR_go (zst zT_128_20 rfl)
theorem zT_128_21 : zT 128 21 = some (.iconst 0, 1, 0, []) := by decide +kernel
theorem zr_128_21 {l0 l1 : Option zV} {st : List zV} {w : zW} {Q : Option zV → zW → Prop}  : zR 128 21 [l0, l1] st w Q = zR 128 22 [l0, l1] (.inl 0 :: st) w Q := zR_go (zst zT_128_21 rfl)
theorem zT_128_22 : zT 128 22 = some (.putfield 35, 3, 0, [(2, 5)]) := by decide +kernel
theorem zr_128_22 {l0 l1 : Option zV} {h : Nat} {x : Int} {st : List zV} {w : zW} {Q : Option zV → zW → Prop} (hk : zk w h = 2) : zR 128 22 [l0, l1] (.inl x :: .inr (some h) :: st) w Q = zR 128 25 [l0, l1] st (zsf w 22 h x) Q := zR_go (zst zT_128_22 (zput_i hk rfl))
theorem zT_128_25 : zT 128 25 = some (.aload_n 0, 1, 0, []) := by decide +kernel
theorem zr_128_25 {l1 : Option zV} {x : Option Nat} {st : List zV} {w : zW} {Q : Option zV → zW → Prop}  : zR 128 25 [some (.inr x), l1] st w Q = zR 128 26 [some (.inr x), l1] (.inr x :: st) w Q := zR_go (zst zT_128_25 rfl)
theorem zT_128_26 : zT 128 26 = some (.iconst 0, 1, 0, []) := by decide +kernel
theorem zr_128_26 {l0 l1 : Option zV} {st : List zV} {w : zW} {Q : Option zV → zW → Prop}  : zR 128 26 [l0, l1] st w Q = zR 128 27 [l0, l1] (.inl 0 :: st) w Q := zR_go (zst zT_128_26 rfl)
theorem zT_128_27 : zT 128 27 = some (.putfield 38, 3, 0, [(2, 6)]) := by decide +kernel
theorem zr_128_27 {l0 l1 : Option zV} {h : Nat} {x : Int} {st : List zV} {w : zW} {Q : Option zV → zW → Prop} (hk : zk w h = 2) : zR 128 27 [l0, l1] (.inl x :: .inr (some h) :: st) w Q = zR 128 30 [l0, l1] st (zsf w 23 h x) Q := zR_go (zst zT_128_27 (zput_i hk rfl))
theorem zT_128_30 : zT 128 30 = some (.return_, 1, 0, []) := by decide +kernel
theorem zr_128_30 {l0 l1 : Option zV} {w : zW} {Q : Option zV → zW → Prop} : zR 128 30 [l0, l1] [] w Q = Q none w := zR_ret (zst zT_128_30 rfl)
theorem zT_129_0 : zT 129 0 = some (.aload_n 0, 1, 0, []) := by decide +kernel
theorem zr_129_0 {l1 : Option zV} {x : Option Nat} {st : List zV} {w : zW} {Q : Option zV → zW → Prop}  : zR 129 0 [some (.inr x), l1] st w Q = zR 129 1 [some (.inr x), l1] (.inr x :: st) w Q := zR_go (zst zT_129_0 rfl)
theorem zT_129_1 : zT 129 1 = some (.getfield 38, 3, 0, [(2, 6)]) := by decide +kernel
theorem zr_129_1 {l0 l1 : Option zV} {h : Nat} {st : List zV} {w : zW} {Q : Option zV → zW → Prop} (hk : zk w h = 2) : zR 129 1 [l0, l1] (.inr (some h) :: st) w Q = zR 129 4 [l0, l1] (.inl (zf w 23 h) :: st) w Q := zR_go (zst zT_129_1 (zget_i hk (Or.inl rfl)))
theorem zT_129_4 : zT 129 4 = some (.iload_n 1, 1, 0, []) := by decide +kernel
theorem zr_129_4 {l0 : Option zV} {x : Int} {st : List zV} {w : zW} {Q : Option zV → zW → Prop}  : zR 129 4 [l0, some (.inl x)] st w Q = zR 129 5 [l0, some (.inl x)] (.inl x :: st) w Q := zR_go (zst zT_129_4 rfl)
theorem zT_129_5 : zT 129 5 = some (.iadd, 1, 0, []) := by decide +kernel
theorem zr_129_5 {l0 l1 : Option zV} {x y : Int} {st : List zV} {w : zW} {Q : Option zV → zW → Prop}  : zR 129 5 [l0, l1] (.inl y :: .inl x :: st) w Q = zR 129 6 [l0, l1] (.inl (x + y) :: st) w Q := zR_go (zst zT_129_5 rfl)
theorem zT_129_6 : zT 129 6 = some (.bipush 8, 2, 0, []) := by decide +kernel
theorem zr_129_6 {l0 l1 : Option zV} {st : List zV} {w : zW} {Q : Option zV → zW → Prop}  : zR 129 6 [l0, l1] st w Q = zR 129 8 [l0, l1] (.inl 8 :: st) w Q := zR_go (zst zT_129_6 rfl)
theorem zT_129_8 : zT 129 8 = some (.if_icmp .gt 7, 3, 0, []) := by decide +kernel
theorem zr_129_8 {l0 l1 : Option zV} {x y : Int} {st : List zV} {w : zW} {Q : Option zV → zW → Prop}  : zR 129 8 [l0, l1] (.inl y :: .inl x :: st) w Q = (if zN y < zN x then zR 129 15 [l0, l1] st w Q else zR 129 11 [l0, l1] st w Q) := zR_if (zstB zT_129_8 rfl) (by simp [zcmp])
theorem zT_129_11 : zT 129 11 = some (.iconst 1, 1, 0, []) := by decide +kernel
theorem zr_129_11 {l0 l1 : Option zV} {st : List zV} {w : zW} {Q : Option zV → zW → Prop}  : zR 129 11 [l0, l1] st w Q = zR 129 12 [l0, l1] (.inl 1 :: st) w Q := zR_go (zst zT_129_11 rfl)
theorem zT_129_12 : zT 129 12 = some (.goto 4, 3, 0, []) := by decide +kernel
theorem zr_129_12 {l0 l1 : Option zV} {st : List zV} {w : zW} {Q : Option zV → zW → Prop}  : zR 129 12 [l0, l1] st w Q = zR 129 16 [l0, l1] st w Q := zR_go (zst zT_129_12 rfl)
theorem zT_129_15 : zT 129 15 = some (.iconst 0, 1, 0, []) := by decide +kernel
theorem zr_129_15 {l0 l1 : Option zV} {st : List zV} {w : zW} {Q : Option zV → zW → Prop}  : zR 129 15 [l0, l1] st w Q = zR 129 16 [l0, l1] (.inl 0 :: st) w Q := zR_go (zst zT_129_15 rfl)
theorem zT_129_16 : zT 129 16 = some (.ireturn, 1, 0, []) := by decide +kernel
theorem zr_129_16 {l0 l1 : Option zV} {x : Int} {w : zW} {Q : Option zV → zW → Prop} (hx : zN x = 0 ∨ zN x = 1) : zR 129 16 [l0, l1] [.inl x] w Q = Q (some (.inl x)) w := zR_ret (zst zT_129_16 (if_pos (Or.inr ⟨rfl, hx⟩)))
theorem zT_130_0 : zT 130 0 = some (.aload_n 0, 1, 0, []) := by decide +kernel
theorem zr_130_0 {x : Option Nat} {st : List zV} {w : zW} {Q : Option zV → zW → Prop}  : zR 130 0 [some (.inr x)] st w Q = zR 130 1 [some (.inr x)] (.inr x :: st) w Q := zR_go (zst zT_130_0 rfl)
theorem zT_130_1 : zT 130 1 = some (.getfield 11, 3, 0, [(2, 7)]) := by decide +kernel
theorem zr_130_1 {l0 : Option zV} {h : Nat} {st : List zV} {w : zW} {Q : Option zV → zW → Prop} (hk : zk w h = 2) : zR 130 1 [l0] (.inr (some h) :: st) w Q = zR 130 4 [l0] (.inr (zp w 24 h) :: st) w Q := zR_go (zst zT_130_1 (zget_r hk rfl))
theorem zT_130_4 : zT 130 4 = some (.aload_n 0, 1, 0, []) := by decide +kernel
theorem zr_130_4 {x : Option Nat} {st : List zV} {w : zW} {Q : Option zV → zW → Prop}  : zR 130 4 [some (.inr x)] st w Q = zR 130 5 [some (.inr x)] (.inr x :: st) w Q := zR_go (zst zT_130_4 rfl)
theorem zT_130_5 : zT 130 5 = some (.getfield 41, 3, 0, [(2, 8)]) := by decide +kernel
theorem zr_130_5 {l0 : Option zV} {h : Nat} {st : List zV} {w : zW} {Q : Option zV → zW → Prop} (hk : zk w h = 2) : zR 130 5 [l0] (.inr (some h) :: st) w Q = zR 130 8 [l0] (.inl (zf w 25 h) :: st) w Q := zR_go (zst zT_130_5 (zget_i hk (Or.inl rfl)))
theorem zT_130_8 : zT 130 8 = some (.aaload, 1, 0, []) := by decide +kernel
theorem zr_130_8 {l0 : Option zV} {j : Int} {h : Nat} {st : List zV} {w : zW} {Q : Option zV → zW → Prop} (hk : zNC + 2 < zk w h ∧ zk w h < 1000 ∧ 0 ≤ zN j ∧ zN j < zl w h) : zR 130 8 [l0] (.inl j :: .inr (some h) :: st) w Q = zR 130 9 [l0] (.inr (zb w h (zN j).toNat) :: st) w Q := zR_go (zst zT_130_8 (if_pos hk))
theorem zT_130_9 : zT 130 9 = some (.areturn, 1, 0, []) := by decide +kernel
theorem zr_130_9 {l0 : Option zV} {x : Option Nat} {w : zW} {Q : Option zV → zW → Prop} : zR 130 9 [l0] [.inr x] w Q = Q (some (.inr x)) w := zR_ret (zst zT_130_9 rfl)
theorem zT_131_0 : zT 131 0 = some (.aload_n 0, 1, 0, []) := by decide +kernel
theorem zr_131_0 {l1 : Option zV} {x : Option Nat} {st : List zV} {w : zW} {Q : Option zV → zW → Prop}  : zR 131 0 [some (.inr x), l1] st w Q = zR 131 1 [some (.inr x), l1] (.inr x :: st) w Q := zR_go (zst zT_131_0 rfl)
theorem zT_131_1 : zT 131 1 = some (.getfield 11, 3, 0, [(2, 7)]) := by decide +kernel
theorem zr_131_1 {l0 l1 : Option zV} {h : Nat} {st : List zV} {w : zW} {Q : Option zV → zW → Prop} (hk : zk w h = 2) : zR 131 1 [l0, l1] (.inr (some h) :: st) w Q = zR 131 4 [l0, l1] (.inr (zp w 24 h) :: st) w Q := zR_go (zst zT_131_1 (zget_r hk rfl))
theorem zT_131_4 : zT 131 4 = some (.aload_n 0, 1, 0, []) := by decide +kernel
theorem zr_131_4 {l1 : Option zV} {x : Option Nat} {st : List zV} {w : zW} {Q : Option zV → zW → Prop}  : zR 131 4 [some (.inr x), l1] st w Q = zR 131 5 [some (.inr x), l1] (.inr x :: st) w Q := zR_go (zst zT_131_4 rfl)
theorem zT_131_5 : zT 131 5 = some (.getfield 41, 3, 0, [(2, 8)]) := by decide +kernel
theorem zr_131_5 {l0 l1 : Option zV} {h : Nat} {st : List zV} {w : zW} {Q : Option zV → zW → Prop} (hk : zk w h = 2) : zR 131 5 [l0, l1] (.inr (some h) :: st) w Q = zR 131 8 [l0, l1] (.inl (zf w 25 h) :: st) w Q := zR_go (zst zT_131_5 (zget_i hk (Or.inl rfl)))
theorem zT_131_8 : zT 131 8 = some (.aload_n 0, 1, 0, []) := by decide +kernel
theorem zr_131_8 {l1 : Option zV} {x : Option Nat} {st : List zV} {w : zW} {Q : Option zV → zW → Prop}  : zR 131 8 [some (.inr x), l1] st w Q = zR 131 9 [some (.inr x), l1] (.inr x :: st) w Q := zR_go (zst zT_131_8 rfl)
theorem zT_131_9 : zT 131 9 = some (.getfield 38, 3, 0, [(2, 6)]) := by decide +kernel
theorem zr_131_9 {l0 l1 : Option zV} {h : Nat} {st : List zV} {w : zW} {Q : Option zV → zW → Prop} (hk : zk w h = 2) : zR 131 9 [l0, l1] (.inr (some h) :: st) w Q = zR 131 12 [l0, l1] (.inl (zf w 23 h) :: st) w Q := zR_go (zst zT_131_9 (zget_i hk (Or.inl rfl)))
theorem zT_131_12 : zT 131 12 = some (.iadd, 1, 0, []) := by decide +kernel
theorem zr_131_12 {l0 l1 : Option zV} {x y : Int} {st : List zV} {w : zW} {Q : Option zV → zW → Prop}  : zR 131 12 [l0, l1] (.inl y :: .inl x :: st) w Q = zR 131 13 [l0, l1] (.inl (x + y) :: st) w Q := zR_go (zst zT_131_12 rfl)
theorem zT_131_13 : zT 131 13 = some (.bipush 8, 2, 0, []) := by decide +kernel
theorem zr_131_13 {l0 l1 : Option zV} {st : List zV} {w : zW} {Q : Option zV → zW → Prop}  : zR 131 13 [l0, l1] st w Q = zR 131 15 [l0, l1] (.inl 8 :: st) w Q := zR_go (zst zT_131_13 rfl)
theorem zT_131_15 : zT 131 15 = some (.irem, 1, 0, []) := by decide +kernel
theorem zr_131_15 {l0 l1 : Option zV} {x y : Int} {st : List zV} {w : zW} {Q : Option zV → zW → Prop} (hy : ¬ zN y = 0) : zR 131 15 [l0, l1] (.inl y :: .inl x :: st) w Q = zR 131 16 [l0, l1] (.inl (zo_rem x y) :: st) w Q := zR_go (zst zT_131_15 (if_neg hy))
theorem zT_131_16 : zT 131 16 = some (.aaload, 1, 0, []) := by decide +kernel
theorem zr_131_16 {l0 l1 : Option zV} {j : Int} {h : Nat} {st : List zV} {w : zW} {Q : Option zV → zW → Prop} (hk : zNC + 2 < zk w h ∧ zk w h < 1000 ∧ 0 ≤ zN j ∧ zN j < zl w h) : zR 131 16 [l0, l1] (.inl j :: .inr (some h) :: st) w Q = zR 131 17 [l0, l1] (.inr (zb w h (zN j).toNat) :: st) w Q := zR_go (zst zT_131_16 (if_pos hk))
theorem zT_131_17 : zT 131 17 = some (.astore_n 1, 1, 0, []) := by decide +kernel
theorem zr_131_17 {l0 l1 : Option zV} {x : Option Nat} {st : List zV} {w : zW} {Q : Option zV → zW → Prop}  : zR 131 17 [l0, l1] (.inr x :: st) w Q = zR 131 18 [l0, some (.inr x)] st w Q := zR_go (zst zT_131_17 rfl)
theorem zT_131_18 : zT 131 18 = some (.aload_n 0, 1, 0, []) := by decide +kernel
theorem zr_131_18 {l1 : Option zV} {x : Option Nat} {st : List zV} {w : zW} {Q : Option zV → zW → Prop}  : zR 131 18 [some (.inr x), l1] st w Q = zR 131 19 [some (.inr x), l1] (.inr x :: st) w Q := zR_go (zst zT_131_18 rfl)
theorem zT_131_19 : zT 131 19 = some (.dup, 1, 0, []) := by decide +kernel
theorem zr_131_19 {l0 l1 : Option zV} {v : zV} {st : List zV} {w : zW} {Q : Option zV → zW → Prop}  : zR 131 19 [l0, l1] (v :: st) w Q = zR 131 20 [l0, l1] (v :: v :: st) w Q := zR_go (zst zT_131_19 rfl)
theorem zT_131_20 : zT 131 20 = some (.getfield 38, 3, 0, [(2, 6)]) := by decide +kernel
theorem zr_131_20 {l0 l1 : Option zV} {h : Nat} {st : List zV} {w : zW} {Q : Option zV → zW → Prop} (hk : zk w h = 2) : zR 131 20 [l0, l1] (.inr (some h) :: st) w Q = zR 131 23 [l0, l1] (.inl (zf w 23 h) :: st) w Q := zR_go (zst zT_131_20 (zget_i hk (Or.inl rfl)))
theorem zT_131_23 : zT 131 23 = some (.iconst 1, 1, 0, []) := by decide +kernel
theorem zr_131_23 {l0 l1 : Option zV} {st : List zV} {w : zW} {Q : Option zV → zW → Prop}  : zR 131 23 [l0, l1] st w Q = zR 131 24 [l0, l1] (.inl 1 :: st) w Q := zR_go (zst zT_131_23 rfl)
theorem zT_131_24 : zT 131 24 = some (.iadd, 1, 0, []) := by decide +kernel
theorem zr_131_24 {l0 l1 : Option zV} {x y : Int} {st : List zV} {w : zW} {Q : Option zV → zW → Prop}  : zR 131 24 [l0, l1] (.inl y :: .inl x :: st) w Q = zR 131 25 [l0, l1] (.inl (x + y) :: st) w Q := zR_go (zst zT_131_24 rfl)
theorem zT_131_25 : zT 131 25 = some (.putfield 38, 3, 0, [(2, 6)]) := by decide +kernel
theorem zr_131_25 {l0 l1 : Option zV} {h : Nat} {x : Int} {st : List zV} {w : zW} {Q : Option zV → zW → Prop} (hk : zk w h = 2) : zR 131 25 [l0, l1] (.inl x :: .inr (some h) :: st) w Q = zR 131 28 [l0, l1] st (zsf w 23 h x) Q := zR_go (zst zT_131_25 (zput_i hk rfl))
theorem zT_131_28 : zT 131 28 = some (.aload_n 1, 1, 0, []) := by decide +kernel
theorem zr_131_28 {l0 : Option zV} {x : Option Nat} {st : List zV} {w : zW} {Q : Option zV → zW → Prop}  : zR 131 28 [l0, some (.inr x)] st w Q = zR 131 29 [l0, some (.inr x)] (.inr x :: st) w Q := zR_go (zst zT_131_28 rfl)
theorem zT_131_29 : zT 131 29 = some (.areturn, 1, 0, []) := by decide +kernel
theorem zr_131_29 {l0 l1 : Option zV} {x : Option Nat} {w : zW} {Q : Option zV → zW → Prop} : zR 131 29 [l0, l1] [.inr x] w Q = Q (some (.inr x)) w := zR_ret (zst zT_131_29 rfl)
theorem zT_132_0 : zT 132 0 = some (.aload_n 0, 1, 0, []) := by decide +kernel
theorem zr_132_0 {x : Option Nat} {st : List zV} {w : zW} {Q : Option zV → zW → Prop}  : zR 132 0 [some (.inr x)] st w Q = zR 132 1 [some (.inr x)] (.inr x :: st) w Q := zR_go (zst zT_132_0 rfl)
theorem zT_132_1 : zT 132 1 = some (.aload_n 0, 1, 0, []) := by decide +kernel
theorem zr_132_1 {x : Option Nat} {st : List zV} {w : zW} {Q : Option zV → zW → Prop}  : zR 132 1 [some (.inr x)] st w Q = zR 132 2 [some (.inr x)] (.inr x :: st) w Q := zR_go (zst zT_132_1 rfl)
theorem zT_132_2 : zT 132 2 = some (.getfield 41, 3, 0, [(2, 8)]) := by decide +kernel
theorem zr_132_2 {l0 : Option zV} {h : Nat} {st : List zV} {w : zW} {Q : Option zV → zW → Prop} (hk : zk w h = 2) : zR 132 2 [l0] (.inr (some h) :: st) w Q = zR 132 5 [l0] (.inl (zf w 25 h) :: st) w Q := zR_go (zst zT_132_2 (zget_i hk (Or.inl rfl)))
theorem zT_132_5 : zT 132 5 = some (.iconst 1, 1, 0, []) := by decide +kernel
theorem zr_132_5 {l0 : Option zV} {st : List zV} {w : zW} {Q : Option zV → zW → Prop}  : zR 132 5 [l0] st w Q = zR 132 6 [l0] (.inl 1 :: st) w Q := zR_go (zst zT_132_5 rfl)
theorem zT_132_6 : zT 132 6 = some (.iadd, 1, 0, []) := by decide +kernel
theorem zr_132_6 {l0 : Option zV} {x y : Int} {st : List zV} {w : zW} {Q : Option zV → zW → Prop}  : zR 132 6 [l0] (.inl y :: .inl x :: st) w Q = zR 132 7 [l0] (.inl (x + y) :: st) w Q := zR_go (zst zT_132_6 rfl)
theorem zT_132_7 : zT 132 7 = some (.bipush 8, 2, 0, []) := by decide +kernel
theorem zr_132_7 {l0 : Option zV} {st : List zV} {w : zW} {Q : Option zV → zW → Prop}  : zR 132 7 [l0] st w Q = zR 132 9 [l0] (.inl 8 :: st) w Q := zR_go (zst zT_132_7 rfl)
theorem zT_132_9 : zT 132 9 = some (.irem, 1, 0, []) := by decide +kernel
theorem zr_132_9 {l0 : Option zV} {x y : Int} {st : List zV} {w : zW} {Q : Option zV → zW → Prop} (hy : ¬ zN y = 0) : zR 132 9 [l0] (.inl y :: .inl x :: st) w Q = zR 132 10 [l0] (.inl (zo_rem x y) :: st) w Q := zR_go (zst zT_132_9 (if_neg hy))
theorem zT_132_10 : zT 132 10 = some (.putfield 41, 3, 0, [(2, 8)]) := by decide +kernel
theorem zr_132_10 {l0 : Option zV} {h : Nat} {x : Int} {st : List zV} {w : zW} {Q : Option zV → zW → Prop} (hk : zk w h = 2) : zR 132 10 [l0] (.inl x :: .inr (some h) :: st) w Q = zR 132 13 [l0] st (zsf w 25 h x) Q := zR_go (zst zT_132_10 (zput_i hk rfl))
theorem zT_132_13 : zT 132 13 = some (.aload_n 0, 1, 0, []) := by decide +kernel
theorem zr_132_13 {x : Option Nat} {st : List zV} {w : zW} {Q : Option zV → zW → Prop}  : zR 132 13 [some (.inr x)] st w Q = zR 132 14 [some (.inr x)] (.inr x :: st) w Q := zR_go (zst zT_132_13 rfl)
theorem zT_132_14 : zT 132 14 = some (.dup, 1, 0, []) := by decide +kernel
theorem zr_132_14 {l0 : Option zV} {v : zV} {st : List zV} {w : zW} {Q : Option zV → zW → Prop}  : zR 132 14 [l0] (v :: st) w Q = zR 132 15 [l0] (v :: v :: st) w Q := zR_go (zst zT_132_14 rfl)
theorem zT_132_15 : zT 132 15 = some (.getfield 38, 3, 0, [(2, 6)]) := by decide +kernel
theorem zr_132_15 {l0 : Option zV} {h : Nat} {st : List zV} {w : zW} {Q : Option zV → zW → Prop} (hk : zk w h = 2) : zR 132 15 [l0] (.inr (some h) :: st) w Q = zR 132 18 [l0] (.inl (zf w 23 h) :: st) w Q := zR_go (zst zT_132_15 (zget_i hk (Or.inl rfl)))
theorem zT_132_18 : zT 132 18 = some (.iconst 1, 1, 0, []) := by decide +kernel
theorem zr_132_18 {l0 : Option zV} {st : List zV} {w : zW} {Q : Option zV → zW → Prop}  : zR 132 18 [l0] st w Q = zR 132 19 [l0] (.inl 1 :: st) w Q := zR_go (zst zT_132_18 rfl)
theorem zT_132_19 : zT 132 19 = some (.isub, 1, 0, []) := by decide +kernel
theorem zr_132_19 {l0 : Option zV} {x y : Int} {st : List zV} {w : zW} {Q : Option zV → zW → Prop}  : zR 132 19 [l0] (.inl y :: .inl x :: st) w Q = zR 132 20 [l0] (.inl (x - y) :: st) w Q := zR_go (zst zT_132_19 rfl)
theorem zT_132_20 : zT 132 20 = some (.putfield 38, 3, 0, [(2, 6)]) := by decide +kernel
theorem zr_132_20 {l0 : Option zV} {h : Nat} {x : Int} {st : List zV} {w : zW} {Q : Option zV → zW → Prop} (hk : zk w h = 2) : zR 132 20 [l0] (.inl x :: .inr (some h) :: st) w Q = zR 132 23 [l0] st (zsf w 23 h x) Q := zR_go (zst zT_132_20 (zput_i hk rfl))
theorem zT_132_23 : zT 132 23 = some (.aload_n 0, 1, 0, []) := by decide +kernel
theorem zr_132_23 {x : Option Nat} {st : List zV} {w : zW} {Q : Option zV → zW → Prop}  : zR 132 23 [some (.inr x)] st w Q = zR 132 24 [some (.inr x)] (.inr x :: st) w Q := zR_go (zst zT_132_23 rfl)
theorem zT_132_24 : zT 132 24 = some (.iconst 0, 1, 0, []) := by decide +kernel
theorem zr_132_24 {l0 : Option zV} {st : List zV} {w : zW} {Q : Option zV → zW → Prop}  : zR 132 24 [l0] st w Q = zR 132 25 [l0] (.inl 0 :: st) w Q := zR_go (zst zT_132_24 rfl)
theorem zT_132_25 : zT 132 25 = some (.putfield 35, 3, 0, [(2, 5)]) := by decide +kernel
theorem zr_132_25 {l0 : Option zV} {h : Nat} {x : Int} {st : List zV} {w : zW} {Q : Option zV → zW → Prop} (hk : zk w h = 2) : zR 132 25 [l0] (.inl x :: .inr (some h) :: st) w Q = zR 132 28 [l0] st (zsf w 22 h x) Q := zR_go (zst zT_132_25 (zput_i hk rfl))
theorem zT_132_28 : zT 132 28 = some (.return_, 1, 0, []) := by decide +kernel
theorem zr_132_28 {l0 : Option zV} {w : zW} {Q : Option zV → zW → Prop} : zR 132 28 [l0] [] w Q = Q none w := zR_ret (zst zT_132_28 rfl)
theorem zT_133_0 : zT 133 0 = some (.aload_n 0, 1, 0, []) := by decide +kernel
theorem zr_133_0 {x : Option Nat} {st : List zV} {w : zW} {Q : Option zV → zW → Prop}  : zR 133 0 [some (.inr x)] st w Q = zR 133 1 [some (.inr x)] (.inr x :: st) w Q := zR_go (zst zT_133_0 rfl)
theorem zT_133_1 : zT 133 1 = some (.dup, 1, 0, []) := by decide +kernel
theorem zr_133_1 {l0 : Option zV} {v : zV} {st : List zV} {w : zW} {Q : Option zV → zW → Prop}  : zR 133 1 [l0] (v :: st) w Q = zR 133 2 [l0] (v :: v :: st) w Q := zR_go (zst zT_133_1 rfl)
theorem zT_133_2 : zT 133 2 = some (.getfield 35, 3, 0, [(2, 5)]) := by decide +kernel
theorem zr_133_2 {l0 : Option zV} {h : Nat} {st : List zV} {w : zW} {Q : Option zV → zW → Prop} (hk : zk w h = 2) : zR 133 2 [l0] (.inr (some h) :: st) w Q = zR 133 5 [l0] (.inl (zf w 22 h) :: st) w Q := zR_go (zst zT_133_2 (zget_i hk (Or.inl rfl)))
theorem zT_133_5 : zT 133 5 = some (.iconst 1, 1, 0, []) := by decide +kernel
theorem zr_133_5 {l0 : Option zV} {st : List zV} {w : zW} {Q : Option zV → zW → Prop}  : zR 133 5 [l0] st w Q = zR 133 6 [l0] (.inl 1 :: st) w Q := zR_go (zst zT_133_5 rfl)
theorem zT_133_6 : zT 133 6 = some (.iadd, 1, 0, []) := by decide +kernel
theorem zr_133_6 {l0 : Option zV} {x y : Int} {st : List zV} {w : zW} {Q : Option zV → zW → Prop}  : zR 133 6 [l0] (.inl y :: .inl x :: st) w Q = zR 133 7 [l0] (.inl (x + y) :: st) w Q := zR_go (zst zT_133_6 rfl)
theorem zT_133_7 : zT 133 7 = some (.putfield 35, 3, 0, [(2, 5)]) := by decide +kernel
theorem zr_133_7 {l0 : Option zV} {h : Nat} {x : Int} {st : List zV} {w : zW} {Q : Option zV → zW → Prop} (hk : zk w h = 2) : zR 133 7 [l0] (.inl x :: .inr (some h) :: st) w Q = zR 133 10 [l0] st (zsf w 22 h x) Q := zR_go (zst zT_133_7 (zput_i hk rfl))
theorem zT_133_10 : zT 133 10 = some (.aload_n 0, 1, 0, []) := by decide +kernel
theorem zr_133_10 {x : Option Nat} {st : List zV} {w : zW} {Q : Option zV → zW → Prop}  : zR 133 10 [some (.inr x)] st w Q = zR 133 11 [some (.inr x)] (.inr x :: st) w Q := zR_go (zst zT_133_10 rfl)
theorem zT_133_11 : zT 133 11 = some (.getfield 35, 3, 0, [(2, 5)]) := by decide +kernel
theorem zr_133_11 {l0 : Option zV} {h : Nat} {st : List zV} {w : zW} {Q : Option zV → zW → Prop} (hk : zk w h = 2) : zR 133 11 [l0] (.inr (some h) :: st) w Q = zR 133 14 [l0] (.inl (zf w 22 h) :: st) w Q := zR_go (zst zT_133_11 (zget_i hk (Or.inl rfl)))
theorem zT_133_14 : zT 133 14 = some (.iconst 3, 1, 0, []) := by decide +kernel
theorem zr_133_14 {l0 : Option zV} {st : List zV} {w : zW} {Q : Option zV → zW → Prop}  : zR 133 14 [l0] st w Q = zR 133 15 [l0] (.inl 3 :: st) w Q := zR_go (zst zT_133_14 rfl)
theorem zT_133_15 : zT 133 15 = some (.if_icmp .ne 7, 3, 0, []) := by decide +kernel
theorem zr_133_15 {l0 : Option zV} {x y : Int} {st : List zV} {w : zW} {Q : Option zV → zW → Prop}  : zR 133 15 [l0] (.inl y :: .inl x :: st) w Q = (if zN x ≠ zN y then zR 133 22 [l0] st w Q else zR 133 18 [l0] st w Q) := zR_if (zstB zT_133_15 rfl) (by simp [zcmp])
theorem zT_133_18 : zT 133 18 = some (.aload_n 0, 1, 0, []) := by decide +kernel
theorem zr_133_18 {x : Option Nat} {st : List zV} {w : zW} {Q : Option zV → zW → Prop}  : zR 133 18 [some (.inr x)] st w Q = zR 133 19 [some (.inr x)] (.inr x :: st) w Q := zR_go (zst zT_133_18 rfl)
theorem zT_133_19 : zT 133 19 = some (.invokevirtual 44, 3, 0, [(2, 132)]) := by decide +kernel
theorem zr_133_19 {l0 : Option zV} {h : Nat} {st : List zV} {w : zW} {Q : Option zV → zW → Prop} (hs : st.length ≤ 8) (hk : zk w h = 2) : zR 133 19 [l0] (.inr (some h) :: st) w Q = zR 132 0 [some (.inr (some h))] [] w (fun r w2 => zR 133 22 [l0] (r.toList ++ st) w2 Q) := zR_call (zst zT_133_19 (zcall_v [] rfl hs hk rfl))
theorem zT_133_22 : zT 133 22 = some (.return_, 1, 0, []) := by decide +kernel
theorem zr_133_22 {l0 : Option zV} {w : zW} {Q : Option zV → zW → Prop} : zR 133 22 [l0] [] w Q = Q none w := zR_ret (zst zT_133_22 rfl)
theorem zT_135_0 : zT 135 0 = some (.aload_n 0, 1, 0, []) := by decide +kernel
theorem zr_135_0 {x : Option Nat} {st : List zV} {w : zW} {Q : Option zV → zW → Prop}  : zR 135 0 [some (.inr x)] st w Q = zR 135 1 [some (.inr x)] (.inr x :: st) w Q := zR_go (zst zT_135_0 rfl)
theorem zT_135_1 : zT 135 1 = some (.getfield 15, 3, 0, [(10, 5)]) := by decide +kernel
theorem zr_135_1 {l0 : Option zV} {h : Nat} {st : List zV} {w : zW} {Q : Option zV → zW → Prop} (hk : zk w h = 10) : zR 135 1 [l0] (.inr (some h) :: st) w Q = zR 135 4 [l0] (.inl (zf w 69 h) :: st) w Q := zR_go (zst zT_135_1 (zget_i hk (Or.inl rfl)))
theorem zT_135_4 : zT 135 4 = some (.iconst 1, 1, 0, []) := by decide +kernel
theorem zr_135_4 {l0 : Option zV} {st : List zV} {w : zW} {Q : Option zV → zW → Prop}  : zR 135 4 [l0] st w Q = zR 135 5 [l0] (.inl 1 :: st) w Q := zR_go (zst zT_135_4 rfl)
theorem zT_135_5 : zT 135 5 = some (.if_icmp .eq 5, 3, 0, []) := by decide +kernel
theorem zr_135_5 {l0 : Option zV} {x y : Int} {st : List zV} {w : zW} {Q : Option zV → zW → Prop}  : zR 135 5 [l0] (.inl y :: .inl x :: st) w Q = (if zN x = zN y then zR 135 10 [l0] st w Q else zR 135 8 [l0] st w Q) := zR_if (zstB zT_135_5 rfl) (by simp [zcmp])
theorem zT_135_8 : zT 135 8 = some (.iconst 0, 1, 0, []) := by decide +kernel
theorem zr_135_8 {l0 : Option zV} {st : List zV} {w : zW} {Q : Option zV → zW → Prop}  : zR 135 8 [l0] st w Q = zR 135 9 [l0] (.inl 0 :: st) w Q := zR_go (zst zT_135_8 rfl)
theorem zT_135_9 : zT 135 9 = some (.ireturn, 1, 0, []) := by decide +kernel
theorem zr_135_9 {l0 : Option zV} {x : Int} {w : zW} {Q : Option zV → zW → Prop} (hx : zN x = 0 ∨ zN x = 1) : zR 135 9 [l0] [.inl x] w Q = Q (some (.inl x)) w := zR_ret (zst zT_135_9 (if_pos (Or.inr ⟨rfl, hx⟩)))
theorem zT_135_10 : zT 135 10 = some (.aload_n 0, 1, 0, []) := by decide +kernel
theorem zr_135_10 {x : Option Nat} {st : List zV} {w : zW} {Q : Option zV → zW → Prop}  : zR 135 10 [some (.inr x)] st w Q = zR 135 11 [some (.inr x)] (.inr x :: st) w Q := zR_go (zst zT_135_10 rfl)
theorem zT_135_11 : zT 135 11 = some (.dup, 1, 0, []) := by decide +kernel
theorem zr_135_11 {l0 : Option zV} {v : zV} {st : List zV} {w : zW} {Q : Option zV → zW → Prop}  : zR 135 11 [l0] (v :: st) w Q = zR 135 12 [l0] (v :: v :: st) w Q := zR_go (zst zT_135_11 rfl)
theorem zT_135_12 : zT 135 12 = some (.getfield 19, 3, 0, [(10, 6)]) := by decide +kernel
theorem zr_135_12 {l0 : Option zV} {h : Nat} {st : List zV} {w : zW} {Q : Option zV → zW → Prop} (hk : zk w h = 10) : zR 135 12 [l0] (.inr (some h) :: st) w Q = zR 135 15 [l0] (.inl (zf w 70 h) :: st) w Q := zR_go (zst zT_135_12 (zget_i hk (Or.inl rfl)))
theorem zT_135_15 : zT 135 15 = some (.iconst 1, 1, 0, []) := by decide +kernel
theorem zr_135_15 {l0 : Option zV} {st : List zV} {w : zW} {Q : Option zV → zW → Prop}  : zR 135 15 [l0] st w Q = zR 135 16 [l0] (.inl 1 :: st) w Q := zR_go (zst zT_135_15 rfl)
theorem zT_135_16 : zT 135 16 = some (.isub, 1, 0, []) := by decide +kernel
theorem zr_135_16 {l0 : Option zV} {x y : Int} {st : List zV} {w : zW} {Q : Option zV → zW → Prop}  : zR 135 16 [l0] (.inl y :: .inl x :: st) w Q = zR 135 17 [l0] (.inl (x - y) :: st) w Q := zR_go (zst zT_135_16 rfl)
theorem zT_135_17 : zT 135 17 = some (.putfield 19, 3, 0, [(10, 6)]) := by decide +kernel
theorem zr_135_17 {l0 : Option zV} {h : Nat} {x : Int} {st : List zV} {w : zW} {Q : Option zV → zW → Prop} (hk : zk w h = 10) : zR 135 17 [l0] (.inl x :: .inr (some h) :: st) w Q = zR 135 20 [l0] st (zsf w 70 h x) Q := zR_go (zst zT_135_17 (zput_i hk rfl))
theorem zT_135_20 : zT 135 20 = some (.aload_n 0, 1, 0, []) := by decide +kernel
theorem zr_135_20 {x : Option Nat} {st : List zV} {w : zW} {Q : Option zV → zW → Prop}  : zR 135 20 [some (.inr x)] st w Q = zR 135 21 [some (.inr x)] (.inr x :: st) w Q := zR_go (zst zT_135_20 rfl)
theorem zT_135_21 : zT 135 21 = some (.getfield 19, 3, 0, [(10, 6)]) := by decide +kernel
theorem zr_135_21 {l0 : Option zV} {h : Nat} {st : List zV} {w : zW} {Q : Option zV → zW → Prop} (hk : zk w h = 10) : zR 135 21 [l0] (.inr (some h) :: st) w Q = zR 135 24 [l0] (.inl (zf w 70 h) :: st) w Q := zR_go (zst zT_135_21 (zget_i hk (Or.inl rfl)))
theorem zT_135_24 : zT 135 24 = some (.ifCond .le 5, 3, 0, []) := by decide +kernel
theorem zr_135_24 {l0 : Option zV} {x : Int} {st : List zV} {w : zW} {Q : Option zV → zW → Prop}  : zR 135 24 [l0] (.inl x :: st) w Q = (if zN x ≤ 0 then zR 135 29 [l0] st w Q else zR 135 27 [l0] st w Q) := zR_if (zstB zT_135_24 rfl) (by simp [zcmp])
theorem zT_135_27 : zT 135 27 = some (.iconst 0, 1, 0, []) := by decide +kernel
theorem zr_135_27 {l0 : Option zV} {st : List zV} {w : zW} {Q : Option zV → zW → Prop}  : zR 135 27 [l0] st w Q = zR 135 28 [l0] (.inl 0 :: st) w Q := zR_go (zst zT_135_27 rfl)
theorem zT_135_28 : zT 135 28 = some (.ireturn, 1, 0, []) := by decide +kernel
theorem zr_135_28 {l0 : Option zV} {x : Int} {w : zW} {Q : Option zV → zW → Prop} (hx : zN x = 0 ∨ zN x = 1) : zR 135 28 [l0] [.inl x] w Q = Q (some (.inl x)) w := zR_ret (zst zT_135_28 (if_pos (Or.inr ⟨rfl, hx⟩)))
theorem zT_135_29 : zT 135 29 = some (.aload_n 0, 1, 0, []) := by decide +kernel
theorem zr_135_29 {x : Option Nat} {st : List zV} {w : zW} {Q : Option zV → zW → Prop}  : zR 135 29 [some (.inr x)] st w Q = zR 135 30 [some (.inr x)] (.inr x :: st) w Q := zR_go (zst zT_135_29 rfl)
theorem zT_135_30 : zT 135 30 = some (.getfield 22, 3, 0, [(10, 7)]) := by decide +kernel
theorem zr_135_30 {l0 : Option zV} {h : Nat} {st : List zV} {w : zW} {Q : Option zV → zW → Prop} (hk : zk w h = 10) : zR 135 30 [l0] (.inr (some h) :: st) w Q = zR 135 33 [l0] (.inl (zf w 71 h) :: st) w Q := zR_go (zst zT_135_30 (zget_i hk (Or.inl rfl)))
theorem zT_135_33 : zT 135 33 = some (.iconst 3, 1, 0, []) := by decide +kernel
theorem zr_135_33 {l0 : Option zV} {st : List zV} {w : zW} {Q : Option zV → zW → Prop}  : zR 135 33 [l0] st w Q = zR 135 34 [l0] (.inl 3 :: st) w Q := zR_go (zst zT_135_33 rfl)
theorem zT_135_34 : zT 135 34 = some (.if_icmp .ne 10, 3, 0, []) := by decide +kernel
theorem zr_135_34 {l0 : Option zV} {x y : Int} {st : List zV} {w : zW} {Q : Option zV → zW → Prop}  : zR 135 34 [l0] (.inl y :: .inl x :: st) w Q = (if zN x ≠ zN y then zR 135 44 [l0] st w Q else zR 135 37 [l0] st w Q) := zR_if (zstB zT_135_34 rfl) (by simp [zcmp])
theorem zT_135_37 : zT 135 37 = some (.aload_n 0, 1, 0, []) := by decide +kernel
theorem zr_135_37 {x : Option Nat} {st : List zV} {w : zW} {Q : Option zV → zW → Prop}  : zR 135 37 [some (.inr x)] st w Q = zR 135 38 [some (.inr x)] (.inr x :: st) w Q := zR_go (zst zT_135_37 rfl)
theorem zT_135_38 : zT 135 38 = some (.iconst 3, 1, 0, []) := by decide +kernel
theorem zr_135_38 {l0 : Option zV} {st : List zV} {w : zW} {Q : Option zV → zW → Prop}  : zR 135 38 [l0] st w Q = zR 135 39 [l0] (.inl 3 :: st) w Q := zR_go (zst zT_135_38 rfl)
theorem zT_135_39 : zT 135 39 = some (.putfield 15, 3, 0, [(10, 5)]) := by decide +kernel
theorem zr_135_39 {l0 : Option zV} {h : Nat} {x : Int} {st : List zV} {w : zW} {Q : Option zV → zW → Prop} (hk : zk w h = 10) : zR 135 39 [l0] (.inl x :: .inr (some h) :: st) w Q = zR 135 42 [l0] st (zsf w 69 h x) Q := zR_go (zst zT_135_39 (zput_i hk rfl))
theorem zT_135_42 : zT 135 42 = some (.iconst 0, 1, 0, []) := by decide +kernel
theorem zr_135_42 {l0 : Option zV} {st : List zV} {w : zW} {Q : Option zV → zW → Prop}  : zR 135 42 [l0] st w Q = zR 135 43 [l0] (.inl 0 :: st) w Q := zR_go (zst zT_135_42 rfl)
theorem zT_135_43 : zT 135 43 = some (.ireturn, 1, 0, []) := by decide +kernel
theorem zr_135_43 {l0 : Option zV} {x : Int} {w : zW} {Q : Option zV → zW → Prop} (hx : zN x = 0 ∨ zN x = 1) : zR 135 43 [l0] [.inl x] w Q = Q (some (.inl x)) w := zR_ret (zst zT_135_43 (if_pos (Or.inr ⟨rfl, hx⟩)))
theorem zT_135_44 : zT 135 44 = some (.aload_n 0, 1, 0, []) := by decide +kernel
theorem zr_135_44 {x : Option Nat} {st : List zV} {w : zW} {Q : Option zV → zW → Prop}  : zR 135 44 [some (.inr x)] st w Q = zR 135 45 [some (.inr x)] (.inr x :: st) w Q := zR_go (zst zT_135_44 rfl)
theorem zT_135_45 : zT 135 45 = some (.dup, 1, 0, []) := by decide +kernel
theorem zr_135_45 {l0 : Option zV} {v : zV} {st : List zV} {w : zW} {Q : Option zV → zW → Prop}  : zR 135 45 [l0] (v :: st) w Q = zR 135 46 [l0] (v :: v :: st) w Q := zR_go (zst zT_135_45 rfl)
theorem zT_135_46 : zT 135 46 = some (.getfield 22, 3, 0, [(10, 7)]) := by decide +kernel
theorem zr_135_46 {l0 : Option zV} {h : Nat} {st : List zV} {w : zW} {Q : Option zV → zW → Prop} (hk : zk w h = 10) : zR 135 46 [l0] (.inr (some h) :: st) w Q = zR 135 49 [l0] (.inl (zf w 71 h) :: st) w Q := zR_go (zst zT_135_46 (zget_i hk (Or.inl rfl)))
theorem zT_135_49 : zT 135 49 = some (.iconst 1, 1, 0, []) := by decide +kernel
theorem zr_135_49 {l0 : Option zV} {st : List zV} {w : zW} {Q : Option zV → zW → Prop}  : zR 135 49 [l0] st w Q = zR 135 50 [l0] (.inl 1 :: st) w Q := zR_go (zst zT_135_49 rfl)
theorem zT_135_50 : zT 135 50 = some (.iadd, 1, 0, []) := by decide +kernel
theorem zr_135_50 {l0 : Option zV} {x y : Int} {st : List zV} {w : zW} {Q : Option zV → zW → Prop}  : zR 135 50 [l0] (.inl y :: .inl x :: st) w Q = zR 135 51 [l0] (.inl (x + y) :: st) w Q := zR_go (zst zT_135_50 rfl)
theorem zT_135_51 : zT 135 51 = some (.putfield 22, 3, 0, [(10, 7)]) := by decide +kernel
theorem zr_135_51 {l0 : Option zV} {h : Nat} {x : Int} {st : List zV} {w : zW} {Q : Option zV → zW → Prop} (hk : zk w h = 10) : zR 135 51 [l0] (.inl x :: .inr (some h) :: st) w Q = zR 135 54 [l0] st (zsf w 71 h x) Q := zR_go (zst zT_135_51 (zput_i hk rfl))
theorem zT_135_54 : zT 135 54 = some (.aload_n 0, 1, 0, []) := by decide +kernel
theorem zr_135_54 {x : Option Nat} {st : List zV} {w : zW} {Q : Option zV → zW → Prop}  : zR 135 54 [some (.inr x)] st w Q = zR 135 55 [some (.inr x)] (.inr x :: st) w Q := zR_go (zst zT_135_54 rfl)
theorem zT_135_55 : zT 135 55 = some (.bipush 30, 2, 0, []) := by decide +kernel
theorem zr_135_55 {l0 : Option zV} {st : List zV} {w : zW} {Q : Option zV → zW → Prop}  : zR 135 55 [l0] st w Q = zR 135 57 [l0] (.inl 30 :: st) w Q := zR_go (zst zT_135_55 rfl)
theorem zT_135_57 : zT 135 57 = some (.putfield 19, 3, 0, [(10, 6)]) := by decide +kernel
theorem zr_135_57 {l0 : Option zV} {h : Nat} {x : Int} {st : List zV} {w : zW} {Q : Option zV → zW → Prop} (hk : zk w h = 10) : zR 135 57 [l0] (.inl x :: .inr (some h) :: st) w Q = zR 135 60 [l0] st (zsf w 70 h x) Q := zR_go (zst zT_135_57 (zput_i hk rfl))
theorem zT_135_60 : zT 135 60 = some (.iconst 1, 1, 0, []) := by decide +kernel
theorem zr_135_60 {l0 : Option zV} {st : List zV} {w : zW} {Q : Option zV → zW → Prop}  : zR 135 60 [l0] st w Q = zR 135 61 [l0] (.inl 1 :: st) w Q := zR_go (zst zT_135_60 rfl)
theorem zT_135_61 : zT 135 61 = some (.ireturn, 1, 0, []) := by decide +kernel
theorem zr_135_61 {l0 : Option zV} {x : Int} {w : zW} {Q : Option zV → zW → Prop} (hx : zN x = 0 ∨ zN x = 1) : zR 135 61 [l0] [.inl x] w Q = Q (some (.inl x)) w := zR_ret (zst zT_135_61 (if_pos (Or.inr ⟨rfl, hx⟩)))
theorem zT_136_0 : zT 136 0 = some (.aload_n 0, 1, 0, []) := by decide +kernel
theorem zr_136_0 {l1 : Option zV} {x : Option Nat} {st : List zV} {w : zW} {Q : Option zV → zW → Prop}  : zR 136 0 [some (.inr x), l1] st w Q = zR 136 1 [some (.inr x), l1] (.inr x :: st) w Q := zR_go (zst zT_136_0 rfl)
theorem zT_136_1 : zT 136 1 = some (.getfield 15, 3, 0, [(10, 5)]) := by decide +kernel
theorem zr_136_1 {l0 l1 : Option zV} {h : Nat} {st : List zV} {w : zW} {Q : Option zV → zW → Prop} (hk : zk w h = 10) : zR 136 1 [l0, l1] (.inr (some h) :: st) w Q = zR 136 4 [l0, l1] (.inl (zf w 69 h) :: st) w Q := zR_go (zst zT_136_1 (zget_i hk (Or.inl rfl)))
theorem zT_136_4 : zT 136 4 = some (.iconst 1, 1, 0, []) := by decide +kernel
theorem zr_136_4 {l0 l1 : Option zV} {st : List zV} {w : zW} {Q : Option zV → zW → Prop}  : zR 136 4 [l0, l1] st w Q = zR 136 5 [l0, l1] (.inl 1 :: st) w Q := zR_go (zst zT_136_4 rfl)
theorem zT_136_5 : zT 136 5 = some (.if_icmp .ne 29, 3, 0, []) := by decide +kernel
theorem zr_136_5 {l0 l1 : Option zV} {x y : Int} {st : List zV} {w : zW} {Q : Option zV → zW → Prop}  : zR 136 5 [l0, l1] (.inl y :: .inl x :: st) w Q = (if zN x ≠ zN y then zR 136 34 [l0, l1] st w Q else zR 136 8 [l0, l1] st w Q) := zR_if (zstB zT_136_5 rfl) (by simp [zcmp])
theorem zT_136_8 : zT 136 8 = some (.aload_n 0, 1, 0, []) := by decide +kernel
theorem zr_136_8 {l1 : Option zV} {x : Option Nat} {st : List zV} {w : zW} {Q : Option zV → zW → Prop}  : zR 136 8 [some (.inr x), l1] st w Q = zR 136 9 [some (.inr x), l1] (.inr x :: st) w Q := zR_go (zst zT_136_8 rfl)
theorem zT_136_9 : zT 136 9 = some (.getfield 25, 3, 0, [(10, 0)]) := by decide +kernel
theorem zr_136_9 {l0 l1 : Option zV} {h : Nat} {st : List zV} {w : zW} {Q : Option zV → zW → Prop} (hk : zk w h = 10) : zR 136 9 [l0, l1] (.inr (some h) :: st) w Q = zR 136 12 [l0, l1] (.inl (zf w 64 h) :: st) w Q := zR_go (zst zT_136_9 (zget_i hk (Or.inl rfl)))
theorem zT_136_12 : zT 136 12 = some (.aload_n 1, 1, 0, []) := by decide +kernel
theorem zr_136_12 {l0 : Option zV} {x : Option Nat} {st : List zV} {w : zW} {Q : Option zV → zW → Prop}  : zR 136 12 [l0, some (.inr x)] st w Q = zR 136 13 [l0, some (.inr x)] (.inr x :: st) w Q := zR_go (zst zT_136_12 rfl)
theorem zT_136_13 : zT 136 13 = some (.getfield 34, 3, 0, [(9, 0)]) := by decide +kernel
theorem zr_136_13 {l0 l1 : Option zV} {h : Nat} {st : List zV} {w : zW} {Q : Option zV → zW → Prop} (hk : zk w h = 9) : zR 136 13 [l0, l1] (.inr (some h) :: st) w Q = zR 136 16 [l0, l1] (.inl (zf w 58 h) :: st) w Q := zR_go (zst zT_136_13 (zget_i hk (Or.inl rfl)))
theorem zT_136_16 : zT 136 16 = some (.if_icmp .ne 18, 3, 0, []) := by decide +kernel
theorem zr_136_16 {l0 l1 : Option zV} {x y : Int} {st : List zV} {w : zW} {Q : Option zV → zW → Prop}  : zR 136 16 [l0, l1] (.inl y :: .inl x :: st) w Q = (if zN x ≠ zN y then zR 136 34 [l0, l1] st w Q else zR 136 19 [l0, l1] st w Q) := zR_if (zstB zT_136_16 rfl) (by simp [zcmp])
theorem zT_136_19 : zT 136 19 = some (.aload_n 0, 1, 0, []) := by decide +kernel
theorem zr_136_19 {l1 : Option zV} {x : Option Nat} {st : List zV} {w : zW} {Q : Option zV → zW → Prop}  : zR 136 19 [some (.inr x), l1] st w Q = zR 136 20 [some (.inr x), l1] (.inr x :: st) w Q := zR_go (zst zT_136_19 rfl)
theorem zT_136_20 : zT 136 20 = some (.getfield 28, 3, 0, [(10, 1)]) := by decide +kernel
theorem zr_136_20 {l0 l1 : Option zV} {h : Nat} {st : List zV} {w : zW} {Q : Option zV → zW → Prop} (hk : zk w h = 10) : zR 136 20 [l0, l1] (.inr (some h) :: st) w Q = zR 136 23 [l0, l1] (.inl (zf w 65 h) :: st) w Q := zR_go (zst zT_136_20 (zget_i hk (Or.inl rfl)))
theorem zT_136_23 : zT 136 23 = some (.aload_n 1, 1, 0, []) := by decide +kernel
theorem zr_136_23 {l0 : Option zV} {x : Option Nat} {st : List zV} {w : zW} {Q : Option zV → zW → Prop}  : zR 136 23 [l0, some (.inr x)] st w Q = zR 136 24 [l0, some (.inr x)] (.inr x :: st) w Q := zR_go (zst zT_136_23 rfl)
theorem zT_136_24 : zT 136 24 = some (.invokevirtual 39, 3, 0, [(9, 125)]) := by decide +kernel
theorem zr_136_24 {l0 l1 : Option zV} {h : Nat} {st : List zV} {w : zW} {Q : Option zV → zW → Prop} (hs : st.length ≤ 8) (hk : zk w h = 9) : zR 136 24 [l0, l1] (.inr (some h) :: st) w Q = zR 125 0 [some (.inr (some h))] [] w (fun r w2 => zR 136 27 [l0, l1] (r.toList ++ st) w2 Q) := zR_call (zst zT_136_24 (zcall_v [] rfl hs hk rfl))
theorem zT_136_27 : zT 136 27 = some (.if_icmp .ne 7, 3, 0, []) := by decide +kernel
theorem zr_136_27 {l0 l1 : Option zV} {x y : Int} {st : List zV} {w : zW} {Q : Option zV → zW → Prop}  : zR 136 27 [l0, l1] (.inl y :: .inl x :: st) w Q = (if zN x ≠ zN y then zR 136 34 [l0, l1] st w Q else zR 136 30 [l0, l1] st w Q) := zR_if (zstB zT_136_27 rfl) (by simp [zcmp])
theorem zT_136_30 : zT 136 30 = some (.iconst 1, 1, 0, []) := by decide +kernel
theorem zr_136_30 {l0 l1 : Option zV} {st : List zV} {w : zW} {Q : Option zV → zW → Prop}  : zR 136 30 [l0, l1] st w Q = zR 136 31 [l0, l1] (.inl 1 :: st) w Q := zR_go (zst zT_136_30 rfl)
theorem zT_136_31 : zT 136 31 = some (.goto 4, 3, 0, []) := by decide +kernel
theorem zr_136_31 {l0 l1 : Option zV} {st : List zV} {w : zW} {Q : Option zV → zW → Prop}  : zR 136 31 [l0, l1] st w Q = zR 136 35 [l0, l1] st w Q := zR_go (zst zT_136_31 rfl)
theorem zT_136_34 : zT 136 34 = some (.iconst 0, 1, 0, []) := by decide +kernel
theorem zr_136_34 {l0 l1 : Option zV} {st : List zV} {w : zW} {Q : Option zV → zW → Prop}  : zR 136 34 [l0, l1] st w Q = zR 136 35 [l0, l1] (.inl 0 :: st) w Q := zR_go (zst zT_136_34 rfl)
theorem zT_136_35 : zT 136 35 = some (.ireturn, 1, 0, []) := by decide +kernel
theorem zr_136_35 {l0 l1 : Option zV} {x : Int} {w : zW} {Q : Option zV → zW → Prop} (hx : zN x = 0 ∨ zN x = 1) : zR 136 35 [l0, l1] [.inl x] w Q = Q (some (.inl x)) w := zR_ret (zst zT_136_35 (if_pos (Or.inr ⟨rfl, hx⟩)))
theorem zT_137_0 : zT 137 0 = some (.aload_n 0, 1, 0, []) := by decide +kernel
theorem zr_137_0 {l1 : Option zV} {x : Option Nat} {st : List zV} {w : zW} {Q : Option zV → zW → Prop}  : zR 137 0 [some (.inr x), l1] st w Q = zR 137 1 [some (.inr x), l1] (.inr x :: st) w Q := zR_go (zst zT_137_0 rfl)
theorem zT_137_1 : zT 137 1 = some (.iconst 2, 1, 0, []) := by decide +kernel
theorem zr_137_1 {l0 l1 : Option zV} {st : List zV} {w : zW} {Q : Option zV → zW → Prop}  : zR 137 1 [l0, l1] st w Q = zR 137 2 [l0, l1] (.inl 2 :: st) w Q := zR_go (zst zT_137_1 rfl)
theorem zT_137_2 : zT 137 2 = some (.putfield 15, 3, 0, [(10, 5)]) := by decide +kernel
theorem zr_137_2 {l0 l1 : Option zV} {h : Nat} {x : Int} {st : List zV} {w : zW} {Q : Option zV → zW → Prop} (hk : zk w h = 10) : zR 137 2 [l0, l1] (.inl x :: .inr (some h) :: st) w Q = zR 137 5 [l0, l1] st (zsf w 69 h x) Q := zR_go (zst zT_137_2 (zput_i hk rfl))
theorem zT_137_5 : zT 137 5 = some (.aload_n 0, 1, 0, []) := by decide +kernel
theorem zr_137_5 {l1 : Option zV} {x : Option Nat} {st : List zV} {w : zW} {Q : Option zV → zW → Prop}  : zR 137 5 [some (.inr x), l1] st w Q = zR 137 6 [some (.inr x), l1] (.inr x :: st) w Q := zR_go (zst zT_137_5 rfl)
theorem zT_137_6 : zT 137 6 = some (.aload_n 1, 1, 0, []) := by decide +kernel
theorem zr_137_6 {l0 : Option zV} {x : Option Nat} {st : List zV} {w : zW} {Q : Option zV → zW → Prop}  : zR 137 6 [l0, some (.inr x)] st w Q = zR 137 7 [l0, some (.inr x)] (.inr x :: st) w Q := zR_go (zst zT_137_6 rfl)
theorem zT_137_7 : zT 137 7 = some (.getfield 42, 3, 0, [(9, 2)]) := by decide +kernel
theorem zr_137_7 {l0 l1 : Option zV} {h : Nat} {st : List zV} {w : zW} {Q : Option zV → zW → Prop} (hk : zk w h = 9) : zR 137 7 [l0, l1] (.inr (some h) :: st) w Q = zR 137 10 [l0, l1] (.inl (zf w 60 h) :: st) w Q := zR_go (zst zT_137_7 (zget_i hk (Or.inl rfl)))
theorem zT_137_10 : zT 137 10 = some (.putfield 45, 3, 0, [(10, 4)]) := by decide +kernel
theorem zr_137_10 {l0 l1 : Option zV} {h : Nat} {x : Int} {st : List zV} {w : zW} {Q : Option zV → zW → Prop} (hk : zk w h = 10) : zR 137 10 [l0, l1] (.inl x :: .inr (some h) :: st) w Q = zR 137 13 [l0, l1] st (zsf w 68 h x) Q := zR_go (zst zT_137_10 (zput_i hk rfl))
theorem zT_137_13 : zT 137 13 = some (.aload_n 1, 1, 0, []) := by decide +kernel
theorem zr_137_13 {l0 : Option zV} {x : Option Nat} {st : List zV} {w : zW} {Q : Option zV → zW → Prop}  : zR 137 13 [l0, some (.inr x)] st w Q = zR 137 14 [l0, some (.inr x)] (.inr x :: st) w Q := zR_go (zst zT_137_13 rfl)
theorem zT_137_14 : zT 137 14 = some (.getfield 48, 3, 0, [(9, 3)]) := by decide +kernel
theorem zr_137_14 {l0 l1 : Option zV} {h : Nat} {st : List zV} {w : zW} {Q : Option zV → zW → Prop} (hk : zk w h = 9) : zR 137 14 [l0, l1] (.inr (some h) :: st) w Q = zR 137 17 [l0, l1] (.inr (zp w 61 h) :: st) w Q := zR_go (zst zT_137_14 (zget_r hk rfl))
theorem zT_137_17 : zT 137 17 = some (.iconst 0, 1, 0, []) := by decide +kernel
theorem zr_137_17 {l0 l1 : Option zV} {st : List zV} {w : zW} {Q : Option zV → zW → Prop}  : zR 137 17 [l0, l1] st w Q = zR 137 18 [l0, l1] (.inl 0 :: st) w Q := zR_go (zst zT_137_17 rfl)
theorem zT_137_18 : zT 137 18 = some (.aload_n 0, 1, 0, []) := by decide +kernel
theorem zr_137_18 {l1 : Option zV} {x : Option Nat} {st : List zV} {w : zW} {Q : Option zV → zW → Prop}  : zR 137 18 [some (.inr x), l1] st w Q = zR 137 19 [some (.inr x), l1] (.inr x :: st) w Q := zR_go (zst zT_137_18 rfl)
theorem zT_137_19 : zT 137 19 = some (.getfield 9, 3, 0, [(10, 3)]) := by decide +kernel
theorem zr_137_19 {l0 l1 : Option zV} {h : Nat} {st : List zV} {w : zW} {Q : Option zV → zW → Prop} (hk : zk w h = 10) : zR 137 19 [l0, l1] (.inr (some h) :: st) w Q = zR 137 22 [l0, l1] (.inr (zp w 67 h) :: st) w Q := zR_go (zst zT_137_19 (zget_r hk rfl))
theorem zT_137_22 : zT 137 22 = some (.iconst 0, 1, 0, []) := by decide +kernel
theorem zr_137_22 {l0 l1 : Option zV} {st : List zV} {w : zW} {Q : Option zV → zW → Prop}  : zR 137 22 [l0, l1] st w Q = zR 137 23 [l0, l1] (.inl 0 :: st) w Q := zR_go (zst zT_137_22 rfl)
theorem zT_137_23 : zT 137 23 = some (.aload_n 0, 1, 0, []) := by decide +kernel
theorem zr_137_23 {l1 : Option zV} {x : Option Nat} {st : List zV} {w : zW} {Q : Option zV → zW → Prop}  : zR 137 23 [some (.inr x), l1] st w Q = zR 137 24 [some (.inr x), l1] (.inr x :: st) w Q := zR_go (zst zT_137_23 rfl)
theorem zT_137_24 : zT 137 24 = some (.getfield 45, 3, 0, [(10, 4)]) := by decide +kernel
theorem zr_137_24 {l0 l1 : Option zV} {h : Nat} {st : List zV} {w : zW} {Q : Option zV → zW → Prop} (hk : zk w h = 10) : zR 137 24 [l0, l1] (.inr (some h) :: st) w Q = zR 137 27 [l0, l1] (.inl (zf w 68 h) :: st) w Q := zR_go (zst zT_137_24 (zget_i hk (Or.inl rfl)))
theorem zT_137_27 : zT 137 27 = some (.invokestatic 49, 3, 5, [(0, 0)]) := by decide +kernel
theorem zr_137_27 {l0 l1 : Option zV} {n dp sp : Int} {g h : Nat} {st : List zV} {w : zW} {Q : Option zV → zW → Prop} (hk : zk w h = zNC ∧ zk w g = zNC ∧ 0 ≤ zN sp ∧ 0 ≤ zN dp ∧ 0 ≤ zN n ∧ zN sp + zN n ≤ zl w h ∧ zN dp + zN n ≤ zl w g ∧ st.length ≤ 8) : zR 137 27 [l0, l1] (.inl n :: .inl dp :: .inr (some g) :: .inl sp :: .inr (some h) :: st) w Q = zR 137 30 [l0, l1] st (zcp w h (zN sp).toNat g (zN dp).toNat (zN n).toNat) Q := zR_go (zst zT_137_27 (if_pos hk))
theorem zT_137_30 : zT 137 30 = some (.return_, 1, 0, []) := by decide +kernel
theorem zr_137_30 {l0 l1 : Option zV} {w : zW} {Q : Option zV → zW → Prop} : zR 137 30 [l0, l1] [] w Q = Q none w := zR_ret (zst zT_137_30 rfl)
theorem zT_139_0 : zT 139 0 = some (.aload_n 0, 1, 0, []) := by decide +kernel
theorem zr_139_0 {x : Option Nat} {st : List zV} {w : zW} {Q : Option zV → zW → Prop}  : zR 139 0 [some (.inr x)] st w Q = zR 139 1 [some (.inr x)] (.inr x :: st) w Q := zR_go (zst zT_139_0 rfl)
theorem zT_139_1 : zT 139 1 = some (.iconst 0, 1, 0, []) := by decide +kernel
theorem zr_139_1 {l0 : Option zV} {st : List zV} {w : zW} {Q : Option zV → zW → Prop}  : zR 139 1 [l0] st w Q = zR 139 2 [l0] (.inl 0 :: st) w Q := zR_go (zst zT_139_1 rfl)
theorem zT_139_2 : zT 139 2 = some (.putfield 15, 3, 0, [(7, 1)]) := by decide +kernel
theorem zr_139_2 {l0 : Option zV} {h : Nat} {x : Int} {st : List zV} {w : zW} {Q : Option zV → zW → Prop} (hk : zk w h = 7) : zR 139 2 [l0] (.inl x :: .inr (some h) :: st) w Q = zR 139 5 [l0] st (zsf w 57 h x) Q := zR_go (zst zT_139_2 (zput_i hk rfl))
theorem zT_139_5 : zT 139 5 = some (.return_, 1, 0, []) := by decide +kernel
theorem zr_139_5 {l0 : Option zV} {w : zW} {Q : Option zV → zW → Prop} : zR 139 5 [l0] [] w Q = Q none w := zR_ret (zst zT_139_5 rfl)
theorem zT_140_0 : zT 140 0 = some (.aload_n 0, 1, 0, []) := by decide +kernel
theorem zr_140_0 {l1 : Option zV} {x : Option Nat} {st : List zV} {w : zW} {Q : Option zV → zW → Prop}  : zR 140 0 [some (.inr x), l1] st w Q = zR 140 1 [some (.inr x), l1] (.inr x :: st) w Q := zR_go (zst zT_140_0 rfl)
theorem zT_140_1 : zT 140 1 = some (.getfield 15, 3, 0, [(7, 1)]) := by decide +kernel
theorem zr_140_1 {l0 l1 : Option zV} {h : Nat} {st : List zV} {w : zW} {Q : Option zV → zW → Prop} (hk : zk w h = 7) : zR 140 1 [l0, l1] (.inr (some h) :: st) w Q = zR 140 4 [l0, l1] (.inl (zf w 57 h) :: st) w Q := zR_go (zst zT_140_1 (zget_i hk (Or.inl rfl)))
theorem zT_140_4 : zT 140 4 = some (.bipush 13, 2, 0, []) := by decide +kernel
theorem zr_140_4 {l0 l1 : Option zV} {st : List zV} {w : zW} {Q : Option zV → zW → Prop}  : zR 140 4 [l0, l1] st w Q = zR 140 6 [l0, l1] (.inl 13 :: st) w Q := zR_go (zst zT_140_4 rfl)
theorem zT_140_6 : zT 140 6 = some (.if_icmp .ge 23, 3, 0, []) := by decide +kernel
theorem zr_140_6 {l0 l1 : Option zV} {x y : Int} {st : List zV} {w : zW} {Q : Option zV → zW → Prop}  : zR 140 6 [l0, l1] (.inl y :: .inl x :: st) w Q = (if zN y ≤ zN x then zR 140 29 [l0, l1] st w Q else zR 140 9 [l0, l1] st w Q) := zR_if (zstB zT_140_6 rfl) (by simp [zcmp])
theorem zT_140_9 : zT 140 9 = some (.aload_n 0, 1, 0, []) := by decide +kernel
theorem zr_140_9 {l1 : Option zV} {x : Option Nat} {st : List zV} {w : zW} {Q : Option zV → zW → Prop}  : zR 140 9 [some (.inr x), l1] st w Q = zR 140 10 [some (.inr x), l1] (.inr x :: st) w Q := zR_go (zst zT_140_9 rfl)
theorem zT_140_10 : zT 140 10 = some (.getfield 9, 3, 0, [(7, 0)]) := by decide +kernel
theorem zr_140_10 {l0 l1 : Option zV} {h : Nat} {st : List zV} {w : zW} {Q : Option zV → zW → Prop} (hk : zk w h = 7) : zR 140 10 [l0, l1] (.inr (some h) :: st) w Q = zR 140 13 [l0, l1] (.inr (zp w 56 h) :: st) w Q := zR_go (zst zT_140_10 (zget_r hk rfl))
theorem zT_140_13 : zT 140 13 = some (.aload_n 0, 1, 0, []) := by decide +kernel
theorem zr_140_13 {l1 : Option zV} {x : Option Nat} {st : List zV} {w : zW} {Q : Option zV → zW → Prop}  : zR 140 13 [some (.inr x), l1] st w Q = zR 140 14 [some (.inr x), l1] (.inr x :: st) w Q := zR_go (zst zT_140_13 rfl)
theorem zT_140_14 : zT 140 14 = some (.getfield 15, 3, 0, [(7, 1)]) := by decide +kernel
theorem zr_140_14 {l0 l1 : Option zV} {h : Nat} {st : List zV} {w : zW} {Q : Option zV → zW → Prop} (hk : zk w h = 7) : zR 140 14 [l0, l1] (.inr (some h) :: st) w Q = zR 140 17 [l0, l1] (.inl (zf w 57 h) :: st) w Q := zR_go (zst zT_140_14 (zget_i hk (Or.inl rfl)))
theorem zT_140_17 : zT 140 17 = some (.iload_n 1, 1, 0, []) := by decide +kernel
theorem zr_140_17 {l0 : Option zV} {x : Int} {st : List zV} {w : zW} {Q : Option zV → zW → Prop}  : zR 140 17 [l0, some (.inl x)] st w Q = zR 140 18 [l0, some (.inl x)] (.inl x :: st) w Q := zR_go (zst zT_140_17 rfl)
theorem zT_140_18 : zT 140 18 = some (.iastore, 1, 0, []) := by decide +kernel
theorem zr_140_18 {l0 l1 : Option zV} {j x : Int} {h : Nat} {st : List zV} {w : zW} {Q : Option zV → zW → Prop} (hk : zk w h = zNC ∧ 0 ≤ zN j ∧ zN j < zl w h) : zR 140 18 [l0, l1] (.inl x :: .inl j :: .inr (some h) :: st) w Q = zR 140 19 [l0, l1] st (zsa w h (zN j).toNat x) Q := zR_go (zst zT_140_18 (if_pos hk))
theorem zT_140_19 : zT 140 19 = some (.aload_n 0, 1, 0, []) := by decide +kernel
theorem zr_140_19 {l1 : Option zV} {x : Option Nat} {st : List zV} {w : zW} {Q : Option zV → zW → Prop}  : zR 140 19 [some (.inr x), l1] st w Q = zR 140 20 [some (.inr x), l1] (.inr x :: st) w Q := zR_go (zst zT_140_19 rfl)
theorem zT_140_20 : zT 140 20 = some (.dup, 1, 0, []) := by decide +kernel
theorem zr_140_20 {l0 l1 : Option zV} {v : zV} {st : List zV} {w : zW} {Q : Option zV → zW → Prop}  : zR 140 20 [l0, l1] (v :: st) w Q = zR 140 21 [l0, l1] (v :: v :: st) w Q := zR_go (zst zT_140_20 rfl)
theorem zT_140_21 : zT 140 21 = some (.getfield 15, 3, 0, [(7, 1)]) := by decide +kernel
theorem zr_140_21 {l0 l1 : Option zV} {h : Nat} {st : List zV} {w : zW} {Q : Option zV → zW → Prop} (hk : zk w h = 7) : zR 140 21 [l0, l1] (.inr (some h) :: st) w Q = zR 140 24 [l0, l1] (.inl (zf w 57 h) :: st) w Q := zR_go (zst zT_140_21 (zget_i hk (Or.inl rfl)))
theorem zT_140_24 : zT 140 24 = some (.iconst 1, 1, 0, []) := by decide +kernel
theorem zr_140_24 {l0 l1 : Option zV} {st : List zV} {w : zW} {Q : Option zV → zW → Prop}  : zR 140 24 [l0, l1] st w Q = zR 140 25 [l0, l1] (.inl 1 :: st) w Q := zR_go (zst zT_140_24 rfl)
theorem zT_140_25 : zT 140 25 = some (.iadd, 1, 0, []) := by decide +kernel
theorem zr_140_25 {l0 l1 : Option zV} {x y : Int} {st : List zV} {w : zW} {Q : Option zV → zW → Prop}  : zR 140 25 [l0, l1] (.inl y :: .inl x :: st) w Q = zR 140 26 [l0, l1] (.inl (x + y) :: st) w Q := zR_go (zst zT_140_25 rfl)
theorem zT_140_26 : zT 140 26 = some (.putfield 15, 3, 0, [(7, 1)]) := by decide +kernel
theorem zr_140_26 {l0 l1 : Option zV} {h : Nat} {x : Int} {st : List zV} {w : zW} {Q : Option zV → zW → Prop} (hk : zk w h = 7) : zR 140 26 [l0, l1] (.inl x :: .inr (some h) :: st) w Q = zR 140 29 [l0, l1] st (zsf w 57 h x) Q := zR_go (zst zT_140_26 (zput_i hk rfl))
theorem zT_140_29 : zT 140 29 = some (.return_, 1, 0, []) := by decide +kernel
theorem zr_140_29 {l0 l1 : Option zV} {w : zW} {Q : Option zV → zW → Prop} : zR 140 29 [l0, l1] [] w Q = Q none w := zR_ret (zst zT_140_29 rfl)
theorem zT_141_0 : zT 141 0 = some (.aload_n 0, 1, 0, []) := by decide +kernel
theorem zr_141_0 {x : Option Nat} {st : List zV} {w : zW} {Q : Option zV → zW → Prop}  : zR 141 0 [some (.inr x)] st w Q = zR 141 1 [some (.inr x)] (.inr x :: st) w Q := zR_go (zst zT_141_0 rfl)
theorem zT_141_1 : zT 141 1 = some (.aload_n 0, 1, 0, []) := by decide +kernel
theorem zr_141_1 {x : Option Nat} {st : List zV} {w : zW} {Q : Option zV → zW → Prop}  : zR 141 1 [some (.inr x)] st w Q = zR 141 2 [some (.inr x)] (.inr x :: st) w Q := zR_go (zst zT_141_1 rfl)
theorem zT_141_2 : zT 141 2 = some (.aload_n 0, 1, 0, []) := by decide +kernel
theorem zr_141_2 {x : Option Nat} {st : List zV} {w : zW} {Q : Option zV → zW → Prop}  : zR 141 2 [some (.inr x)] st w Q = zR 141 3 [some (.inr x)] (.inr x :: st) w Q := zR_go (zst zT_141_2 rfl)
theorem zT_141_3 : zT 141 3 = some (.getfield 15, 3, 0, [(7, 1)]) := by decide +kernel
theorem zr_141_3 {l0 : Option zV} {h : Nat} {st : List zV} {w : zW} {Q : Option zV → zW → Prop} (hk : zk w h = 7) : zR 141 3 [l0] (.inr (some h) :: st) w Q = zR 141 6 [l0] (.inl (zf w 57 h) :: st) w Q := zR_go (zst zT_141_3 (zget_i hk (Or.inl rfl)))
theorem zT_141_6 : zT 141 6 = some (.invokevirtual 19, 3, 1, [(7, 145)]) := by decide +kernel
theorem zr_141_6 {l0 : Option zV} {a0 : zV} {h : Nat} {st : List zV} {w : zW} {Q : Option zV → zW → Prop} (hs : st.length ≤ 8) (hk : zk w h = 7) : zR 141 6 [l0] (a0 :: .inr (some h) :: st) w Q = zR 145 0 [some (.inr (some h)), some a0, none, none, none] [] w (fun r w2 => zR 141 9 [l0] (r.toList ++ st) w2 Q) := zR_call (zst zT_141_6 (zcall_v [a0] rfl hs hk rfl))
theorem zT_141_9 : zT 141 9 = some (.invokevirtual 23, 3, 1, [(7, 140)]) := by decide +kernel
theorem zr_141_9 {l0 : Option zV} {a0 : zV} {h : Nat} {st : List zV} {w : zW} {Q : Option zV → zW → Prop} (hs : st.length ≤ 8) (hk : zk w h = 7) : zR 141 9 [l0] (a0 :: .inr (some h) :: st) w Q = zR 140 0 [some (.inr (some h)), some a0] [] w (fun r w2 => zR 141 12 [l0] (r.toList ++ st) w2 Q) := zR_call (zst zT_141_9 (zcall_v [a0] rfl hs hk rfl))
theorem zT_141_12 : zT 141 12 = some (.return_, 1, 0, []) := by decide +kernel
theorem zr_141_12 {l0 : Option zV} {w : zW} {Q : Option zV → zW → Prop} : zR 141 12 [l0] [] w Q = Q none w := zR_ret (zst zT_141_12 rfl)
theorem zT_142_0 : zT 142 0 = some (.aload_n 0, 1, 0, []) := by decide +kernel
theorem zr_142_0 {x : Option Nat} {st : List zV} {w : zW} {Q : Option zV → zW → Prop}  : zR 142 0 [some (.inr x)] st w Q = zR 142 1 [some (.inr x)] (.inr x :: st) w Q := zR_go (zst zT_142_0 rfl)
theorem zT_142_1 : zT 142 1 = some (.getfield 15, 3, 0, [(7, 1)]) := by decide +kernel
theorem zr_142_1 {l0 : Option zV} {h : Nat} {st : List zV} {w : zW} {Q : Option zV → zW → Prop} (hk : zk w h = 7) : zR 142 1 [l0] (.inr (some h) :: st) w Q = zR 142 4 [l0] (.inl (zf w 57 h) :: st) w Q := zR_go (zst zT_142_1 (zget_i hk (Or.inl rfl)))
theorem zT_142_4 : zT 142 4 = some (.ifCond .le 31, 3, 0, []) := by decide +kernel
theorem zr_142_4 {l0 : Option zV} {x : Int} {st : List zV} {w : zW} {Q : Option zV → zW → Prop}  : zR 142 4 [l0] (.inl x :: st) w Q = (if zN x ≤ 0 then zR 142 35 [l0] st w Q else zR 142 7 [l0] st w Q) := zR_if (zstB zT_142_4 rfl) (by simp [zcmp])
theorem zT_142_7 : zT 142 7 = some (.aload_n 0, 1, 0, []) := by decide +kernel
theorem zr_142_7 {x : Option Nat} {st : List zV} {w : zW} {Q : Option zV → zW → Prop}  : zR 142 7 [some (.inr x)] st w Q = zR 142 8 [some (.inr x)] (.inr x :: st) w Q := zR_go (zst zT_142_7 rfl)
theorem zT_142_8 : zT 142 8 = some (.getfield 9, 3, 0, [(7, 0)]) := by decide +kernel
theorem zr_142_8 {l0 : Option zV} {h : Nat} {st : List zV} {w : zW} {Q : Option zV → zW → Prop} (hk : zk w h = 7) : zR 142 8 [l0] (.inr (some h) :: st) w Q = zR 142 11 [l0] (.inr (zp w 56 h) :: st) w Q := zR_go (zst zT_142_8 (zget_r hk rfl))
theorem zT_142_11 : zT 142 11 = some (.aload_n 0, 1, 0, []) := by decide +kernel
theorem zr_142_11 {x : Option Nat} {st : List zV} {w : zW} {Q : Option zV → zW → Prop}  : zR 142 11 [some (.inr x)] st w Q = zR 142 12 [some (.inr x)] (.inr x :: st) w Q := zR_go (zst zT_142_11 rfl)
theorem zT_142_12 : zT 142 12 = some (.getfield 15, 3, 0, [(7, 1)]) := by decide +kernel
theorem zr_142_12 {l0 : Option zV} {h : Nat} {st : List zV} {w : zW} {Q : Option zV → zW → Prop} (hk : zk w h = 7) : zR 142 12 [l0] (.inr (some h) :: st) w Q = zR 142 15 [l0] (.inl (zf w 57 h) :: st) w Q := zR_go (zst zT_142_12 (zget_i hk (Or.inl rfl)))
theorem zT_142_15 : zT 142 15 = some (.iconst 1, 1, 0, []) := by decide +kernel
theorem zr_142_15 {l0 : Option zV} {st : List zV} {w : zW} {Q : Option zV → zW → Prop}  : zR 142 15 [l0] st w Q = zR 142 16 [l0] (.inl 1 :: st) w Q := zR_go (zst zT_142_15 rfl)
theorem zT_142_16 : zT 142 16 = some (.isub, 1, 0, []) := by decide +kernel
theorem zr_142_16 {l0 : Option zV} {x y : Int} {st : List zV} {w : zW} {Q : Option zV → zW → Prop}  : zR 142 16 [l0] (.inl y :: .inl x :: st) w Q = zR 142 17 [l0] (.inl (x - y) :: st) w Q := zR_go (zst zT_142_16 rfl)
theorem zT_142_17 : zT 142 17 = some (.iaload, 1, 0, []) := by decide +kernel
theorem zr_142_17 {l0 : Option zV} {j : Int} {h : Nat} {st : List zV} {w : zW} {Q : Option zV → zW → Prop} (hk : (zk w h = zNC ∨ zk w h = zNC + 2) ∧ 0 ≤ zN j ∧ zN j < zl w h) : zR 142 17 [l0] (.inl j :: .inr (some h) :: st) w Q = zR 142 18 [l0] (.inl (za w h (zN j).toNat) :: st) w Q := zR_go (zst zT_142_17 (if_pos hk))
theorem zT_142_18 : zT 142 18 = some (.aload_n 0, 1, 0, []) := by decide +kernel
theorem zr_142_18 {x : Option Nat} {st : List zV} {w : zW} {Q : Option zV → zW → Prop}  : zR 142 18 [some (.inr x)] st w Q = zR 142 19 [some (.inr x)] (.inr x :: st) w Q := zR_go (zst zT_142_18 rfl)
theorem zT_142_19 : zT 142 19 = some (.aload_n 0, 1, 0, []) := by decide +kernel
theorem zr_142_19 {x : Option Nat} {st : List zV} {w : zW} {Q : Option zV → zW → Prop}  : zR 142 19 [some (.inr x)] st w Q = zR 142 20 [some (.inr x)] (.inr x :: st) w Q := zR_go (zst zT_142_19 rfl)
theorem zT_142_20 : zT 142 20 = some (.getfield 15, 3, 0, [(7, 1)]) := by decide +kernel
theorem zr_142_20 {l0 : Option zV} {h : Nat} {st : List zV} {w : zW} {Q : Option zV → zW → Prop} (hk : zk w h = 7) : zR 142 20 [l0] (.inr (some h) :: st) w Q = zR 142 23 [l0] (.inl (zf w 57 h) :: st) w Q := zR_go (zst zT_142_20 (zget_i hk (Or.inl rfl)))
theorem zT_142_23 : zT 142 23 = some (.iconst 1, 1, 0, []) := by decide +kernel
theorem zr_142_23 {l0 : Option zV} {st : List zV} {w : zW} {Q : Option zV → zW → Prop}  : zR 142 23 [l0] st w Q = zR 142 24 [l0] (.inl 1 :: st) w Q := zR_go (zst zT_142_23 rfl)
theorem zT_142_24 : zT 142 24 = some (.isub, 1, 0, []) := by decide +kernel
theorem zr_142_24 {l0 : Option zV} {x y : Int} {st : List zV} {w : zW} {Q : Option zV → zW → Prop}  : zR 142 24 [l0] (.inl y :: .inl x :: st) w Q = zR 142 25 [l0] (.inl (x - y) :: st) w Q := zR_go (zst zT_142_24 rfl)
theorem zT_142_25 : zT 142 25 = some (.invokevirtual 19, 3, 1, [(7, 145)]) := by decide +kernel
theorem zr_142_25 {l0 : Option zV} {a0 : zV} {h : Nat} {st : List zV} {w : zW} {Q : Option zV → zW → Prop} (hs : st.length ≤ 8) (hk : zk w h = 7) : zR 142 25 [l0] (a0 :: .inr (some h) :: st) w Q = zR 145 0 [some (.inr (some h)), some a0, none, none, none] [] w (fun r w2 => zR 142 28 [l0] (r.toList ++ st) w2 Q) := zR_call (zst zT_142_25 (zcall_v [a0] rfl hs hk rfl))
theorem zT_142_28 : zT 142 28 = some (.if_icmp .ne 7, 3, 0, []) := by decide +kernel
theorem zr_142_28 {l0 : Option zV} {x y : Int} {st : List zV} {w : zW} {Q : Option zV → zW → Prop}  : zR 142 28 [l0] (.inl y :: .inl x :: st) w Q = (if zN x ≠ zN y then zR 142 35 [l0] st w Q else zR 142 31 [l0] st w Q) := zR_if (zstB zT_142_28 rfl) (by simp [zcmp])
theorem zT_142_31 : zT 142 31 = some (.iconst 1, 1, 0, []) := by decide +kernel
theorem zr_142_31 {l0 : Option zV} {st : List zV} {w : zW} {Q : Option zV → zW → Prop}  : zR 142 31 [l0] st w Q = zR 142 32 [l0] (.inl 1 :: st) w Q := zR_go (zst zT_142_31 rfl)
theorem zT_142_32 : zT 142 32 = some (.goto 4, 3, 0, []) := by decide +kernel
theorem zr_142_32 {l0 : Option zV} {st : List zV} {w : zW} {Q : Option zV → zW → Prop}  : zR 142 32 [l0] st w Q = zR 142 36 [l0] st w Q := zR_go (zst zT_142_32 rfl)
theorem zT_142_35 : zT 142 35 = some (.iconst 0, 1, 0, []) := by decide +kernel
theorem zr_142_35 {l0 : Option zV} {st : List zV} {w : zW} {Q : Option zV → zW → Prop}  : zR 142 35 [l0] st w Q = zR 142 36 [l0] (.inl 0 :: st) w Q := zR_go (zst zT_142_35 rfl)
theorem zT_142_36 : zT 142 36 = some (.ireturn, 1, 0, []) := by decide +kernel
theorem zr_142_36 {l0 : Option zV} {x : Int} {w : zW} {Q : Option zV → zW → Prop} (hx : zN x = 0 ∨ zN x = 1) : zR 142 36 [l0] [.inl x] w Q = Q (some (.inl x)) w := zR_ret (zst zT_142_36 (if_pos (Or.inr ⟨rfl, hx⟩)))
theorem zT_143_0 : zT 143 0 = some (.aload_n 0, 1, 0, []) := by decide +kernel
theorem zr_143_0 {l1 l2 l3 : Option zV} {x : Option Nat} {st : List zV} {w : zW} {Q : Option zV → zW → Prop}  : zR 143 0 [some (.inr x), l1, l2, l3] st w Q = zR 143 1 [some (.inr x), l1, l2, l3] (.inr x :: st) w Q := zR_go (zst zT_143_0 rfl)
theorem zT_143_1 : zT 143 1 = some (.getfield 15, 3, 0, [(7, 1)]) := by decide +kernel
theorem zr_143_1 {l0 l1 l2 l3 : Option zV} {h : Nat} {st : List zV} {w : zW} {Q : Option zV → zW → Prop} (hk : zk w h = 7) : zR 143 1 [l0, l1, l2, l3] (.inr (some h) :: st) w Q = zR 143 4 [l0, l1, l2, l3] (.inl (zf w 57 h) :: st) w Q := zR_go (zst zT_143_1 (zget_i hk (Or.inl rfl)))
theorem zT_143_4 : zT 143 4 = some (.aload_n 1, 1, 0, []) := by decide +kernel
theorem zr_143_4 {l0 l2 l3 : Option zV} {x : Option Nat} {st : List zV} {w : zW} {Q : Option zV → zW → Prop}  : zR 143 4 [l0, some (.inr x), l2, l3] st w Q = zR 143 5 [l0, some (.inr x), l2, l3] (.inr x :: st) w Q := zR_go (zst zT_143_4 rfl)
theorem zT_143_5 : zT 143 5 = some (.getfield 15, 3, 0, [(7, 1)]) := by decide +kernel
theorem zr_143_5 {l0 l1 l2 l3 : Option zV} {h : Nat} {st : List zV} {w : zW} {Q : Option zV → zW → Prop} (hk : zk w h = 7) : zR 143 5 [l0, l1, l2, l3] (.inr (some h) :: st) w Q = zR 143 8 [l0, l1, l2, l3] (.inl (zf w 57 h) :: st) w Q := zR_go (zst zT_143_5 (zget_i hk (Or.inl rfl)))
theorem zT_143_8 : zT 143 8 = some (.invokestatic 27, 3, 2, [(1, 0)]) := by decide +kernel
theorem zr_143_8 {l0 l1 l2 l3 : Option zV} {x y : Int} {st : List zV} {w : zW} {Q : Option zV → zW → Prop} (hk : st.length ≤ 8) : zR 143 8 [l0, l1, l2, l3] (.inl y :: .inl x :: st) w Q = zR 143 11 [l0, l1, l2, l3] (.inl (if zN y < zN x then y else x) :: st) w Q := zR_go (zst zT_143_8 (if_pos hk))
theorem zT_143_11 : zT 143 11 = some (.istore_n 2, 1, 0, []) := by decide +kernel
theorem zr_143_11 {l0 l1 l2 l3 : Option zV} {x : Int} {st : List zV} {w : zW} {Q : Option zV → zW → Prop}  : zR 143 11 [l0, l1, l2, l3] (.inl x :: st) w Q = zR 143 12 [l0, l1, some (.inl x), l3] st w Q := zR_go (zst zT_143_11 rfl)
theorem zT_143_12 : zT 143 12 = some (.iconst 0, 1, 0, []) := by decide +kernel
theorem zr_143_12 {l0 l1 l2 l3 : Option zV} {st : List zV} {w : zW} {Q : Option zV → zW → Prop}  : zR 143 12 [l0, l1, l2, l3] st w Q = zR 143 13 [l0, l1, l2, l3] (.inl 0 :: st) w Q := zR_go (zst zT_143_12 rfl)
theorem zT_143_13 : zT 143 13 = some (.istore_n 3, 1, 0, []) := by decide +kernel
theorem zr_143_13 {l0 l1 l2 l3 : Option zV} {x : Int} {st : List zV} {w : zW} {Q : Option zV → zW → Prop}  : zR 143 13 [l0, l1, l2, l3] (.inl x :: st) w Q = zR 143 14 [l0, l1, l2, some (.inl x)] st w Q := zR_go (zst zT_143_13 rfl)
theorem zT_143_14 : zT 143 14 = some (.iload_n 3, 1, 0, []) := by decide +kernel
theorem zr_143_14 {l0 l1 l2 : Option zV} {x : Int} {st : List zV} {w : zW} {Q : Option zV → zW → Prop}  : zR 143 14 [l0, l1, l2, some (.inl x)] st w Q = zR 143 15 [l0, l1, l2, some (.inl x)] (.inl x :: st) w Q := zR_go (zst zT_143_14 rfl)
theorem zT_143_15 : zT 143 15 = some (.iload_n 2, 1, 0, []) := by decide +kernel
theorem zr_143_15 {l0 l1 l3 : Option zV} {x : Int} {st : List zV} {w : zW} {Q : Option zV → zW → Prop}  : zR 143 15 [l0, l1, some (.inl x), l3] st w Q = zR 143 16 [l0, l1, some (.inl x), l3] (.inl x :: st) w Q := zR_go (zst zT_143_15 rfl)
theorem zT_143_16 : zT 143 16 = some (.if_icmp .ge 45, 3, 0, []) := by decide +kernel
theorem zr_143_16 {l0 l1 l2 l3 : Option zV} {x y : Int} {st : List zV} {w : zW} {Q : Option zV → zW → Prop}  : zR 143 16 [l0, l1, l2, l3] (.inl y :: .inl x :: st) w Q = (if zN y ≤ zN x then zR 143 61 [l0, l1, l2, l3] st w Q else zR 143 19 [l0, l1, l2, l3] st w Q) := zR_if (zstB zT_143_16 rfl) (by simp [zcmp])
theorem zT_143_19 : zT 143 19 = some (.aload_n 0, 1, 0, []) := by decide +kernel
theorem zr_143_19 {l1 l2 l3 : Option zV} {x : Option Nat} {st : List zV} {w : zW} {Q : Option zV → zW → Prop}  : zR 143 19 [some (.inr x), l1, l2, l3] st w Q = zR 143 20 [some (.inr x), l1, l2, l3] (.inr x :: st) w Q := zR_go (zst zT_143_19 rfl)
theorem zT_143_20 : zT 143 20 = some (.getfield 9, 3, 0, [(7, 0)]) := by decide +kernel
theorem zr_143_20 {l0 l1 l2 l3 : Option zV} {h : Nat} {st : List zV} {w : zW} {Q : Option zV → zW → Prop} (hk : zk w h = 7) : zR 143 20 [l0, l1, l2, l3] (.inr (some h) :: st) w Q = zR 143 23 [l0, l1, l2, l3] (.inr (zp w 56 h) :: st) w Q := zR_go (zst zT_143_20 (zget_r hk rfl))
theorem zT_143_23 : zT 143 23 = some (.iload_n 3, 1, 0, []) := by decide +kernel
theorem zr_143_23 {l0 l1 l2 : Option zV} {x : Int} {st : List zV} {w : zW} {Q : Option zV → zW → Prop}  : zR 143 23 [l0, l1, l2, some (.inl x)] st w Q = zR 143 24 [l0, l1, l2, some (.inl x)] (.inl x :: st) w Q := zR_go (zst zT_143_23 rfl)
theorem zT_143_24 : zT 143 24 = some (.iaload, 1, 0, []) := by decide +kernel
theorem zr_143_24 {l0 l1 l2 l3 : Option zV} {j : Int} {h : Nat} {st : List zV} {w : zW} {Q : Option zV → zW → Prop} (hk : (zk w h = zNC ∨ zk w h = zNC + 2) ∧ 0 ≤ zN j ∧ zN j < zl w h) : zR 143 24 [l0, l1, l2, l3] (.inl j :: .inr (some h) :: st) w Q = zR 143 25 [l0, l1, l2, l3] (.inl (za w h (zN j).toNat) :: st) w Q := zR_go (zst zT_143_24 (if_pos hk))
theorem zT_143_25 : zT 143 25 = some (.aload_n 1, 1, 0, []) := by decide +kernel
theorem zr_143_25 {l0 l2 l3 : Option zV} {x : Option Nat} {st : List zV} {w : zW} {Q : Option zV → zW → Prop}  : zR 143 25 [l0, some (.inr x), l2, l3] st w Q = zR 143 26 [l0, some (.inr x), l2, l3] (.inr x :: st) w Q := zR_go (zst zT_143_25 rfl)
theorem zT_143_26 : zT 143 26 = some (.getfield 9, 3, 0, [(7, 0)]) := by decide +kernel
theorem zr_143_26 {l0 l1 l2 l3 : Option zV} {h : Nat} {st : List zV} {w : zW} {Q : Option zV → zW → Prop} (hk : zk w h = 7) : zR 143 26 [l0, l1, l2, l3] (.inr (some h) :: st) w Q = zR 143 29 [l0, l1, l2, l3] (.inr (zp w 56 h) :: st) w Q := zR_go (zst zT_143_26 (zget_r hk rfl))
theorem zT_143_29 : zT 143 29 = some (.iload_n 3, 1, 0, []) := by decide +kernel
theorem zr_143_29 {l0 l1 l2 : Option zV} {x : Int} {st : List zV} {w : zW} {Q : Option zV → zW → Prop}  : zR 143 29 [l0, l1, l2, some (.inl x)] st w Q = zR 143 30 [l0, l1, l2, some (.inl x)] (.inl x :: st) w Q := zR_go (zst zT_143_29 rfl)
theorem zT_143_30 : zT 143 30 = some (.iaload, 1, 0, []) := by decide +kernel
theorem zr_143_30 {l0 l1 l2 l3 : Option zV} {j : Int} {h : Nat} {st : List zV} {w : zW} {Q : Option zV → zW → Prop} (hk : (zk w h = zNC ∨ zk w h = zNC + 2) ∧ 0 ≤ zN j ∧ zN j < zl w h) : zR 143 30 [l0, l1, l2, l3] (.inl j :: .inr (some h) :: st) w Q = zR 143 31 [l0, l1, l2, l3] (.inl (za w h (zN j).toNat) :: st) w Q := zR_go (zst zT_143_30 (if_pos hk))
theorem zT_143_31 : zT 143 31 = some (.if_icmp .eq 24, 3, 0, []) := by decide +kernel
theorem zr_143_31 {l0 l1 l2 l3 : Option zV} {x y : Int} {st : List zV} {w : zW} {Q : Option zV → zW → Prop}  : zR 143 31 [l0, l1, l2, l3] (.inl y :: .inl x :: st) w Q = (if zN x = zN y then zR 143 55 [l0, l1, l2, l3] st w Q else zR 143 34 [l0, l1, l2, l3] st w Q) := zR_if (zstB zT_143_31 rfl) (by simp [zcmp])
theorem zT_143_34 : zT 143 34 = some (.aload_n 0, 1, 0, []) := by decide +kernel
theorem zr_143_34 {l1 l2 l3 : Option zV} {x : Option Nat} {st : List zV} {w : zW} {Q : Option zV → zW → Prop}  : zR 143 34 [some (.inr x), l1, l2, l3] st w Q = zR 143 35 [some (.inr x), l1, l2, l3] (.inr x :: st) w Q := zR_go (zst zT_143_34 rfl)
theorem zT_143_35 : zT 143 35 = some (.getfield 9, 3, 0, [(7, 0)]) := by decide +kernel
theorem zr_143_35 {l0 l1 l2 l3 : Option zV} {h : Nat} {st : List zV} {w : zW} {Q : Option zV → zW → Prop} (hk : zk w h = 7) : zR 143 35 [l0, l1, l2, l3] (.inr (some h) :: st) w Q = zR 143 38 [l0, l1, l2, l3] (.inr (zp w 56 h) :: st) w Q := zR_go (zst zT_143_35 (zget_r hk rfl))
theorem zT_143_38 : zT 143 38 = some (.iload_n 3, 1, 0, []) := by decide +kernel
theorem zr_143_38 {l0 l1 l2 : Option zV} {x : Int} {st : List zV} {w : zW} {Q : Option zV → zW → Prop}  : zR 143 38 [l0, l1, l2, some (.inl x)] st w Q = zR 143 39 [l0, l1, l2, some (.inl x)] (.inl x :: st) w Q := zR_go (zst zT_143_38 rfl)
theorem zT_143_39 : zT 143 39 = some (.iaload, 1, 0, []) := by decide +kernel
theorem zr_143_39 {l0 l1 l2 l3 : Option zV} {j : Int} {h : Nat} {st : List zV} {w : zW} {Q : Option zV → zW → Prop} (hk : (zk w h = zNC ∨ zk w h = zNC + 2) ∧ 0 ≤ zN j ∧ zN j < zl w h) : zR 143 39 [l0, l1, l2, l3] (.inl j :: .inr (some h) :: st) w Q = zR 143 40 [l0, l1, l2, l3] (.inl (za w h (zN j).toNat) :: st) w Q := zR_go (zst zT_143_39 (if_pos hk))
theorem zT_143_40 : zT 143 40 = some (.aload_n 1, 1, 0, []) := by decide +kernel
theorem zr_143_40 {l0 l2 l3 : Option zV} {x : Option Nat} {st : List zV} {w : zW} {Q : Option zV → zW → Prop}  : zR 143 40 [l0, some (.inr x), l2, l3] st w Q = zR 143 41 [l0, some (.inr x), l2, l3] (.inr x :: st) w Q := zR_go (zst zT_143_40 rfl)
theorem zT_143_41 : zT 143 41 = some (.getfield 9, 3, 0, [(7, 0)]) := by decide +kernel
theorem zr_143_41 {l0 l1 l2 l3 : Option zV} {h : Nat} {st : List zV} {w : zW} {Q : Option zV → zW → Prop} (hk : zk w h = 7) : zR 143 41 [l0, l1, l2, l3] (.inr (some h) :: st) w Q = zR 143 44 [l0, l1, l2, l3] (.inr (zp w 56 h) :: st) w Q := zR_go (zst zT_143_41 (zget_r hk rfl))
theorem zT_143_44 : zT 143 44 = some (.iload_n 3, 1, 0, []) := by decide +kernel
theorem zr_143_44 {l0 l1 l2 : Option zV} {x : Int} {st : List zV} {w : zW} {Q : Option zV → zW → Prop}  : zR 143 44 [l0, l1, l2, some (.inl x)] st w Q = zR 143 45 [l0, l1, l2, some (.inl x)] (.inl x :: st) w Q := zR_go (zst zT_143_44 rfl)
theorem zT_143_45 : zT 143 45 = some (.iaload, 1, 0, []) := by decide +kernel
theorem zr_143_45 {l0 l1 l2 l3 : Option zV} {j : Int} {h : Nat} {st : List zV} {w : zW} {Q : Option zV → zW → Prop} (hk : (zk w h = zNC ∨ zk w h = zNC + 2) ∧ 0 ≤ zN j ∧ zN j < zl w h) : zR 143 45 [l0, l1, l2, l3] (.inl j :: .inr (some h) :: st) w Q = zR 143 46 [l0, l1, l2, l3] (.inl (za w h (zN j).toNat) :: st) w Q := zR_go (zst zT_143_45 (if_pos hk))
theorem zT_143_46 : zT 143 46 = some (.if_icmp .ge 7, 3, 0, []) := by decide +kernel
theorem zr_143_46 {l0 l1 l2 l3 : Option zV} {x y : Int} {st : List zV} {w : zW} {Q : Option zV → zW → Prop}  : zR 143 46 [l0, l1, l2, l3] (.inl y :: .inl x :: st) w Q = (if zN y ≤ zN x then zR 143 53 [l0, l1, l2, l3] st w Q else zR 143 49 [l0, l1, l2, l3] st w Q) := zR_if (zstB zT_143_46 rfl) (by simp [zcmp])
theorem zT_143_49 : zT 143 49 = some (.iconst 1, 1, 0, []) := by decide +kernel
theorem zr_143_49 {l0 l1 l2 l3 : Option zV} {st : List zV} {w : zW} {Q : Option zV → zW → Prop}  : zR 143 49 [l0, l1, l2, l3] st w Q = zR 143 50 [l0, l1, l2, l3] (.inl 1 :: st) w Q := zR_go (zst zT_143_49 rfl)
theorem zT_143_50 : zT 143 50 = some (.goto 4, 3, 0, []) := by decide +kernel
theorem zr_143_50 {l0 l1 l2 l3 : Option zV} {st : List zV} {w : zW} {Q : Option zV → zW → Prop}  : zR 143 50 [l0, l1, l2, l3] st w Q = zR 143 54 [l0, l1, l2, l3] st w Q := zR_go (zst zT_143_50 rfl)
theorem zT_143_53 : zT 143 53 = some (.iconst 0, 1, 0, []) := by decide +kernel
theorem zr_143_53 {l0 l1 l2 l3 : Option zV} {st : List zV} {w : zW} {Q : Option zV → zW → Prop}  : zR 143 53 [l0, l1, l2, l3] st w Q = zR 143 54 [l0, l1, l2, l3] (.inl 0 :: st) w Q := zR_go (zst zT_143_53 rfl)
theorem zT_143_54 : zT 143 54 = some (.ireturn, 1, 0, []) := by decide +kernel
theorem zr_143_54 {l0 l1 l2 l3 : Option zV} {x : Int} {w : zW} {Q : Option zV → zW → Prop} (hx : zN x = 0 ∨ zN x = 1) : zR 143 54 [l0, l1, l2, l3] [.inl x] w Q = Q (some (.inl x)) w := zR_ret (zst zT_143_54 (if_pos (Or.inr ⟨rfl, hx⟩)))
theorem zT_143_55 : zT 143 55 = some (.iinc 3 1, 3, 0, []) := by decide +kernel
theorem zr_143_55 {l0 l1 l2 : Option zV} {x : Int} {st : List zV} {w : zW} {Q : Option zV → zW → Prop}  : zR 143 55 [l0, l1, l2, some (.inl x)] st w Q = zR 143 58 [l0, l1, l2, some (.inl (x + 1))] st w Q := zR_go (zst zT_143_55 rfl)
theorem zT_143_58 : zT 143 58 = some (.goto (-44), 3, 0, []) := by decide +kernel
theorem zr_143_58 {l0 l1 l2 l3 : Option zV} {st : List zV} {w : zW} {Q : Option zV → zW → Prop}  : zR 143 58 [l0, l1, l2, l3] st w Q = zR 143 14 [l0, l1, l2, l3] st w Q := zR_go (zst zT_143_58 rfl)
theorem zT_143_61 : zT 143 61 = some (.aload_n 0, 1, 0, []) := by decide +kernel
theorem zr_143_61 {l1 l2 l3 : Option zV} {x : Option Nat} {st : List zV} {w : zW} {Q : Option zV → zW → Prop}  : zR 143 61 [some (.inr x), l1, l2, l3] st w Q = zR 143 62 [some (.inr x), l1, l2, l3] (.inr x :: st) w Q := zR_go (zst zT_143_61 rfl)
theorem zT_143_62 : zT 143 62 = some (.getfield 15, 3, 0, [(7, 1)]) := by decide +kernel
theorem zr_143_62 {l0 l1 l2 l3 : Option zV} {h : Nat} {st : List zV} {w : zW} {Q : Option zV → zW → Prop} (hk : zk w h = 7) : zR 143 62 [l0, l1, l2, l3] (.inr (some h) :: st) w Q = zR 143 65 [l0, l1, l2, l3] (.inl (zf w 57 h) :: st) w Q := zR_go (zst zT_143_62 (zget_i hk (Or.inl rfl)))
theorem zT_143_65 : zT 143 65 = some (.aload_n 1, 1, 0, []) := by decide +kernel
theorem zr_143_65 {l0 l2 l3 : Option zV} {x : Option Nat} {st : List zV} {w : zW} {Q : Option zV → zW → Prop}  : zR 143 65 [l0, some (.inr x), l2, l3] st w Q = zR 143 66 [l0, some (.inr x), l2, l3] (.inr x :: st) w Q := zR_go (zst zT_143_65 rfl)
theorem zT_143_66 : zT 143 66 = some (.getfield 15, 3, 0, [(7, 1)]) := by decide +kernel
theorem zr_143_66 {l0 l1 l2 l3 : Option zV} {h : Nat} {st : List zV} {w : zW} {Q : Option zV → zW → Prop} (hk : zk w h = 7) : zR 143 66 [l0, l1, l2, l3] (.inr (some h) :: st) w Q = zR 143 69 [l0, l1, l2, l3] (.inl (zf w 57 h) :: st) w Q := zR_go (zst zT_143_66 (zget_i hk (Or.inl rfl)))
theorem zT_143_69 : zT 143 69 = some (.if_icmp .ge 7, 3, 0, []) := by decide +kernel
theorem zr_143_69 {l0 l1 l2 l3 : Option zV} {x y : Int} {st : List zV} {w : zW} {Q : Option zV → zW → Prop}  : zR 143 69 [l0, l1, l2, l3] (.inl y :: .inl x :: st) w Q = (if zN y ≤ zN x then zR 143 76 [l0, l1, l2, l3] st w Q else zR 143 72 [l0, l1, l2, l3] st w Q) := zR_if (zstB zT_143_69 rfl) (by simp [zcmp])
theorem zT_143_72 : zT 143 72 = some (.iconst 1, 1, 0, []) := by decide +kernel
theorem zr_143_72 {l0 l1 l2 l3 : Option zV} {st : List zV} {w : zW} {Q : Option zV → zW → Prop}  : zR 143 72 [l0, l1, l2, l3] st w Q = zR 143 73 [l0, l1, l2, l3] (.inl 1 :: st) w Q := zR_go (zst zT_143_72 rfl)
theorem zT_143_73 : zT 143 73 = some (.goto 4, 3, 0, []) := by decide +kernel
theorem zr_143_73 {l0 l1 l2 l3 : Option zV} {st : List zV} {w : zW} {Q : Option zV → zW → Prop}  : zR 143 73 [l0, l1, l2, l3] st w Q = zR 143 77 [l0, l1, l2, l3] st w Q := zR_go (zst zT_143_73 rfl)
theorem zT_143_76 : zT 143 76 = some (.iconst 0, 1, 0, []) := by decide +kernel
theorem zr_143_76 {l0 l1 l2 l3 : Option zV} {st : List zV} {w : zW} {Q : Option zV → zW → Prop}  : zR 143 76 [l0, l1, l2, l3] st w Q = zR 143 77 [l0, l1, l2, l3] (.inl 0 :: st) w Q := zR_go (zst zT_143_76 rfl)
theorem zT_143_77 : zT 143 77 = some (.ireturn, 1, 0, []) := by decide +kernel
theorem zr_143_77 {l0 l1 l2 l3 : Option zV} {x : Int} {w : zW} {Q : Option zV → zW → Prop} (hx : zN x = 0 ∨ zN x = 1) : zR 143 77 [l0, l1, l2, l3] [.inl x] w Q = Q (some (.inl x)) w := zR_ret (zst zT_143_77 (if_pos (Or.inr ⟨rfl, hx⟩)))
theorem zT_144_0 : zT 144 0 = some (.aload_n 0, 1, 0, []) := by decide +kernel
theorem zr_144_0 {l1 : Option zV} {x : Option Nat} {st : List zV} {w : zW} {Q : Option zV → zW → Prop}  : zR 144 0 [some (.inr x), l1] st w Q = zR 144 1 [some (.inr x), l1] (.inr x :: st) w Q := zR_go (zst zT_144_0 rfl)
theorem zT_144_1 : zT 144 1 = some (.aload_n 1, 1, 0, []) := by decide +kernel
theorem zr_144_1 {l0 : Option zV} {x : Option Nat} {st : List zV} {w : zW} {Q : Option zV → zW → Prop}  : zR 144 1 [l0, some (.inr x)] st w Q = zR 144 2 [l0, some (.inr x)] (.inr x :: st) w Q := zR_go (zst zT_144_1 rfl)
theorem zT_144_2 : zT 144 2 = some (.getfield 15, 3, 0, [(7, 1)]) := by decide +kernel
theorem zr_144_2 {l0 l1 : Option zV} {h : Nat} {st : List zV} {w : zW} {Q : Option zV → zW → Prop} (hk : zk w h = 7) : zR 144 2 [l0, l1] (.inr (some h) :: st) w Q = zR 144 5 [l0, l1] (.inl (zf w 57 h) :: st) w Q := zR_go (zst zT_144_2 (zget_i hk (Or.inl rfl)))
theorem zT_144_5 : zT 144 5 = some (.putfield 15, 3, 0, [(7, 1)]) := by decide +kernel
theorem zr_144_5 {l0 l1 : Option zV} {h : Nat} {x : Int} {st : List zV} {w : zW} {Q : Option zV → zW → Prop} (hk : zk w h = 7) : zR 144 5 [l0, l1] (.inl x :: .inr (some h) :: st) w Q = zR 144 8 [l0, l1] st (zsf w 57 h x) Q := zR_go (zst zT_144_5 (zput_i hk rfl))
theorem zT_144_8 : zT 144 8 = some (.aload_n 1, 1, 0, []) := by decide +kernel
theorem zr_144_8 {l0 : Option zV} {x : Option Nat} {st : List zV} {w : zW} {Q : Option zV → zW → Prop}  : zR 144 8 [l0, some (.inr x)] st w Q = zR 144 9 [l0, some (.inr x)] (.inr x :: st) w Q := zR_go (zst zT_144_8 rfl)
theorem zT_144_9 : zT 144 9 = some (.getfield 9, 3, 0, [(7, 0)]) := by decide +kernel
theorem zr_144_9 {l0 l1 : Option zV} {h : Nat} {st : List zV} {w : zW} {Q : Option zV → zW → Prop} (hk : zk w h = 7) : zR 144 9 [l0, l1] (.inr (some h) :: st) w Q = zR 144 12 [l0, l1] (.inr (zp w 56 h) :: st) w Q := zR_go (zst zT_144_9 (zget_r hk rfl))
theorem zT_144_12 : zT 144 12 = some (.iconst 0, 1, 0, []) := by decide +kernel
theorem zr_144_12 {l0 l1 : Option zV} {st : List zV} {w : zW} {Q : Option zV → zW → Prop}  : zR 144 12 [l0, l1] st w Q = zR 144 13 [l0, l1] (.inl 0 :: st) w Q := zR_go (zst zT_144_12 rfl)
theorem zT_144_13 : zT 144 13 = some (.aload_n 0, 1, 0, []) := by decide +kernel
theorem zr_144_13 {l1 : Option zV} {x : Option Nat} {st : List zV} {w : zW} {Q : Option zV → zW → Prop}  : zR 144 13 [some (.inr x), l1] st w Q = zR 144 14 [some (.inr x), l1] (.inr x :: st) w Q := zR_go (zst zT_144_13 rfl)
theorem zT_144_14 : zT 144 14 = some (.getfield 9, 3, 0, [(7, 0)]) := by decide +kernel
theorem zr_144_14 {l0 l1 : Option zV} {h : Nat} {st : List zV} {w : zW} {Q : Option zV → zW → Prop} (hk : zk w h = 7) : zR 144 14 [l0, l1] (.inr (some h) :: st) w Q = zR 144 17 [l0, l1] (.inr (zp w 56 h) :: st) w Q := zR_go (zst zT_144_14 (zget_r hk rfl))
theorem zT_144_17 : zT 144 17 = some (.iconst 0, 1, 0, []) := by decide +kernel
theorem zr_144_17 {l0 l1 : Option zV} {st : List zV} {w : zW} {Q : Option zV → zW → Prop}  : zR 144 17 [l0, l1] st w Q = zR 144 18 [l0, l1] (.inl 0 :: st) w Q := zR_go (zst zT_144_17 rfl)
theorem zT_144_18 : zT 144 18 = some (.aload_n 0, 1, 0, []) := by decide +kernel
theorem zr_144_18 {l1 : Option zV} {x : Option Nat} {st : List zV} {w : zW} {Q : Option zV → zW → Prop}  : zR 144 18 [some (.inr x), l1] st w Q = zR 144 19 [some (.inr x), l1] (.inr x :: st) w Q := zR_go (zst zT_144_18 rfl)
theorem zT_144_19 : zT 144 19 = some (.getfield 15, 3, 0, [(7, 1)]) := by decide +kernel
theorem zr_144_19 {l0 l1 : Option zV} {h : Nat} {st : List zV} {w : zW} {Q : Option zV → zW → Prop} (hk : zk w h = 7) : zR 144 19 [l0, l1] (.inr (some h) :: st) w Q = zR 144 22 [l0, l1] (.inl (zf w 57 h) :: st) w Q := zR_go (zst zT_144_19 (zget_i hk (Or.inl rfl)))
theorem zT_144_22 : zT 144 22 = some (.invokestatic 33, 3, 5, [(0, 0)]) := by decide +kernel
theorem zr_144_22 {l0 l1 : Option zV} {n dp sp : Int} {g h : Nat} {st : List zV} {w : zW} {Q : Option zV → zW → Prop} (hk : zk w h = zNC ∧ zk w g = zNC ∧ 0 ≤ zN sp ∧ 0 ≤ zN dp ∧ 0 ≤ zN n ∧ zN sp + zN n ≤ zl w h ∧ zN dp + zN n ≤ zl w g ∧ st.length ≤ 8) : zR 144 22 [l0, l1] (.inl n :: .inl dp :: .inr (some g) :: .inl sp :: .inr (some h) :: st) w Q = zR 144 25 [l0, l1] st (zcp w h (zN sp).toNat g (zN dp).toNat (zN n).toNat) Q := zR_go (zst zT_144_22 (if_pos hk))
theorem zT_144_25 : zT 144 25 = some (.return_, 1, 0, []) := by decide +kernel
theorem zr_144_25 {l0 l1 : Option zV} {w : zW} {Q : Option zV → zW → Prop} : zR 144 25 [l0, l1] [] w Q = Q none w := zR_ret (zst zT_144_25 rfl)
theorem zT_145_0 : zT 145 0 = some (.iconst 0, 1, 0, []) := by decide +kernel
theorem zr_145_0 {l0 l1 l2 l3 l4 : Option zV} {st : List zV} {w : zW} {Q : Option zV → zW → Prop}  : zR 145 0 [l0, l1, l2, l3, l4] st w Q = zR 145 1 [l0, l1, l2, l3, l4] (.inl 0 :: st) w Q := zR_go (zst zT_145_0 rfl)
theorem zT_145_1 : zT 145 1 = some (.istore_n 2, 1, 0, []) := by decide +kernel
theorem zr_145_1 {l0 l1 l2 l3 l4 : Option zV} {x : Int} {st : List zV} {w : zW} {Q : Option zV → zW → Prop}  : zR 145 1 [l0, l1, l2, l3, l4] (.inl x :: st) w Q = zR 145 2 [l0, l1, some (.inl x), l3, l4] st w Q := zR_go (zst zT_145_1 rfl)
theorem zT_145_2 : zT 145 2 = some (.iconst 0, 1, 0, []) := by decide +kernel
theorem zr_145_2 {l0 l1 l2 l3 l4 : Option zV} {st : List zV} {w : zW} {Q : Option zV → zW → Prop}  : zR 145 2 [l0, l1, l2, l3, l4] st w Q = zR 145 3 [l0, l1, l2, l3, l4] (.inl 0 :: st) w Q := zR_go (zst zT_145_2 rfl)
theorem zT_145_3 : zT 145 3 = some (.istore_n 3, 1, 0, []) := by decide +kernel
theorem zr_145_3 {l0 l1 l2 l3 l4 : Option zV} {x : Int} {st : List zV} {w : zW} {Q : Option zV → zW → Prop}  : zR 145 3 [l0, l1, l2, l3, l4] (.inl x :: st) w Q = zR 145 4 [l0, l1, l2, some (.inl x), l4] st w Q := zR_go (zst zT_145_3 rfl)
theorem zT_145_4 : zT 145 4 = some (.iload_n 3, 1, 0, []) := by decide +kernel
theorem zr_145_4 {l0 l1 l2 l4 : Option zV} {x : Int} {st : List zV} {w : zW} {Q : Option zV → zW → Prop}  : zR 145 4 [l0, l1, l2, some (.inl x), l4] st w Q = zR 145 5 [l0, l1, l2, some (.inl x), l4] (.inl x :: st) w Q := zR_go (zst zT_145_4 rfl)
theorem zT_145_5 : zT 145 5 = some (.iload_n 1, 1, 0, []) := by decide +kernel
theorem zr_145_5 {l0 l2 l3 l4 : Option zV} {x : Int} {st : List zV} {w : zW} {Q : Option zV → zW → Prop}  : zR 145 5 [l0, some (.inl x), l2, l3, l4] st w Q = zR 145 6 [l0, some (.inl x), l2, l3, l4] (.inl x :: st) w Q := zR_go (zst zT_145_5 rfl)
theorem zT_145_6 : zT 145 6 = some (.if_icmp .ge 51, 3, 0, []) := by decide +kernel
theorem zr_145_6 {l0 l1 l2 l3 l4 : Option zV} {x y : Int} {st : List zV} {w : zW} {Q : Option zV → zW → Prop}  : zR 145 6 [l0, l1, l2, l3, l4] (.inl y :: .inl x :: st) w Q = (if zN y ≤ zN x then zR 145 57 [l0, l1, l2, l3, l4] st w Q else zR 145 9 [l0, l1, l2, l3, l4] st w Q) := zR_if (zstB zT_145_6 rfl) (by simp [zcmp])
theorem zT_145_9 : zT 145 9 = some (.iload_n 2, 1, 0, []) := by decide +kernel
theorem zr_145_9 {l0 l1 l3 l4 : Option zV} {x : Int} {st : List zV} {w : zW} {Q : Option zV → zW → Prop}  : zR 145 9 [l0, l1, some (.inl x), l3, l4] st w Q = zR 145 10 [l0, l1, some (.inl x), l3, l4] (.inl x :: st) w Q := zR_go (zst zT_145_9 rfl)
theorem zT_145_10 : zT 145 10 = some (.aload_n 0, 1, 0, []) := by decide +kernel
theorem zr_145_10 {l1 l2 l3 l4 : Option zV} {x : Option Nat} {st : List zV} {w : zW} {Q : Option zV → zW → Prop}  : zR 145 10 [some (.inr x), l1, l2, l3, l4] st w Q = zR 145 11 [some (.inr x), l1, l2, l3, l4] (.inr x :: st) w Q := zR_go (zst zT_145_10 rfl)
theorem zT_145_11 : zT 145 11 = some (.getfield 9, 3, 0, [(7, 0)]) := by decide +kernel
theorem zr_145_11 {l0 l1 l2 l3 l4 : Option zV} {h : Nat} {st : List zV} {w : zW} {Q : Option zV → zW → Prop} (hk : zk w h = 7) : zR 145 11 [l0, l1, l2, l3, l4] (.inr (some h) :: st) w Q = zR 145 14 [l0, l1, l2, l3, l4] (.inr (zp w 56 h) :: st) w Q := zR_go (zst zT_145_11 (zget_r hk rfl))
theorem zT_145_14 : zT 145 14 = some (.iload_n 3, 1, 0, []) := by decide +kernel
theorem zr_145_14 {l0 l1 l2 l4 : Option zV} {x : Int} {st : List zV} {w : zW} {Q : Option zV → zW → Prop}  : zR 145 14 [l0, l1, l2, some (.inl x), l4] st w Q = zR 145 15 [l0, l1, l2, some (.inl x), l4] (.inl x :: st) w Q := zR_go (zst zT_145_14 rfl)
theorem zT_145_15 : zT 145 15 = some (.iaload, 1, 0, []) := by decide +kernel
theorem zr_145_15 {l0 l1 l2 l3 l4 : Option zV} {j : Int} {h : Nat} {st : List zV} {w : zW} {Q : Option zV → zW → Prop} (hk : (zk w h = zNC ∨ zk w h = zNC + 2) ∧ 0 ≤ zN j ∧ zN j < zl w h) : zR 145 15 [l0, l1, l2, l3, l4] (.inl j :: .inr (some h) :: st) w Q = zR 145 16 [l0, l1, l2, l3, l4] (.inl (za w h (zN j).toNat) :: st) w Q := zR_go (zst zT_145_15 (if_pos hk))
theorem zT_145_16 : zT 145 16 = some (.ixor, 1, 0, []) := by decide +kernel
theorem zr_145_16 {l0 l1 l2 l3 l4 : Option zV} {x y : Int} {st : List zV} {w : zW} {Q : Option zV → zW → Prop}  : zR 145 16 [l0, l1, l2, l3, l4] (.inl y :: .inl x :: st) w Q = zR 145 17 [l0, l1, l2, l3, l4] (.inl (zo_xor x y) :: st) w Q := zR_go (zst zT_145_16 rfl)
theorem zT_145_17 : zT 145 17 = some (.istore_n 2, 1, 0, []) := by decide +kernel
theorem zr_145_17 {l0 l1 l2 l3 l4 : Option zV} {x : Int} {st : List zV} {w : zW} {Q : Option zV → zW → Prop}  : zR 145 17 [l0, l1, l2, l3, l4] (.inl x :: st) w Q = zR 145 18 [l0, l1, some (.inl x), l3, l4] st w Q := zR_go (zst zT_145_17 rfl)
theorem zT_145_18 : zT 145 18 = some (.iconst 0, 1, 0, []) := by decide +kernel
theorem zr_145_18 {l0 l1 l2 l3 l4 : Option zV} {st : List zV} {w : zW} {Q : Option zV → zW → Prop}  : zR 145 18 [l0, l1, l2, l3, l4] st w Q = zR 145 19 [l0, l1, l2, l3, l4] (.inl 0 :: st) w Q := zR_go (zst zT_145_18 rfl)
theorem zT_145_19 : zT 145 19 = some (.istore 4, 2, 0, []) := by decide +kernel
theorem zr_145_19 {l0 l1 l2 l3 l4 : Option zV} {x : Int} {st : List zV} {w : zW} {Q : Option zV → zW → Prop}  : zR 145 19 [l0, l1, l2, l3, l4] (.inl x :: st) w Q = zR 145 21 [l0, l1, l2, l3, some (.inl x)] st w Q := zR_go (zst zT_145_19 rfl)
theorem zT_145_21 : zT 145 21 = some (.iload 4, 2, 0, []) := by decide +kernel
theorem zr_145_21 {l0 l1 l2 l3 : Option zV} {x : Int} {st : List zV} {w : zW} {Q : Option zV → zW → Prop}  : zR 145 21 [l0, l1, l2, l3, some (.inl x)] st w Q = zR 145 23 [l0, l1, l2, l3, some (.inl x)] (.inl x :: st) w Q := zR_go (zst zT_145_21 rfl)
theorem zT_145_23 : zT 145 23 = some (.bipush 8, 2, 0, []) := by decide +kernel
theorem zr_145_23 {l0 l1 l2 l3 l4 : Option zV} {st : List zV} {w : zW} {Q : Option zV → zW → Prop}  : zR 145 23 [l0, l1, l2, l3, l4] st w Q = zR 145 25 [l0, l1, l2, l3, l4] (.inl 8 :: st) w Q := zR_go (zst zT_145_23 rfl)
theorem zT_145_25 : zT 145 25 = some (.if_icmp .ge 26, 3, 0, []) := by decide +kernel
theorem zr_145_25 {l0 l1 l2 l3 l4 : Option zV} {x y : Int} {st : List zV} {w : zW} {Q : Option zV → zW → Prop}  : zR 145 25 [l0, l1, l2, l3, l4] (.inl y :: .inl x :: st) w Q = (if zN y ≤ zN x then zR 145 51 [l0, l1, l2, l3, l4] st w Q else zR 145 28 [l0, l1, l2, l3, l4] st w Q) := zR_if (zstB zT_145_25 rfl) (by simp [zcmp])
theorem zT_145_28 : zT 145 28 = some (.iload_n 2, 1, 0, []) := by decide +kernel
theorem zr_145_28 {l0 l1 l3 l4 : Option zV} {x : Int} {st : List zV} {w : zW} {Q : Option zV → zW → Prop}  : zR 145 28 [l0, l1, some (.inl x), l3, l4] st w Q = zR 145 29 [l0, l1, some (.inl x), l3, l4] (.inl x :: st) w Q := zR_go (zst zT_145_28 rfl)
theorem zT_145_29 : zT 145 29 = some (.iconst 2, 1, 0, []) := by decide +kernel
theorem zr_145_29 {l0 l1 l2 l3 l4 : Option zV} {st : List zV} {w : zW} {Q : Option zV → zW → Prop}  : zR 145 29 [l0, l1, l2, l3, l4] st w Q = zR 145 30 [l0, l1, l2, l3, l4] (.inl 2 :: st) w Q := zR_go (zst zT_145_29 rfl)
theorem zT_145_30 : zT 145 30 = some (.imul, 1, 0, []) := by decide +kernel
theorem zr_145_30 {l0 l1 l2 l3 l4 : Option zV} {x y : Int} {st : List zV} {w : zW} {Q : Option zV → zW → Prop}  : zR 145 30 [l0, l1, l2, l3, l4] (.inl y :: .inl x :: st) w Q = zR 145 31 [l0, l1, l2, l3, l4] (.inl (x * y) :: st) w Q := zR_go (zst zT_145_30 rfl)
theorem zT_145_31 : zT 145 31 = some (.istore_n 2, 1, 0, []) := by decide +kernel
theorem zr_145_31 {l0 l1 l2 l3 l4 : Option zV} {x : Int} {st : List zV} {w : zW} {Q : Option zV → zW → Prop}  : zR 145 31 [l0, l1, l2, l3, l4] (.inl x :: st) w Q = zR 145 32 [l0, l1, some (.inl x), l3, l4] st w Q := zR_go (zst zT_145_31 rfl)
theorem zT_145_32 : zT 145 32 = some (.iload_n 2, 1, 0, []) := by decide +kernel
theorem zr_145_32 {l0 l1 l3 l4 : Option zV} {x : Int} {st : List zV} {w : zW} {Q : Option zV → zW → Prop}  : zR 145 32 [l0, l1, some (.inl x), l3, l4] st w Q = zR 145 33 [l0, l1, some (.inl x), l3, l4] (.inl x :: st) w Q := zR_go (zst zT_145_32 rfl)
theorem zT_145_33 : zT 145 33 = some (.sipush 255, 3, 0, []) := by decide +kernel
theorem zr_145_33 {l0 l1 l2 l3 l4 : Option zV} {st : List zV} {w : zW} {Q : Option zV → zW → Prop}  : zR 145 33 [l0, l1, l2, l3, l4] st w Q = zR 145 36 [l0, l1, l2, l3, l4] (.inl 255 :: st) w Q := zR_go (zst zT_145_33 rfl)
theorem zT_145_36 : zT 145 36 = some (.if_icmp .le 9, 3, 0, []) := by decide +kernel
theorem zr_145_36 {l0 l1 l2 l3 l4 : Option zV} {x y : Int} {st : List zV} {w : zW} {Q : Option zV → zW → Prop}  : zR 145 36 [l0, l1, l2, l3, l4] (.inl y :: .inl x :: st) w Q = (if zN x ≤ zN y then zR 145 45 [l0, l1, l2, l3, l4] st w Q else zR 145 39 [l0, l1, l2, l3, l4] st w Q) := zR_if (zstB zT_145_36 rfl) (by simp [zcmp])
theorem zT_145_39 : zT 145 39 = some (.iload_n 2, 1, 0, []) := by decide +kernel
theorem zr_145_39 {l0 l1 l3 l4 : Option zV} {x : Int} {st : List zV} {w : zW} {Q : Option zV → zW → Prop}  : zR 145 39 [l0, l1, some (.inl x), l3, l4] st w Q = zR 145 40 [l0, l1, some (.inl x), l3, l4] (.inl x :: st) w Q := zR_go (zst zT_145_39 rfl)
theorem zT_145_40 : zT 145 40 = some (.sipush 263, 3, 0, []) := by decide +kernel
theorem zr_145_40 {l0 l1 l2 l3 l4 : Option zV} {st : List zV} {w : zW} {Q : Option zV → zW → Prop}  : zR 145 40 [l0, l1, l2, l3, l4] st w Q = zR 145 43 [l0, l1, l2, l3, l4] (.inl 263 :: st) w Q := zR_go (zst zT_145_40 rfl)
theorem zT_145_43 : zT 145 43 = some (.ixor, 1, 0, []) := by decide +kernel
theorem zr_145_43 {l0 l1 l2 l3 l4 : Option zV} {x y : Int} {st : List zV} {w : zW} {Q : Option zV → zW → Prop}  : zR 145 43 [l0, l1, l2, l3, l4] (.inl y :: .inl x :: st) w Q = zR 145 44 [l0, l1, l2, l3, l4] (.inl (zo_xor x y) :: st) w Q := zR_go (zst zT_145_43 rfl)
theorem zT_145_44 : zT 145 44 = some (.istore_n 2, 1, 0, []) := by decide +kernel
theorem zr_145_44 {l0 l1 l2 l3 l4 : Option zV} {x : Int} {st : List zV} {w : zW} {Q : Option zV → zW → Prop}  : zR 145 44 [l0, l1, l2, l3, l4] (.inl x :: st) w Q = zR 145 45 [l0, l1, some (.inl x), l3, l4] st w Q := zR_go (zst zT_145_44 rfl)
theorem zT_145_45 : zT 145 45 = some (.iinc 4 1, 3, 0, []) := by decide +kernel
theorem zr_145_45 {l0 l1 l2 l3 : Option zV} {x : Int} {st : List zV} {w : zW} {Q : Option zV → zW → Prop}  : zR 145 45 [l0, l1, l2, l3, some (.inl x)] st w Q = zR 145 48 [l0, l1, l2, l3, some (.inl (x + 1))] st w Q := zR_go (zst zT_145_45 rfl)
theorem zT_145_48 : zT 145 48 = some (.goto (-27), 3, 0, []) := by decide +kernel
theorem zr_145_48 {l0 l1 l2 l3 l4 : Option zV} {st : List zV} {w : zW} {Q : Option zV → zW → Prop}  : zR 145 48 [l0, l1, l2, l3, l4] st w Q = zR 145 21 [l0, l1, l2, l3, l4] st w Q := zR_go (zst zT_145_48 rfl)
theorem zT_145_51 : zT 145 51 = some (.iinc 3 1, 3, 0, []) := by decide +kernel
theorem zr_145_51 {l0 l1 l2 l4 : Option zV} {x : Int} {st : List zV} {w : zW} {Q : Option zV → zW → Prop}  : zR 145 51 [l0, l1, l2, some (.inl x), l4] st w Q = zR 145 54 [l0, l1, l2, some (.inl (x + 1)), l4] st w Q := zR_go (zst zT_145_51 rfl)
theorem zT_145_54 : zT 145 54 = some (.goto (-50), 3, 0, []) := by decide +kernel
theorem zr_145_54 {l0 l1 l2 l3 l4 : Option zV} {st : List zV} {w : zW} {Q : Option zV → zW → Prop}  : zR 145 54 [l0, l1, l2, l3, l4] st w Q = zR 145 4 [l0, l1, l2, l3, l4] st w Q := zR_go (zst zT_145_54 rfl)
theorem zT_145_57 : zT 145 57 = some (.iload_n 2, 1, 0, []) := by decide +kernel
theorem zr_145_57 {l0 l1 l3 l4 : Option zV} {x : Int} {st : List zV} {w : zW} {Q : Option zV → zW → Prop}  : zR 145 57 [l0, l1, some (.inl x), l3, l4] st w Q = zR 145 58 [l0, l1, some (.inl x), l3, l4] (.inl x :: st) w Q := zR_go (zst zT_145_57 rfl)
theorem zT_145_58 : zT 145 58 = some (.ireturn, 1, 0, []) := by decide +kernel
theorem zr_145_58 {l0 l1 l2 l3 l4 : Option zV} {x : Int} {w : zW} {Q : Option zV → zW → Prop}  : zR 145 58 [l0, l1, l2, l3, l4] [.inl x] w Q = Q (some (.inl x)) w := zR_ret (zst zT_145_58 rfl)
theorem zT_147_0 : zT 147 0 = some (.aload_n 0, 1, 0, []) := by decide +kernel
theorem zr_147_0 {l1 l2 : Option zV} {x : Option Nat} {st : List zV} {w : zW} {Q : Option zV → zW → Prop}  : zR 147 0 [some (.inr x), l1, l2] st w Q = zR 147 1 [some (.inr x), l1, l2] (.inr x :: st) w Q := zR_go (zst zT_147_0 rfl)
theorem zT_147_1 : zT 147 1 = some (.iload_n 1, 1, 0, []) := by decide +kernel
theorem zr_147_1 {l0 l2 : Option zV} {x : Int} {st : List zV} {w : zW} {Q : Option zV → zW → Prop}  : zR 147 1 [l0, some (.inl x), l2] st w Q = zR 147 2 [l0, some (.inl x), l2] (.inl x :: st) w Q := zR_go (zst zT_147_1 rfl)
theorem zT_147_2 : zT 147 2 = some (.putfield 28, 3, 0, [(4, 11), (8, 10)]) := by decide +kernel
theorem zr_147_2c4 {l0 l1 l2 : Option zV} {h : Nat} {x : Int} {st : List zV} {w : zW} {Q : Option zV → zW → Prop} (hk : zk w h = 4) : zR 147 2 [l0, l1, l2] (.inl x :: .inr (some h) :: st) w Q = zR 147 5 [l0, l1, l2] st (zsf w 15 h x) Q := zR_go (zst zT_147_2 (zput_i hk rfl))
theorem zr_147_2c8 {l0 l1 l2 : Option zV} {h : Nat} {x : Int} {st : List zV} {w : zW} {Q : Option zV → zW → Prop} (hk : zk w h = 8) : zR 147 2 [l0, l1, l2] (.inl x :: .inr (some h) :: st) w Q = zR 147 5 [l0, l1, l2] st (zsf w 15 h x) Q := zR_go (zst zT_147_2 (zput_i hk rfl))
theorem zT_147_5 : zT 147 5 = some (.aload_n 0, 1, 0, []) := by decide +kernel
theorem zr_147_5 {l1 l2 : Option zV} {x : Option Nat} {st : List zV} {w : zW} {Q : Option zV → zW → Prop}  : zR 147 5 [some (.inr x), l1, l2] st w Q = zR 147 6 [some (.inr x), l1, l2] (.inr x :: st) w Q := zR_go (zst zT_147_5 rfl)
theorem zT_147_6 : zT 147 6 = some (.getfield 31, 3, 0, [(4, 10), (8, 9)]) := by decide +kernel
theorem zr_147_6c4 {l0 l1 l2 : Option zV} {h : Nat} {st : List zV} {w : zW} {Q : Option zV → zW → Prop} (hk : zk w h = 4) : zR 147 6 [l0, l1, l2] (.inr (some h) :: st) w Q = zR 147 9 [l0, l1, l2] (.inr (zp w 14 h) :: st) w Q := zR_go (zst zT_147_6 (zget_r hk rfl))
theorem zr_147_6c8 {l0 l1 l2 : Option zV} {h : Nat} {st : List zV} {w : zW} {Q : Option zV → zW → Prop} (hk : zk w h = 8) : zR 147 6 [l0, l1, l2] (.inr (some h) :: st) w Q = zR 147 9 [l0, l1, l2] (.inr (zp w 14 h) :: st) w Q := zR_go (zst zT_147_6 (zget_r hk rfl))
theorem zT_147_9 : zT 147 9 = some (.iload_n 2, 1, 0, []) := by decide +kernel
theorem zr_147_9 {l0 l1 : Option zV} {x : Int} {st : List zV} {w : zW} {Q : Option zV → zW → Prop}  : zR 147 9 [l0, l1, some (.inl x)] st w Q = zR 147 10 [l0, l1, some (.inl x)] (.inl x :: st) w Q := zR_go (zst zT_147_9 rfl)
theorem zT_147_10 : zT 147 10 = some (.invokevirtual 35, 3, 1, [(2, 128)]) := by decide +kernel
theorem zr_147_10 {l0 l1 l2 : Option zV} {a0 : zV} {h : Nat} {st : List zV} {w : zW} {Q : Option zV → zW → Prop} (hs : st.length ≤ 8) (hk : zk w h = 2) : zR 147 10 [l0, l1, l2] (a0 :: .inr (some h) :: st) w Q = zR 128 0 [some (.inr (some h)), some a0] [] w (fun r w2 => zR 147 13 [l0, l1, l2] (r.toList ++ st) w2 Q) := zR_call (zst zT_147_10 (zcall_v [a0] rfl hs hk rfl))
theorem zT_147_13 : zT 147 13 = some (.aload_n 0, 1, 0, []) := by decide +kernel
theorem zr_147_13 {l1 l2 : Option zV} {x : Option Nat} {st : List zV} {w : zW} {Q : Option zV → zW → Prop}  : zR 147 13 [some (.inr x), l1, l2] st w Q = zR 147 14 [some (.inr x), l1, l2] (.inr x :: st) w Q := zR_go (zst zT_147_13 rfl)
theorem zT_147_14 : zT 147 14 = some (.invokevirtual 41, 3, 0, [(4, 115), (8, 115)]) := by decide +kernel
theorem zr_147_14c4 {l0 l1 l2 : Option zV} {h : Nat} {st : List zV} {w : zW} {Q : Option zV → zW → Prop} (hs : st.length ≤ 8) (hk : zk w h = 4) : zR 147 14 [l0, l1, l2] (.inr (some h) :: st) w Q = zR 115 0 [some (.inr (some h)), none] [] w (fun r w2 => zR 147 17 [l0, l1, l2] (r.toList ++ st) w2 Q) := zR_call (zst zT_147_14 (zcall_v [] rfl hs hk rfl))
theorem zr_147_14c8 {l0 l1 l2 : Option zV} {h : Nat} {st : List zV} {w : zW} {Q : Option zV → zW → Prop} (hs : st.length ≤ 8) (hk : zk w h = 8) : zR 147 14 [l0, l1, l2] (.inr (some h) :: st) w Q = zR 115 0 [some (.inr (some h)), none] [] w (fun r w2 => zR 147 17 [l0, l1, l2] (r.toList ++ st) w2 Q) := zR_call (zst zT_147_14 (zcall_v [] rfl hs hk rfl))
theorem zT_147_17 : zT 147 17 = some (.aload_n 0, 1, 0, []) := by decide +kernel
theorem zr_147_17 {l1 l2 : Option zV} {x : Option Nat} {st : List zV} {w : zW} {Q : Option zV → zW → Prop}  : zR 147 17 [some (.inr x), l1, l2] st w Q = zR 147 18 [some (.inr x), l1, l2] (.inr x :: st) w Q := zR_go (zst zT_147_17 rfl)
theorem zT_147_18 : zT 147 18 = some (.iconst 0, 1, 0, []) := by decide +kernel
theorem zr_147_18 {l0 l1 l2 : Option zV} {st : List zV} {w : zW} {Q : Option zV → zW → Prop}  : zR 147 18 [l0, l1, l2] st w Q = zR 147 19 [l0, l1, l2] (.inl 0 :: st) w Q := zR_go (zst zT_147_18 rfl)
theorem zT_147_19 : zT 147 19 = some (.putfield 45, 3, 0, [(4, 1), (8, 0)]) := by decide +kernel
theorem zr_147_19c4 {l0 l1 l2 : Option zV} {h : Nat} {x : Int} {st : List zV} {w : zW} {Q : Option zV → zW → Prop} (hk : zk w h = 4) : zR 147 19 [l0, l1, l2] (.inl x :: .inr (some h) :: st) w Q = zR 147 22 [l0, l1, l2] st (zsf w 32 h x) Q := zR_go (zst zT_147_19 (zput_i hk rfl))
theorem zr_147_19c8 {l0 l1 l2 : Option zV} {h : Nat} {x : Int} {st : List zV} {w : zW} {Q : Option zV → zW → Prop} (hk : zk w h = 8) : zR 147 19 [l0, l1, l2] (.inl x :: .inr (some h) :: st) w Q = zR 147 22 [l0, l1, l2] st (zsf w 32 h x) Q := zR_go (zst zT_147_19 (zput_i hk rfl))
theorem zT_147_22 : zT 147 22 = some (.aload_n 0, 1, 0, []) := by decide +kernel
theorem zr_147_22 {l1 l2 : Option zV} {x : Option Nat} {st : List zV} {w : zW} {Q : Option zV → zW → Prop}  : zR 147 22 [some (.inr x), l1, l2] st w Q = zR 147 23 [some (.inr x), l1, l2] (.inr x :: st) w Q := zR_go (zst zT_147_22 rfl)
theorem zT_147_23 : zT 147 23 = some (.iconst 0, 1, 0, []) := by decide +kernel
theorem zr_147_23 {l0 l1 l2 : Option zV} {st : List zV} {w : zW} {Q : Option zV → zW → Prop}  : zR 147 23 [l0, l1, l2] st w Q = zR 147 24 [l0, l1, l2] (.inl 0 :: st) w Q := zR_go (zst zT_147_23 rfl)
theorem zT_147_24 : zT 147 24 = some (.putfield 11, 3, 0, [(4, 2), (8, 1)]) := by decide +kernel
theorem zr_147_24c4 {l0 l1 l2 : Option zV} {h : Nat} {x : Int} {st : List zV} {w : zW} {Q : Option zV → zW → Prop} (hk : zk w h = 4) : zR 147 24 [l0, l1, l2] (.inl x :: .inr (some h) :: st) w Q = zR 147 27 [l0, l1, l2] st (zsf w 33 h x) Q := zR_go (zst zT_147_24 (zput_i hk rfl))
theorem zr_147_24c8 {l0 l1 l2 : Option zV} {h : Nat} {x : Int} {st : List zV} {w : zW} {Q : Option zV → zW → Prop} (hk : zk w h = 8) : zR 147 24 [l0, l1, l2] (.inl x :: .inr (some h) :: st) w Q = zR 147 27 [l0, l1, l2] st (zsf w 33 h x) Q := zR_go (zst zT_147_24 (zput_i hk rfl))
theorem zT_147_27 : zT 147 27 = some (.aload_n 0, 1, 0, []) := by decide +kernel
theorem zr_147_27 {l1 l2 : Option zV} {x : Option Nat} {st : List zV} {w : zW} {Q : Option zV → zW → Prop}  : zR 147 27 [some (.inr x), l1, l2] st w Q = zR 147 28 [some (.inr x), l1, l2] (.inr x :: st) w Q := zR_go (zst zT_147_27 rfl)
theorem zT_147_28 : zT 147 28 = some (.sipush (-1000), 3, 0, []) := by decide +kernel
theorem zr_147_28 {l0 l1 l2 : Option zV} {st : List zV} {w : zW} {Q : Option zV → zW → Prop}  : zR 147 28 [l0, l1, l2] st w Q = zR 147 31 [l0, l1, l2] (.inl (-1000) :: st) w Q := zR_go (zst zT_147_28 rfl)
theorem zT_147_31 : zT 147 31 = some (.putfield 15, 3, 0, [(4, 3), (8, 2)]) := by decide +kernel
theorem zr_147_31c4 {l0 l1 l2 : Option zV} {h : Nat} {x : Int} {st : List zV} {w : zW} {Q : Option zV → zW → Prop} (hk : zk w h = 4) : zR 147 31 [l0, l1, l2] (.inl x :: .inr (some h) :: st) w Q = zR 147 34 [l0, l1, l2] st (zsf w 34 h x) Q := zR_go (zst zT_147_31 (zput_i hk rfl))
theorem zr_147_31c8 {l0 l1 l2 : Option zV} {h : Nat} {x : Int} {st : List zV} {w : zW} {Q : Option zV → zW → Prop} (hk : zk w h = 8) : zR 147 31 [l0, l1, l2] (.inl x :: .inr (some h) :: st) w Q = zR 147 34 [l0, l1, l2] st (zsf w 34 h x) Q := zR_go (zst zT_147_31 (zput_i hk rfl))
theorem zT_147_34 : zT 147 34 = some (.aload_n 0, 1, 0, []) := by decide +kernel
theorem zr_147_34 {l1 l2 : Option zV} {x : Option Nat} {st : List zV} {w : zW} {Q : Option zV → zW → Prop}  : zR 147 34 [some (.inr x), l1, l2] st w Q = zR 147 35 [some (.inr x), l1, l2] (.inr x :: st) w Q := zR_go (zst zT_147_34 rfl)
theorem zT_147_35 : zT 147 35 = some (.sipush 1000, 3, 0, []) := by decide +kernel
theorem zr_147_35 {l0 l1 l2 : Option zV} {st : List zV} {w : zW} {Q : Option zV → zW → Prop}  : zR 147 35 [l0, l1, l2] st w Q = zR 147 38 [l0, l1, l2] (.inl 1000 :: st) w Q := zR_go (zst zT_147_35 rfl)
theorem zT_147_38 : zT 147 38 = some (.putfield 18, 3, 0, [(4, 4), (8, 3)]) := by decide +kernel
theorem zr_147_38c4 {l0 l1 l2 : Option zV} {h : Nat} {x : Int} {st : List zV} {w : zW} {Q : Option zV → zW → Prop} (hk : zk w h = 4) : zR 147 38 [l0, l1, l2] (.inl x :: .inr (some h) :: st) w Q = zR 147 41 [l0, l1, l2] st (zsf w 35 h x) Q := zR_go (zst zT_147_38 (zput_i hk rfl))
theorem zr_147_38c8 {l0 l1 l2 : Option zV} {h : Nat} {x : Int} {st : List zV} {w : zW} {Q : Option zV → zW → Prop} (hk : zk w h = 8) : zR 147 38 [l0, l1, l2] (.inl x :: .inr (some h) :: st) w Q = zR 147 41 [l0, l1, l2] st (zsf w 35 h x) Q := zR_go (zst zT_147_38 (zput_i hk rfl))
theorem zT_147_41 : zT 147 41 = some (.aload_n 0, 1, 0, []) := by decide +kernel
theorem zr_147_41 {l1 l2 : Option zV} {x : Option Nat} {st : List zV} {w : zW} {Q : Option zV → zW → Prop}  : zR 147 41 [some (.inr x), l1, l2] st w Q = zR 147 42 [some (.inr x), l1, l2] (.inr x :: st) w Q := zR_go (zst zT_147_41 rfl)
theorem zT_147_42 : zT 147 42 = some (.iconst 0, 1, 0, []) := by decide +kernel
theorem zr_147_42 {l0 l1 l2 : Option zV} {st : List zV} {w : zW} {Q : Option zV → zW → Prop}  : zR 147 42 [l0, l1, l2] st w Q = zR 147 43 [l0, l1, l2] (.inl 0 :: st) w Q := zR_go (zst zT_147_42 rfl)
theorem zT_147_43 : zT 147 43 = some (.putfield 48, 3, 0, [(4, 5), (8, 4)]) := by decide +kernel
theorem zr_147_43c4 {l0 l1 l2 : Option zV} {h : Nat} {x : Int} {st : List zV} {w : zW} {Q : Option zV → zW → Prop} (hk : zk w h = 4) : zR 147 43 [l0, l1, l2] (.inl x :: .inr (some h) :: st) w Q = zR 147 46 [l0, l1, l2] st (zsf w 36 h x) Q := zR_go (zst zT_147_43 (zput_i hk rfl))
theorem zr_147_43c8 {l0 l1 l2 : Option zV} {h : Nat} {x : Int} {st : List zV} {w : zW} {Q : Option zV → zW → Prop} (hk : zk w h = 8) : zR 147 43 [l0, l1, l2] (.inl x :: .inr (some h) :: st) w Q = zR 147 46 [l0, l1, l2] st (zsf w 36 h x) Q := zR_go (zst zT_147_43 (zput_i hk rfl))
theorem zT_147_46 : zT 147 46 = some (.aload_n 0, 1, 0, []) := by decide +kernel
theorem zr_147_46 {l1 l2 : Option zV} {x : Option Nat} {st : List zV} {w : zW} {Q : Option zV → zW → Prop}  : zR 147 46 [some (.inr x), l1, l2] st w Q = zR 147 47 [some (.inr x), l1, l2] (.inr x :: st) w Q := zR_go (zst zT_147_46 rfl)
theorem zT_147_47 : zT 147 47 = some (.iconst 0, 1, 0, []) := by decide +kernel
theorem zr_147_47 {l0 l1 l2 : Option zV} {st : List zV} {w : zW} {Q : Option zV → zW → Prop}  : zR 147 47 [l0, l1, l2] st w Q = zR 147 48 [l0, l1, l2] (.inl 0 :: st) w Q := zR_go (zst zT_147_47 rfl)
theorem zT_147_48 : zT 147 48 = some (.putfield 51, 3, 0, [(4, 7), (8, 6)]) := by decide +kernel
theorem zr_147_48c4 {l0 l1 l2 : Option zV} {h : Nat} {x : Int} {st : List zV} {w : zW} {Q : Option zV → zW → Prop} (hk : zk w h = 4) : zR 147 48 [l0, l1, l2] (.inl x :: .inr (some h) :: st) w Q = zR 147 51 [l0, l1, l2] st (zsf w 38 h x) Q := zR_go (zst zT_147_48 (zput_i hk rfl))
theorem zr_147_48c8 {l0 l1 l2 : Option zV} {h : Nat} {x : Int} {st : List zV} {w : zW} {Q : Option zV → zW → Prop} (hk : zk w h = 8) : zR 147 48 [l0, l1, l2] (.inl x :: .inr (some h) :: st) w Q = zR 147 51 [l0, l1, l2] st (zsf w 38 h x) Q := zR_go (zst zT_147_48 (zput_i hk rfl))
theorem zT_147_51 : zT 147 51 = some (.aload_n 0, 1, 0, []) := by decide +kernel
theorem zr_147_51 {l1 l2 : Option zV} {x : Option Nat} {st : List zV} {w : zW} {Q : Option zV → zW → Prop}  : zR 147 51 [some (.inr x), l1, l2] st w Q = zR 147 52 [some (.inr x), l1, l2] (.inr x :: st) w Q := zR_go (zst zT_147_51 rfl)
theorem zT_147_52 : zT 147 52 = some (.iconst 0, 1, 0, []) := by decide +kernel
theorem zr_147_52 {l0 l1 l2 : Option zV} {st : List zV} {w : zW} {Q : Option zV → zW → Prop}  : zR 147 52 [l0, l1, l2] st w Q = zR 147 53 [l0, l1, l2] (.inl 0 :: st) w Q := zR_go (zst zT_147_52 rfl)
theorem zT_147_53 : zT 147 53 = some (.putfield 54, 3, 0, [(4, 8), (8, 7)]) := by decide +kernel
theorem zr_147_53c4 {l0 l1 l2 : Option zV} {h : Nat} {x : Int} {st : List zV} {w : zW} {Q : Option zV → zW → Prop} (hk : zk w h = 4) : zR 147 53 [l0, l1, l2] (.inl x :: .inr (some h) :: st) w Q = zR 147 56 [l0, l1, l2] st (zsf w 39 h x) Q := zR_go (zst zT_147_53 (zput_i hk rfl))
theorem zr_147_53c8 {l0 l1 l2 : Option zV} {h : Nat} {x : Int} {st : List zV} {w : zW} {Q : Option zV → zW → Prop} (hk : zk w h = 8) : zR 147 53 [l0, l1, l2] (.inl x :: .inr (some h) :: st) w Q = zR 147 56 [l0, l1, l2] st (zsf w 39 h x) Q := zR_go (zst zT_147_53 (zput_i hk rfl))
theorem zT_147_56 : zT 147 56 = some (.aload_n 0, 1, 0, []) := by decide +kernel
theorem zr_147_56 {l1 l2 : Option zV} {x : Option Nat} {st : List zV} {w : zW} {Q : Option zV → zW → Prop}  : zR 147 56 [some (.inr x), l1, l2] st w Q = zR 147 57 [some (.inr x), l1, l2] (.inr x :: st) w Q := zR_go (zst zT_147_56 rfl)
theorem zT_147_57 : zT 147 57 = some (.getfield 21, 3, 0, [(4, 6), (8, 5)]) := by decide +kernel
theorem zr_147_57c4 {l0 l1 l2 : Option zV} {h : Nat} {st : List zV} {w : zW} {Q : Option zV → zW → Prop} (hk : zk w h = 4) : zR 147 57 [l0, l1, l2] (.inr (some h) :: st) w Q = zR 147 60 [l0, l1, l2] (.inr (zp w 37 h) :: st) w Q := zR_go (zst zT_147_57 (zget_r hk rfl))
theorem zr_147_57c8 {l0 l1 l2 : Option zV} {h : Nat} {st : List zV} {w : zW} {Q : Option zV → zW → Prop} (hk : zk w h = 8) : zR 147 57 [l0, l1, l2] (.inr (some h) :: st) w Q = zR 147 60 [l0, l1, l2] (.inr (zp w 37 h) :: st) w Q := zR_go (zst zT_147_57 (zget_r hk rfl))
theorem zT_147_60 : zT 147 60 = some (.iconst 0, 1, 0, []) := by decide +kernel
theorem zr_147_60 {l0 l1 l2 : Option zV} {st : List zV} {w : zW} {Q : Option zV → zW → Prop}  : zR 147 60 [l0, l1, l2] st w Q = zR 147 61 [l0, l1, l2] (.inl 0 :: st) w Q := zR_go (zst zT_147_60 rfl)
theorem zT_147_61 : zT 147 61 = some (.invokestatic 57, 3, 2, [(157, 1)]) := by decide +kernel
theorem zr_147_61 {l0 l1 l2 : Option zV} {a0 a1 : zV} {st : List zV} {w : zW} {Q : Option zV → zW → Prop} (hs : st.length ≤ 8) : zR 147 61 [l0, l1, l2] (a1 :: a0 :: st) w Q = zR 157 0 [some a0, some a1, none, none] [] w (fun r w2 => zR 147 64 [l0, l1, l2] (r.toList ++ st) w2 Q) := zR_call (zst zT_147_61 ((zcall_s (z := 2) (pc := 61) (j := 157) (ls := [l0, l1, l2]) (w := w) [a1, a0] rfl hs : zi_static 2 [(157, 1)] 61 [l0, l1, l2] ([a1, a0] ++ st) w = _)))
theorem zT_147_64 : zT 147 64 = some (.return_, 1, 0, []) := by decide +kernel
theorem zr_147_64 {l0 l1 l2 : Option zV} {w : zW} {Q : Option zV → zW → Prop} : zR 147 64 [l0, l1, l2] [] w Q = Q none w := zR_ret (zst zT_147_64 rfl)
theorem zT_148_0 : zT 148 0 = some (.aload_n 0, 1, 0, []) := by decide +kernel
theorem zr_148_0 {l1 : Option zV} {x : Option Nat} {st : List zV} {w : zW} {Q : Option zV → zW → Prop}  : zR 148 0 [some (.inr x), l1] st w Q = zR 148 1 [some (.inr x), l1] (.inr x :: st) w Q := zR_go (zst zT_148_0 rfl)
theorem zT_148_1 : zT 148 1 = some (.getfield 11, 3, 0, [(4, 2), (8, 1)]) := by decide +kernel
theorem zr_148_1c4 {l0 l1 : Option zV} {h : Nat} {st : List zV} {w : zW} {Q : Option zV → zW → Prop} (hk : zk w h = 4) : zR 148 1 [l0, l1] (.inr (some h) :: st) w Q = zR 148 4 [l0, l1] (.inl (zf w 33 h) :: st) w Q := zR_go (zst zT_148_1 (zget_i hk (Or.inl rfl)))
theorem zr_148_1c8 {l0 l1 : Option zV} {h : Nat} {st : List zV} {w : zW} {Q : Option zV → zW → Prop} (hk : zk w h = 8) : zR 148 1 [l0, l1] (.inr (some h) :: st) w Q = zR 148 4 [l0, l1] (.inl (zf w 33 h) :: st) w Q := zR_go (zst zT_148_1 (zget_i hk (Or.inl rfl)))
theorem zT_148_4 : zT 148 4 = some (.istore_n 1, 1, 0, []) := by decide +kernel
theorem zr_148_4 {l0 l1 : Option zV} {x : Int} {st : List zV} {w : zW} {Q : Option zV → zW → Prop}  : zR 148 4 [l0, l1] (.inl x :: st) w Q = zR 148 5 [l0, some (.inl x)] st w Q := zR_go (zst zT_148_4 rfl)
theorem zT_148_5 : zT 148 5 = some (.aload_n 0, 1, 0, []) := by decide +kernel
theorem zr_148_5 {l1 : Option zV} {x : Option Nat} {st : List zV} {w : zW} {Q : Option zV → zW → Prop}  : zR 148 5 [some (.inr x), l1] st w Q = zR 148 6 [some (.inr x), l1] (.inr x :: st) w Q := zR_go (zst zT_148_5 rfl)
theorem zT_148_6 : zT 148 6 = some (.aload_n 0, 1, 0, []) := by decide +kernel
theorem zr_148_6 {l1 : Option zV} {x : Option Nat} {st : List zV} {w : zW} {Q : Option zV → zW → Prop}  : zR 148 6 [some (.inr x), l1] st w Q = zR 148 7 [some (.inr x), l1] (.inr x :: st) w Q := zR_go (zst zT_148_6 rfl)
theorem zT_148_7 : zT 148 7 = some (.iload_n 1, 1, 0, []) := by decide +kernel
theorem zr_148_7 {l0 : Option zV} {x : Int} {st : List zV} {w : zW} {Q : Option zV → zW → Prop}  : zR 148 7 [l0, some (.inl x)] st w Q = zR 148 8 [l0, some (.inl x)] (.inl x :: st) w Q := zR_go (zst zT_148_7 rfl)
theorem zT_148_8 : zT 148 8 = some (.invokevirtual 63, 3, 1, [(4, 149), (8, 149)]) := by decide +kernel
theorem zr_148_8c4 {l0 l1 : Option zV} {a0 : zV} {h : Nat} {st : List zV} {w : zW} {Q : Option zV → zW → Prop} (hs : st.length ≤ 8) (hk : zk w h = 4) : zR 148 8 [l0, l1] (a0 :: .inr (some h) :: st) w Q = zR 149 0 [some (.inr (some h)), some a0] [] w (fun r w2 => zR 148 11 [l0, l1] (r.toList ++ st) w2 Q) := zR_call (zst zT_148_8 (zcall_v [a0] rfl hs hk rfl))
theorem zr_148_8c8 {l0 l1 : Option zV} {a0 : zV} {h : Nat} {st : List zV} {w : zW} {Q : Option zV → zW → Prop} (hs : st.length ≤ 8) (hk : zk w h = 8) : zR 148 8 [l0, l1] (a0 :: .inr (some h) :: st) w Q = zR 149 0 [some (.inr (some h)), some a0] [] w (fun r w2 => zR 148 11 [l0, l1] (r.toList ++ st) w2 Q) := zR_call (zst zT_148_8 (zcall_v [a0] rfl hs hk rfl))
theorem zT_148_11 : zT 148 11 = some (.putfield 11, 3, 0, [(4, 2), (8, 1)]) := by decide +kernel
theorem zr_148_11c4 {l0 l1 : Option zV} {h : Nat} {x : Int} {st : List zV} {w : zW} {Q : Option zV → zW → Prop} (hk : zk w h = 4) : zR 148 11 [l0, l1] (.inl x :: .inr (some h) :: st) w Q = zR 148 14 [l0, l1] st (zsf w 33 h x) Q := zR_go (zst zT_148_11 (zput_i hk rfl))
theorem zr_148_11c8 {l0 l1 : Option zV} {h : Nat} {x : Int} {st : List zV} {w : zW} {Q : Option zV → zW → Prop} (hk : zk w h = 8) : zR 148 11 [l0, l1] (.inl x :: .inr (some h) :: st) w Q = zR 148 14 [l0, l1] st (zsf w 33 h x) Q := zR_go (zst zT_148_11 (zput_i hk rfl))
theorem zT_148_14 : zT 148 14 = some (.aload_n 0, 1, 0, []) := by decide +kernel
theorem zr_148_14 {l1 : Option zV} {x : Option Nat} {st : List zV} {w : zW} {Q : Option zV → zW → Prop}  : zR 148 14 [some (.inr x), l1] st w Q = zR 148 15 [some (.inr x), l1] (.inr x :: st) w Q := zR_go (zst zT_148_14 rfl)
theorem zT_148_15 : zT 148 15 = some (.getfield 11, 3, 0, [(4, 2), (8, 1)]) := by decide +kernel
theorem zr_148_15c4 {l0 l1 : Option zV} {h : Nat} {st : List zV} {w : zW} {Q : Option zV → zW → Prop} (hk : zk w h = 4) : zR 148 15 [l0, l1] (.inr (some h) :: st) w Q = zR 148 18 [l0, l1] (.inl (zf w 33 h) :: st) w Q := zR_go (zst zT_148_15 (zget_i hk (Or.inl rfl)))
theorem zr_148_15c8 {l0 l1 : Option zV} {h : Nat} {st : List zV} {w : zW} {Q : Option zV → zW → Prop} (hk : zk w h = 8) : zR 148 15 [l0, l1] (.inr (some h) :: st) w Q = zR 148 18 [l0, l1] (.inl (zf w 33 h) :: st) w Q := zR_go (zst zT_148_15 (zget_i hk (Or.inl rfl)))
theorem zT_148_18 : zT 148 18 = some (.iload_n 1, 1, 0, []) := by decide +kernel
theorem zr_148_18 {l0 : Option zV} {x : Int} {st : List zV} {w : zW} {Q : Option zV → zW → Prop}  : zR 148 18 [l0, some (.inl x)] st w Q = zR 148 19 [l0, some (.inl x)] (.inl x :: st) w Q := zR_go (zst zT_148_18 rfl)
theorem zT_148_19 : zT 148 19 = some (.if_icmp .eq 10, 3, 0, []) := by decide +kernel
theorem zr_148_19 {l0 l1 : Option zV} {x y : Int} {st : List zV} {w : zW} {Q : Option zV → zW → Prop}  : zR 148 19 [l0, l1] (.inl y :: .inl x :: st) w Q = (if zN x = zN y then zR 148 29 [l0, l1] st w Q else zR 148 22 [l0, l1] st w Q) := zR_if (zstB zT_148_19 rfl) (by simp [zcmp])
theorem zT_148_22 : zT 148 22 = some (.aload_n 0, 1, 0, []) := by decide +kernel
theorem zr_148_22 {l1 : Option zV} {x : Option Nat} {st : List zV} {w : zW} {Q : Option zV → zW → Prop}  : zR 148 22 [some (.inr x), l1] st w Q = zR 148 23 [some (.inr x), l1] (.inr x :: st) w Q := zR_go (zst zT_148_22 rfl)
theorem zT_148_23 : zT 148 23 = some (.getfield 51, 3, 0, [(4, 7), (8, 6)]) := by decide +kernel
theorem zr_148_23c4 {l0 l1 : Option zV} {h : Nat} {st : List zV} {w : zW} {Q : Option zV → zW → Prop} (hk : zk w h = 4) : zR 148 23 [l0, l1] (.inr (some h) :: st) w Q = zR 148 26 [l0, l1] (.inl (zf w 38 h) :: st) w Q := zR_go (zst zT_148_23 (zget_i hk (Or.inl rfl)))
theorem zr_148_23c8 {l0 l1 : Option zV} {h : Nat} {st : List zV} {w : zW} {Q : Option zV → zW → Prop} (hk : zk w h = 8) : zR 148 23 [l0, l1] (.inr (some h) :: st) w Q = zR 148 26 [l0, l1] (.inl (zf w 38 h) :: st) w Q := zR_go (zst zT_148_23 (zget_i hk (Or.inl rfl)))
theorem zT_148_26 : zT 148 26 = some (.ifCond .ne 4, 3, 0, []) := by decide +kernel
theorem zr_148_26 {l0 l1 : Option zV} {x : Int} {st : List zV} {w : zW} {Q : Option zV → zW → Prop}  : zR 148 26 [l0, l1] (.inl x :: st) w Q = (if zN x ≠ 0 then zR 148 30 [l0, l1] st w Q else zR 148 29 [l0, l1] st w Q) := zR_if (zstB zT_148_26 rfl) (by simp [zcmp])
theorem zT_148_29 : zT 148 29 = some (.return_, 1, 0, []) := by decide +kernel
theorem zr_148_29 {l0 l1 : Option zV} {w : zW} {Q : Option zV → zW → Prop} : zR 148 29 [l0, l1] [] w Q = Q none w := zR_ret (zst zT_148_29 rfl)
theorem zT_148_30 : zT 148 30 = some (.aload_n 0, 1, 0, []) := by decide +kernel
theorem zr_148_30 {l1 : Option zV} {x : Option Nat} {st : List zV} {w : zW} {Q : Option zV → zW → Prop}  : zR 148 30 [some (.inr x), l1] st w Q = zR 148 31 [some (.inr x), l1] (.inr x :: st) w Q := zR_go (zst zT_148_30 rfl)
theorem zT_148_31 : zT 148 31 = some (.getfield 25, 3, 0, [(4, 9), (8, 8)]) := by decide +kernel
theorem zr_148_31c4 {l0 l1 : Option zV} {h : Nat} {st : List zV} {w : zW} {Q : Option zV → zW → Prop} (hk : zk w h = 4) : zR 148 31 [l0, l1] (.inr (some h) :: st) w Q = zR 148 34 [l0, l1] (.inr (zp w 40 h) :: st) w Q := zR_go (zst zT_148_31 (zget_r hk rfl))
theorem zr_148_31c8 {l0 l1 : Option zV} {h : Nat} {st : List zV} {w : zW} {Q : Option zV → zW → Prop} (hk : zk w h = 8) : zR 148 31 [l0, l1] (.inr (some h) :: st) w Q = zR 148 34 [l0, l1] (.inr (zp w 40 h) :: st) w Q := zR_go (zst zT_148_31 (zget_r hk rfl))
theorem zT_148_34 : zT 148 34 = some (.iconst 0, 1, 0, []) := by decide +kernel
theorem zr_148_34 {l0 l1 : Option zV} {st : List zV} {w : zW} {Q : Option zV → zW → Prop}  : zR 148 34 [l0, l1] st w Q = zR 148 35 [l0, l1] (.inl 0 :: st) w Q := zR_go (zst zT_148_34 rfl)
theorem zT_148_35 : zT 148 35 = some (.bipush 64, 2, 0, []) := by decide +kernel
theorem zr_148_35 {l0 l1 : Option zV} {st : List zV} {w : zW} {Q : Option zV → zW → Prop}  : zR 148 35 [l0, l1] st w Q = zR 148 37 [l0, l1] (.inl 64 :: st) w Q := zR_go (zst zT_148_35 rfl)
theorem zT_148_37 : zT 148 37 = some (.iastore, 1, 0, []) := by decide +kernel
theorem zr_148_37 {l0 l1 : Option zV} {j x : Int} {h : Nat} {st : List zV} {w : zW} {Q : Option zV → zW → Prop} (hk : zk w h = zNC ∧ 0 ≤ zN j ∧ zN j < zl w h) : zR 148 37 [l0, l1] (.inl x :: .inl j :: .inr (some h) :: st) w Q = zR 148 38 [l0, l1] st (zsa w h (zN j).toNat x) Q := zR_go (zst zT_148_37 (if_pos hk))
theorem zT_148_38 : zT 148 38 = some (.aload_n 0, 1, 0, []) := by decide +kernel
theorem zr_148_38 {l1 : Option zV} {x : Option Nat} {st : List zV} {w : zW} {Q : Option zV → zW → Prop}  : zR 148 38 [some (.inr x), l1] st w Q = zR 148 39 [some (.inr x), l1] (.inr x :: st) w Q := zR_go (zst zT_148_38 rfl)
theorem zT_148_39 : zT 148 39 = some (.invokevirtual 67, 3, 0, [(4, 154), (8, 154)]) := by decide +kernel
theorem zr_148_39c4 {l0 l1 : Option zV} {h : Nat} {st : List zV} {w : zW} {Q : Option zV → zW → Prop} (hs : st.length ≤ 8) (hk : zk w h = 4) : zR 148 39 [l0, l1] (.inr (some h) :: st) w Q = zR 154 0 [some (.inr (some h))] [] w (fun r w2 => zR 148 42 [l0, l1] (r.toList ++ st) w2 Q) := zR_call (zst zT_148_39 (zcall_v [] rfl hs hk rfl))
theorem zr_148_39c8 {l0 l1 : Option zV} {h : Nat} {st : List zV} {w : zW} {Q : Option zV → zW → Prop} (hs : st.length ≤ 8) (hk : zk w h = 8) : zR 148 39 [l0, l1] (.inr (some h) :: st) w Q = zR 154 0 [some (.inr (some h))] [] w (fun r w2 => zR 148 42 [l0, l1] (r.toList ++ st) w2 Q) := zR_call (zst zT_148_39 (zcall_v [] rfl hs hk rfl))
theorem zT_148_42 : zT 148 42 = some (.pop, 1, 0, []) := by decide +kernel
theorem zr_148_42 {l0 l1 : Option zV} {v : zV} {st : List zV} {w : zW} {Q : Option zV → zW → Prop}  : zR 148 42 [l0, l1] (v :: st) w Q = zR 148 43 [l0, l1] st w Q := zR_go (zst zT_148_42 rfl)
theorem zT_148_43 : zT 148 43 = some (.aload_n 0, 1, 0, []) := by decide +kernel
theorem zr_148_43 {l1 : Option zV} {x : Option Nat} {st : List zV} {w : zW} {Q : Option zV → zW → Prop}  : zR 148 43 [some (.inr x), l1] st w Q = zR 148 44 [some (.inr x), l1] (.inr x :: st) w Q := zR_go (zst zT_148_43 rfl)
theorem zT_148_44 : zT 148 44 = some (.aload_n 0, 1, 0, []) := by decide +kernel
theorem zr_148_44 {l1 : Option zV} {x : Option Nat} {st : List zV} {w : zW} {Q : Option zV → zW → Prop}  : zR 148 44 [some (.inr x), l1] st w Q = zR 148 45 [some (.inr x), l1] (.inr x :: st) w Q := zR_go (zst zT_148_44 rfl)
theorem zT_148_45 : zT 148 45 = some (.getfield 51, 3, 0, [(4, 7), (8, 6)]) := by decide +kernel
theorem zr_148_45c4 {l0 l1 : Option zV} {h : Nat} {st : List zV} {w : zW} {Q : Option zV → zW → Prop} (hk : zk w h = 4) : zR 148 45 [l0, l1] (.inr (some h) :: st) w Q = zR 148 48 [l0, l1] (.inl (zf w 38 h) :: st) w Q := zR_go (zst zT_148_45 (zget_i hk (Or.inl rfl)))
theorem zr_148_45c8 {l0 l1 : Option zV} {h : Nat} {st : List zV} {w : zW} {Q : Option zV → zW → Prop} (hk : zk w h = 8) : zR 148 45 [l0, l1] (.inr (some h) :: st) w Q = zR 148 48 [l0, l1] (.inl (zf w 38 h) :: st) w Q := zR_go (zst zT_148_45 (zget_i hk (Or.inl rfl)))
theorem zT_148_48 : zT 148 48 = some (.bipush 8, 2, 0, []) := by decide +kernel
theorem zr_148_48 {l0 l1 : Option zV} {st : List zV} {w : zW} {Q : Option zV → zW → Prop}  : zR 148 48 [l0, l1] st w Q = zR 148 50 [l0, l1] (.inl 8 :: st) w Q := zR_go (zst zT_148_48 rfl)
theorem zT_148_50 : zT 148 50 = some (.aload_n 0, 1, 0, []) := by decide +kernel
theorem zr_148_50 {l1 : Option zV} {x : Option Nat} {st : List zV} {w : zW} {Q : Option zV → zW → Prop}  : zR 148 50 [some (.inr x), l1] st w Q = zR 148 51 [some (.inr x), l1] (.inr x :: st) w Q := zR_go (zst zT_148_50 rfl)
theorem zT_148_51 : zT 148 51 = some (.getfield 54, 3, 0, [(4, 8), (8, 7)]) := by decide +kernel
theorem zr_148_51c4 {l0 l1 : Option zV} {h : Nat} {st : List zV} {w : zW} {Q : Option zV → zW → Prop} (hk : zk w h = 4) : zR 148 51 [l0, l1] (.inr (some h) :: st) w Q = zR 148 54 [l0, l1] (.inl (zf w 39 h) :: st) w Q := zR_go (zst zT_148_51 (zget_i hk (Or.inl rfl)))
theorem zr_148_51c8 {l0 l1 : Option zV} {h : Nat} {st : List zV} {w : zW} {Q : Option zV → zW → Prop} (hk : zk w h = 8) : zR 148 51 [l0, l1] (.inr (some h) :: st) w Q = zR 148 54 [l0, l1] (.inl (zf w 39 h) :: st) w Q := zR_go (zst zT_148_51 (zget_i hk (Or.inl rfl)))
theorem zT_148_54 : zT 148 54 = some (.bipush 8, 2, 0, []) := by decide +kernel
theorem zr_148_54 {l0 l1 : Option zV} {st : List zV} {w : zW} {Q : Option zV → zW → Prop}  : zR 148 54 [l0, l1] st w Q = zR 148 56 [l0, l1] (.inl 8 :: st) w Q := zR_go (zst zT_148_54 rfl)
theorem zT_148_56 : zT 148 56 = some (.irem, 1, 0, []) := by decide +kernel
theorem zr_148_56 {l0 l1 : Option zV} {x y : Int} {st : List zV} {w : zW} {Q : Option zV → zW → Prop} (hy : ¬ zN y = 0) : zR 148 56 [l0, l1] (.inl y :: .inl x :: st) w Q = zR 148 57 [l0, l1] (.inl (zo_rem x y) :: st) w Q := zR_go (zst zT_148_56 (if_neg hy))
theorem zT_148_57 : zT 148 57 = some (.iadd, 1, 0, []) := by decide +kernel
theorem zr_148_57 {l0 l1 : Option zV} {x y : Int} {st : List zV} {w : zW} {Q : Option zV → zW → Prop}  : zR 148 57 [l0, l1] (.inl y :: .inl x :: st) w Q = zR 148 58 [l0, l1] (.inl (x + y) :: st) w Q := zR_go (zst zT_148_57 rfl)
theorem zT_148_58 : zT 148 58 = some (.aload_n 0, 1, 0, []) := by decide +kernel
theorem zr_148_58 {l1 : Option zV} {x : Option Nat} {st : List zV} {w : zW} {Q : Option zV → zW → Prop}  : zR 148 58 [some (.inr x), l1] st w Q = zR 148 59 [some (.inr x), l1] (.inr x :: st) w Q := zR_go (zst zT_148_58 rfl)
theorem zT_148_59 : zT 148 59 = some (.getfield 25, 3, 0, [(4, 9), (8, 8)]) := by decide +kernel
theorem zr_148_59c4 {l0 l1 : Option zV} {h : Nat} {st : List zV} {w : zW} {Q : Option zV → zW → Prop} (hk : zk w h = 4) : zR 148 59 [l0, l1] (.inr (some h) :: st) w Q = zR 148 62 [l0, l1] (.inr (zp w 40 h) :: st) w Q := zR_go (zst zT_148_59 (zget_r hk rfl))
theorem zr_148_59c8 {l0 l1 : Option zV} {h : Nat} {st : List zV} {w : zW} {Q : Option zV → zW → Prop} (hk : zk w h = 8) : zR 148 59 [l0, l1] (.inr (some h) :: st) w Q = zR 148 62 [l0, l1] (.inr (zp w 40 h) :: st) w Q := zR_go (zst zT_148_59 (zget_r hk rfl))
theorem zT_148_62 : zT 148 62 = some (.iconst 4, 1, 0, []) := by decide +kernel
theorem zr_148_62 {l0 l1 : Option zV} {st : List zV} {w : zW} {Q : Option zV → zW → Prop}  : zR 148 62 [l0, l1] st w Q = zR 148 63 [l0, l1] (.inl 4 :: st) w Q := zR_go (zst zT_148_62 rfl)
theorem zT_148_63 : zT 148 63 = some (.invokevirtual 71, 3, 4, [(4, 114), (8, 114)]) := by decide +kernel
theorem zr_148_63c4 {l0 l1 : Option zV} {a0 a1 a2 a3 : zV} {h : Nat} {st : List zV} {w : zW} {Q : Option zV → zW → Prop} (hs : st.length ≤ 8) (hk : zk w h = 4) : zR 148 63 [l0, l1] (a3 :: a2 :: a1 :: a0 :: .inr (some h) :: st) w Q = zR 114 0 [some (.inr (some h)), some a0, some a1, some a2, some a3, none, none, none, none, none] [] w (fun r w2 => zR 148 66 [l0, l1] (r.toList ++ st) w2 Q) := zR_call (zst zT_148_63 (zcall_v [a3, a2, a1, a0] rfl hs hk rfl))
theorem zr_148_63c8 {l0 l1 : Option zV} {a0 a1 a2 a3 : zV} {h : Nat} {st : List zV} {w : zW} {Q : Option zV → zW → Prop} (hs : st.length ≤ 8) (hk : zk w h = 8) : zR 148 63 [l0, l1] (a3 :: a2 :: a1 :: a0 :: .inr (some h) :: st) w Q = zR 114 0 [some (.inr (some h)), some a0, some a1, some a2, some a3, none, none, none, none, none] [] w (fun r w2 => zR 148 66 [l0, l1] (r.toList ++ st) w2 Q) := zR_call (zst zT_148_63 (zcall_v [a3, a2, a1, a0] rfl hs hk rfl))
theorem zT_148_66 : zT 148 66 = some (.aload_n 0, 1, 0, []) := by decide +kernel
theorem zr_148_66 {l1 : Option zV} {x : Option Nat} {st : List zV} {w : zW} {Q : Option zV → zW → Prop}  : zR 148 66 [some (.inr x), l1] st w Q = zR 148 67 [some (.inr x), l1] (.inr x :: st) w Q := zR_go (zst zT_148_66 rfl)
theorem zT_148_67 : zT 148 67 = some (.dup, 1, 0, []) := by decide +kernel
theorem zr_148_67 {l0 l1 : Option zV} {v : zV} {st : List zV} {w : zW} {Q : Option zV → zW → Prop}  : zR 148 67 [l0, l1] (v :: st) w Q = zR 148 68 [l0, l1] (v :: v :: st) w Q := zR_go (zst zT_148_67 rfl)
theorem zT_148_68 : zT 148 68 = some (.getfield 54, 3, 0, [(4, 8), (8, 7)]) := by decide +kernel
theorem zr_148_68c4 {l0 l1 : Option zV} {h : Nat} {st : List zV} {w : zW} {Q : Option zV → zW → Prop} (hk : zk w h = 4) : zR 148 68 [l0, l1] (.inr (some h) :: st) w Q = zR 148 71 [l0, l1] (.inl (zf w 39 h) :: st) w Q := zR_go (zst zT_148_68 (zget_i hk (Or.inl rfl)))
theorem zr_148_68c8 {l0 l1 : Option zV} {h : Nat} {st : List zV} {w : zW} {Q : Option zV → zW → Prop} (hk : zk w h = 8) : zR 148 68 [l0, l1] (.inr (some h) :: st) w Q = zR 148 71 [l0, l1] (.inl (zf w 39 h) :: st) w Q := zR_go (zst zT_148_68 (zget_i hk (Or.inl rfl)))
theorem zT_148_71 : zT 148 71 = some (.iconst 1, 1, 0, []) := by decide +kernel
theorem zr_148_71 {l0 l1 : Option zV} {st : List zV} {w : zW} {Q : Option zV → zW → Prop}  : zR 148 71 [l0, l1] st w Q = zR 148 72 [l0, l1] (.inl 1 :: st) w Q := zR_go (zst zT_148_71 rfl)
theorem zT_148_72 : zT 148 72 = some (.iadd, 1, 0, []) := by decide +kernel
theorem zr_148_72 {l0 l1 : Option zV} {x y : Int} {st : List zV} {w : zW} {Q : Option zV → zW → Prop}  : zR 148 72 [l0, l1] (.inl y :: .inl x :: st) w Q = zR 148 73 [l0, l1] (.inl (x + y) :: st) w Q := zR_go (zst zT_148_72 rfl)
theorem zT_148_73 : zT 148 73 = some (.putfield 54, 3, 0, [(4, 8), (8, 7)]) := by decide +kernel
theorem zr_148_73c4 {l0 l1 : Option zV} {h : Nat} {x : Int} {st : List zV} {w : zW} {Q : Option zV → zW → Prop} (hk : zk w h = 4) : zR 148 73 [l0, l1] (.inl x :: .inr (some h) :: st) w Q = zR 148 76 [l0, l1] st (zsf w 39 h x) Q := zR_go (zst zT_148_73 (zput_i hk rfl))
theorem zr_148_73c8 {l0 l1 : Option zV} {h : Nat} {x : Int} {st : List zV} {w : zW} {Q : Option zV → zW → Prop} (hk : zk w h = 8) : zR 148 73 [l0, l1] (.inl x :: .inr (some h) :: st) w Q = zR 148 76 [l0, l1] st (zsf w 39 h x) Q := zR_go (zst zT_148_73 (zput_i hk rfl))
theorem zT_148_76 : zT 148 76 = some (.return_, 1, 0, []) := by decide +kernel
theorem zr_148_76 {l0 l1 : Option zV} {w : zW} {Q : Option zV → zW → Prop} : zR 148 76 [l0, l1] [] w Q = Q none w := zR_ret (zst zT_148_76 rfl)
theorem zT_149_0 : zT 149 0 = some (.aload_n 0, 1, 0, []) := by decide +kernel
theorem zr_149_0 {l1 : Option zV} {x : Option Nat} {st : List zV} {w : zW} {Q : Option zV → zW → Prop}  : zR 149 0 [some (.inr x), l1] st w Q = zR 149 1 [some (.inr x), l1] (.inr x :: st) w Q := zR_go (zst zT_149_0 rfl)
theorem zT_149_1 : zT 149 1 = some (.getfield 45, 3, 0, [(4, 1), (8, 0)]) := by decide +kernel
theorem zr_149_1c4 {l0 l1 : Option zV} {h : Nat} {st : List zV} {w : zW} {Q : Option zV → zW → Prop} (hk : zk w h = 4) : zR 149 1 [l0, l1] (.inr (some h) :: st) w Q = zR 149 4 [l0, l1] (.inl (zf w 32 h) :: st) w Q := zR_go (zst zT_149_1 (zget_i hk (Or.inl rfl)))
theorem zr_149_1c8 {l0 l1 : Option zV} {h : Nat} {st : List zV} {w : zW} {Q : Option zV → zW → Prop} (hk : zk w h = 8) : zR 149 1 [l0, l1] (.inr (some h) :: st) w Q = zR 149 4 [l0, l1] (.inl (zf w 32 h) :: st) w Q := zR_go (zst zT_149_1 (zget_i hk (Or.inl rfl)))
theorem zT_149_4 : zT 149 4 = some (.aload_n 0, 1, 0, []) := by decide +kernel
theorem zr_149_4 {l1 : Option zV} {x : Option Nat} {st : List zV} {w : zW} {Q : Option zV → zW → Prop}  : zR 149 4 [some (.inr x), l1] st w Q = zR 149 5 [some (.inr x), l1] (.inr x :: st) w Q := zR_go (zst zT_149_4 rfl)
theorem zT_149_5 : zT 149 5 = some (.getfield 18, 3, 0, [(4, 4), (8, 3)]) := by decide +kernel
theorem zr_149_5c4 {l0 l1 : Option zV} {h : Nat} {st : List zV} {w : zW} {Q : Option zV → zW → Prop} (hk : zk w h = 4) : zR 149 5 [l0, l1] (.inr (some h) :: st) w Q = zR 149 8 [l0, l1] (.inl (zf w 35 h) :: st) w Q := zR_go (zst zT_149_5 (zget_i hk (Or.inl rfl)))
theorem zr_149_5c8 {l0 l1 : Option zV} {h : Nat} {st : List zV} {w : zW} {Q : Option zV → zW → Prop} (hk : zk w h = 8) : zR 149 5 [l0, l1] (.inr (some h) :: st) w Q = zR 149 8 [l0, l1] (.inl (zf w 35 h) :: st) w Q := zR_go (zst zT_149_5 (zget_i hk (Or.inl rfl)))
theorem zT_149_8 : zT 149 8 = some (.if_icmp .gt 24, 3, 0, []) := by decide +kernel
theorem zr_149_8 {l0 l1 : Option zV} {x y : Int} {st : List zV} {w : zW} {Q : Option zV → zW → Prop}  : zR 149 8 [l0, l1] (.inl y :: .inl x :: st) w Q = (if zN y < zN x then zR 149 32 [l0, l1] st w Q else zR 149 11 [l0, l1] st w Q) := zR_if (zstB zT_149_8 rfl) (by simp [zcmp])
theorem zT_149_11 : zT 149 11 = some (.iload_n 1, 1, 0, []) := by decide +kernel
theorem zr_149_11 {l0 : Option zV} {x : Int} {st : List zV} {w : zW} {Q : Option zV → zW → Prop}  : zR 149 11 [l0, some (.inl x)] st w Q = zR 149 12 [l0, some (.inl x)] (.inl x :: st) w Q := zR_go (zst zT_149_11 rfl)
theorem zT_149_12 : zT 149 12 = some (.iconst 2, 1, 0, []) := by decide +kernel
theorem zr_149_12 {l0 l1 : Option zV} {st : List zV} {w : zW} {Q : Option zV → zW → Prop}  : zR 149 12 [l0, l1] st w Q = zR 149 13 [l0, l1] (.inl 2 :: st) w Q := zR_go (zst zT_149_12 rfl)
theorem zT_149_13 : zT 149 13 = some (.if_icmp .ne 21, 3, 0, []) := by decide +kernel
theorem zr_149_13 {l0 l1 : Option zV} {x y : Int} {st : List zV} {w : zW} {Q : Option zV → zW → Prop}  : zR 149 13 [l0, l1] (.inl y :: .inl x :: st) w Q = (if zN x ≠ zN y then zR 149 34 [l0, l1] st w Q else zR 149 16 [l0, l1] st w Q) := zR_if (zstB zT_149_13 rfl) (by simp [zcmp])
theorem zT_149_16 : zT 149 16 = some (.aload_n 0, 1, 0, []) := by decide +kernel
theorem zr_149_16 {l1 : Option zV} {x : Option Nat} {st : List zV} {w : zW} {Q : Option zV → zW → Prop}  : zR 149 16 [some (.inr x), l1] st w Q = zR 149 17 [some (.inr x), l1] (.inr x :: st) w Q := zR_go (zst zT_149_16 rfl)
theorem zT_149_17 : zT 149 17 = some (.getfield 45, 3, 0, [(4, 1), (8, 0)]) := by decide +kernel
theorem zr_149_17c4 {l0 l1 : Option zV} {h : Nat} {st : List zV} {w : zW} {Q : Option zV → zW → Prop} (hk : zk w h = 4) : zR 149 17 [l0, l1] (.inr (some h) :: st) w Q = zR 149 20 [l0, l1] (.inl (zf w 32 h) :: st) w Q := zR_go (zst zT_149_17 (zget_i hk (Or.inl rfl)))
theorem zr_149_17c8 {l0 l1 : Option zV} {h : Nat} {st : List zV} {w : zW} {Q : Option zV → zW → Prop} (hk : zk w h = 8) : zR 149 17 [l0, l1] (.inr (some h) :: st) w Q = zR 149 20 [l0, l1] (.inl (zf w 32 h) :: st) w Q := zR_go (zst zT_149_17 (zget_i hk (Or.inl rfl)))
theorem zT_149_20 : zT 149 20 = some (.aload_n 0, 1, 0, []) := by decide +kernel
theorem zr_149_20 {l1 : Option zV} {x : Option Nat} {st : List zV} {w : zW} {Q : Option zV → zW → Prop}  : zR 149 20 [some (.inr x), l1] st w Q = zR 149 21 [some (.inr x), l1] (.inr x :: st) w Q := zR_go (zst zT_149_20 rfl)
theorem zT_149_21 : zT 149 21 = some (.getfield 18, 3, 0, [(4, 4), (8, 3)]) := by decide +kernel
theorem zr_149_21c4 {l0 l1 : Option zV} {h : Nat} {st : List zV} {w : zW} {Q : Option zV → zW → Prop} (hk : zk w h = 4) : zR 149 21 [l0, l1] (.inr (some h) :: st) w Q = zR 149 24 [l0, l1] (.inl (zf w 35 h) :: st) w Q := zR_go (zst zT_149_21 (zget_i hk (Or.inl rfl)))
theorem zr_149_21c8 {l0 l1 : Option zV} {h : Nat} {st : List zV} {w : zW} {Q : Option zV → zW → Prop} (hk : zk w h = 8) : zR 149 21 [l0, l1] (.inr (some h) :: st) w Q = zR 149 24 [l0, l1] (.inl (zf w 35 h) :: st) w Q := zR_go (zst zT_149_21 (zget_i hk (Or.inl rfl)))
theorem zT_149_24 : zT 149 24 = some (.aload_n 0, 1, 0, []) := by decide +kernel
theorem zr_149_24 {l1 : Option zV} {x : Option Nat} {st : List zV} {w : zW} {Q : Option zV → zW → Prop}  : zR 149 24 [some (.inr x), l1] st w Q = zR 149 25 [some (.inr x), l1] (.inr x :: st) w Q := zR_go (zst zT_149_24 rfl)
theorem zT_149_25 : zT 149 25 = some (.getfield 48, 3, 0, [(4, 5), (8, 4)]) := by decide +kernel
theorem zr_149_25c4 {l0 l1 : Option zV} {h : Nat} {st : List zV} {w : zW} {Q : Option zV → zW → Prop} (hk : zk w h = 4) : zR 149 25 [l0, l1] (.inr (some h) :: st) w Q = zR 149 28 [l0, l1] (.inl (zf w 36 h) :: st) w Q := zR_go (zst zT_149_25 (zget_i hk (Or.inl rfl)))
theorem zr_149_25c8 {l0 l1 : Option zV} {h : Nat} {st : List zV} {w : zW} {Q : Option zV → zW → Prop} (hk : zk w h = 8) : zR 149 25 [l0, l1] (.inr (some h) :: st) w Q = zR 149 28 [l0, l1] (.inl (zf w 36 h) :: st) w Q := zR_go (zst zT_149_25 (zget_i hk (Or.inl rfl)))
theorem zT_149_28 : zT 149 28 = some (.isub, 1, 0, []) := by decide +kernel
theorem zr_149_28 {l0 l1 : Option zV} {x y : Int} {st : List zV} {w : zW} {Q : Option zV → zW → Prop}  : zR 149 28 [l0, l1] (.inl y :: .inl x :: st) w Q = zR 149 29 [l0, l1] (.inl (x - y) :: st) w Q := zR_go (zst zT_149_28 rfl)
theorem zT_149_29 : zT 149 29 = some (.if_icmp .lt 5, 3, 0, []) := by decide +kernel
theorem zr_149_29 {l0 l1 : Option zV} {x y : Int} {st : List zV} {w : zW} {Q : Option zV → zW → Prop}  : zR 149 29 [l0, l1] (.inl y :: .inl x :: st) w Q = (if zN x < zN y then zR 149 34 [l0, l1] st w Q else zR 149 32 [l0, l1] st w Q) := zR_if (zstB zT_149_29 rfl) (by simp [zcmp])
theorem zT_149_32 : zT 149 32 = some (.iconst 2, 1, 0, []) := by decide +kernel
theorem zr_149_32 {l0 l1 : Option zV} {st : List zV} {w : zW} {Q : Option zV → zW → Prop}  : zR 149 32 [l0, l1] st w Q = zR 149 33 [l0, l1] (.inl 2 :: st) w Q := zR_go (zst zT_149_32 rfl)
theorem zT_149_33 : zT 149 33 = some (.ireturn, 1, 0, []) := by decide +kernel
theorem zr_149_33 {l0 l1 : Option zV} {x : Int} {w : zW} {Q : Option zV → zW → Prop}  : zR 149 33 [l0, l1] [.inl x] w Q = Q (some (.inl x)) w := zR_ret (zst zT_149_33 rfl)
theorem zT_149_34 : zT 149 34 = some (.aload_n 0, 1, 0, []) := by decide +kernel
theorem zr_149_34 {l1 : Option zV} {x : Option Nat} {st : List zV} {w : zW} {Q : Option zV → zW → Prop}  : zR 149 34 [some (.inr x), l1] st w Q = zR 149 35 [some (.inr x), l1] (.inr x :: st) w Q := zR_go (zst zT_149_34 rfl)
theorem zT_149_35 : zT 149 35 = some (.getfield 45, 3, 0, [(4, 1), (8, 0)]) := by decide +kernel
theorem zr_149_35c4 {l0 l1 : Option zV} {h : Nat} {st : List zV} {w : zW} {Q : Option zV → zW → Prop} (hk : zk w h = 4) : zR 149 35 [l0, l1] (.inr (some h) :: st) w Q = zR 149 38 [l0, l1] (.inl (zf w 32 h) :: st) w Q := zR_go (zst zT_149_35 (zget_i hk (Or.inl rfl)))
theorem zr_149_35c8 {l0 l1 : Option zV} {h : Nat} {st : List zV} {w : zW} {Q : Option zV → zW → Prop} (hk : zk w h = 8) : zR 149 35 [l0, l1] (.inr (some h) :: st) w Q = zR 149 38 [l0, l1] (.inl (zf w 32 h) :: st) w Q := zR_go (zst zT_149_35 (zget_i hk (Or.inl rfl)))
theorem zT_149_38 : zT 149 38 = some (.aload_n 0, 1, 0, []) := by decide +kernel
theorem zr_149_38 {l1 : Option zV} {x : Option Nat} {st : List zV} {w : zW} {Q : Option zV → zW → Prop}  : zR 149 38 [some (.inr x), l1] st w Q = zR 149 39 [some (.inr x), l1] (.inr x :: st) w Q := zR_go (zst zT_149_38 rfl)
theorem zT_149_39 : zT 149 39 = some (.getfield 15, 3, 0, [(4, 3), (8, 2)]) := by decide +kernel
theorem zr_149_39c4 {l0 l1 : Option zV} {h : Nat} {st : List zV} {w : zW} {Q : Option zV → zW → Prop} (hk : zk w h = 4) : zR 149 39 [l0, l1] (.inr (some h) :: st) w Q = zR 149 42 [l0, l1] (.inl (zf w 34 h) :: st) w Q := zR_go (zst zT_149_39 (zget_i hk (Or.inl rfl)))
theorem zr_149_39c8 {l0 l1 : Option zV} {h : Nat} {st : List zV} {w : zW} {Q : Option zV → zW → Prop} (hk : zk w h = 8) : zR 149 39 [l0, l1] (.inr (some h) :: st) w Q = zR 149 42 [l0, l1] (.inl (zf w 34 h) :: st) w Q := zR_go (zst zT_149_39 (zget_i hk (Or.inl rfl)))
theorem zT_149_42 : zT 149 42 = some (.if_icmp .lt 24, 3, 0, []) := by decide +kernel
theorem zr_149_42 {l0 l1 : Option zV} {x y : Int} {st : List zV} {w : zW} {Q : Option zV → zW → Prop}  : zR 149 42 [l0, l1] (.inl y :: .inl x :: st) w Q = (if zN x < zN y then zR 149 66 [l0, l1] st w Q else zR 149 45 [l0, l1] st w Q) := zR_if (zstB zT_149_42 rfl) (by simp [zcmp])
theorem zT_149_45 : zT 149 45 = some (.iload_n 1, 1, 0, []) := by decide +kernel
theorem zr_149_45 {l0 : Option zV} {x : Int} {st : List zV} {w : zW} {Q : Option zV → zW → Prop}  : zR 149 45 [l0, some (.inl x)] st w Q = zR 149 46 [l0, some (.inl x)] (.inl x :: st) w Q := zR_go (zst zT_149_45 rfl)
theorem zT_149_46 : zT 149 46 = some (.iconst 1, 1, 0, []) := by decide +kernel
theorem zr_149_46 {l0 l1 : Option zV} {st : List zV} {w : zW} {Q : Option zV → zW → Prop}  : zR 149 46 [l0, l1] st w Q = zR 149 47 [l0, l1] (.inl 1 :: st) w Q := zR_go (zst zT_149_46 rfl)
theorem zT_149_47 : zT 149 47 = some (.if_icmp .ne 21, 3, 0, []) := by decide +kernel
theorem zr_149_47 {l0 l1 : Option zV} {x y : Int} {st : List zV} {w : zW} {Q : Option zV → zW → Prop}  : zR 149 47 [l0, l1] (.inl y :: .inl x :: st) w Q = (if zN x ≠ zN y then zR 149 68 [l0, l1] st w Q else zR 149 50 [l0, l1] st w Q) := zR_if (zstB zT_149_47 rfl) (by simp [zcmp])
theorem zT_149_50 : zT 149 50 = some (.aload_n 0, 1, 0, []) := by decide +kernel
theorem zr_149_50 {l1 : Option zV} {x : Option Nat} {st : List zV} {w : zW} {Q : Option zV → zW → Prop}  : zR 149 50 [some (.inr x), l1] st w Q = zR 149 51 [some (.inr x), l1] (.inr x :: st) w Q := zR_go (zst zT_149_50 rfl)
theorem zT_149_51 : zT 149 51 = some (.getfield 45, 3, 0, [(4, 1), (8, 0)]) := by decide +kernel
theorem zr_149_51c4 {l0 l1 : Option zV} {h : Nat} {st : List zV} {w : zW} {Q : Option zV → zW → Prop} (hk : zk w h = 4) : zR 149 51 [l0, l1] (.inr (some h) :: st) w Q = zR 149 54 [l0, l1] (.inl (zf w 32 h) :: st) w Q := zR_go (zst zT_149_51 (zget_i hk (Or.inl rfl)))
theorem zr_149_51c8 {l0 l1 : Option zV} {h : Nat} {st : List zV} {w : zW} {Q : Option zV → zW → Prop} (hk : zk w h = 8) : zR 149 51 [l0, l1] (.inr (some h) :: st) w Q = zR 149 54 [l0, l1] (.inl (zf w 32 h) :: st) w Q := zR_go (zst zT_149_51 (zget_i hk (Or.inl rfl)))
theorem zT_149_54 : zT 149 54 = some (.aload_n 0, 1, 0, []) := by decide +kernel
theorem zr_149_54 {l1 : Option zV} {x : Option Nat} {st : List zV} {w : zW} {Q : Option zV → zW → Prop}  : zR 149 54 [some (.inr x), l1] st w Q = zR 149 55 [some (.inr x), l1] (.inr x :: st) w Q := zR_go (zst zT_149_54 rfl)
theorem zT_149_55 : zT 149 55 = some (.getfield 15, 3, 0, [(4, 3), (8, 2)]) := by decide +kernel
theorem zr_149_55c4 {l0 l1 : Option zV} {h : Nat} {st : List zV} {w : zW} {Q : Option zV → zW → Prop} (hk : zk w h = 4) : zR 149 55 [l0, l1] (.inr (some h) :: st) w Q = zR 149 58 [l0, l1] (.inl (zf w 34 h) :: st) w Q := zR_go (zst zT_149_55 (zget_i hk (Or.inl rfl)))
theorem zr_149_55c8 {l0 l1 : Option zV} {h : Nat} {st : List zV} {w : zW} {Q : Option zV → zW → Prop} (hk : zk w h = 8) : zR 149 55 [l0, l1] (.inr (some h) :: st) w Q = zR 149 58 [l0, l1] (.inl (zf w 34 h) :: st) w Q := zR_go (zst zT_149_55 (zget_i hk (Or.inl rfl)))
theorem zT_149_58 : zT 149 58 = some (.aload_n 0, 1, 0, []) := by decide +kernel
theorem zr_149_58 {l1 : Option zV} {x : Option Nat} {st : List zV} {w : zW} {Q : Option zV → zW → Prop}  : zR 149 58 [some (.inr x), l1] st w Q = zR 149 59 [some (.inr x), l1] (.inr x :: st) w Q := zR_go (zst zT_149_58 rfl)
theorem zT_149_59 : zT 149 59 = some (.getfield 48, 3, 0, [(4, 5), (8, 4)]) := by decide +kernel
theorem zr_149_59c4 {l0 l1 : Option zV} {h : Nat} {st : List zV} {w : zW} {Q : Option zV → zW → Prop} (hk : zk w h = 4) : zR 149 59 [l0, l1] (.inr (some h) :: st) w Q = zR 149 62 [l0, l1] (.inl (zf w 36 h) :: st) w Q := zR_go (zst zT_149_59 (zget_i hk (Or.inl rfl)))
theorem zr_149_59c8 {l0 l1 : Option zV} {h : Nat} {st : List zV} {w : zW} {Q : Option zV → zW → Prop} (hk : zk w h = 8) : zR 149 59 [l0, l1] (.inr (some h) :: st) w Q = zR 149 62 [l0, l1] (.inl (zf w 36 h) :: st) w Q := zR_go (zst zT_149_59 (zget_i hk (Or.inl rfl)))
theorem zT_149_62 : zT 149 62 = some (.iadd, 1, 0, []) := by decide +kernel
theorem zr_149_62 {l0 l1 : Option zV} {x y : Int} {st : List zV} {w : zW} {Q : Option zV → zW → Prop}  : zR 149 62 [l0, l1] (.inl y :: .inl x :: st) w Q = zR 149 63 [l0, l1] (.inl (x + y) :: st) w Q := zR_go (zst zT_149_62 rfl)
theorem zT_149_63 : zT 149 63 = some (.if_icmp .gt 5, 3, 0, []) := by decide +kernel
theorem zr_149_63 {l0 l1 : Option zV} {x y : Int} {st : List zV} {w : zW} {Q : Option zV → zW → Prop}  : zR 149 63 [l0, l1] (.inl y :: .inl x :: st) w Q = (if zN y < zN x then zR 149 68 [l0, l1] st w Q else zR 149 66 [l0, l1] st w Q) := zR_if (zstB zT_149_63 rfl) (by simp [zcmp])
theorem zT_149_66 : zT 149 66 = some (.iconst 1, 1, 0, []) := by decide +kernel
theorem zr_149_66 {l0 l1 : Option zV} {st : List zV} {w : zW} {Q : Option zV → zW → Prop}  : zR 149 66 [l0, l1] st w Q = zR 149 67 [l0, l1] (.inl 1 :: st) w Q := zR_go (zst zT_149_66 rfl)
theorem zT_149_67 : zT 149 67 = some (.ireturn, 1, 0, []) := by decide +kernel
theorem zr_149_67 {l0 l1 : Option zV} {x : Int} {w : zW} {Q : Option zV → zW → Prop}  : zR 149 67 [l0, l1] [.inl x] w Q = Q (some (.inl x)) w := zR_ret (zst zT_149_67 rfl)
theorem zT_149_68 : zT 149 68 = some (.iconst 0, 1, 0, []) := by decide +kernel
theorem zr_149_68 {l0 l1 : Option zV} {st : List zV} {w : zW} {Q : Option zV → zW → Prop}  : zR 149 68 [l0, l1] st w Q = zR 149 69 [l0, l1] (.inl 0 :: st) w Q := zR_go (zst zT_149_68 rfl)
theorem zT_149_69 : zT 149 69 = some (.ireturn, 1, 0, []) := by decide +kernel
theorem zr_149_69 {l0 l1 : Option zV} {x : Int} {w : zW} {Q : Option zV → zW → Prop}  : zR 149 69 [l0, l1] [.inl x] w Q = Q (some (.inl x)) w := zR_ret (zst zT_149_69 rfl)
theorem zT_150_0 : zT 150 0 = some (.aload_n 1, 1, 0, []) := by decide +kernel
theorem zr_150_0 {l0 l2 l3 l4 : Option zV} {x : Option Nat} {st : List zV} {w : zW} {Q : Option zV → zW → Prop}  : zR 150 0 [l0, some (.inr x), l2, l3, l4] st w Q = zR 150 1 [l0, some (.inr x), l2, l3, l4] (.inr x :: st) w Q := zR_go (zst zT_150_0 rfl)
theorem zT_150_1 : zT 150 1 = some (.invokevirtual 75, 3, 0, [(9, 124)]) := by decide +kernel
theorem zr_150_1 {l0 l1 l2 l3 l4 : Option zV} {h : Nat} {st : List zV} {w : zW} {Q : Option zV → zW → Prop} (hs : st.length ≤ 8) (hk : zk w h = 9) : zR 150 1 [l0, l1, l2, l3, l4] (.inr (some h) :: st) w Q = zR 124 0 [some (.inr (some h))] [] w (fun r w2 => zR 150 4 [l0, l1, l2, l3, l4] (r.toList ++ st) w2 Q) := zR_call (zst zT_150_1 (zcall_v [] rfl hs hk rfl))
theorem zT_150_4 : zT 150 4 = some (.ifCond .eq 4, 3, 0, []) := by decide +kernel
theorem zr_150_4 {l0 l1 l2 l3 l4 : Option zV} {x : Int} {st : List zV} {w : zW} {Q : Option zV → zW → Prop}  : zR 150 4 [l0, l1, l2, l3, l4] (.inl x :: st) w Q = (if zN x = 0 then zR 150 8 [l0, l1, l2, l3, l4] st w Q else zR 150 7 [l0, l1, l2, l3, l4] st w Q) := zR_if (zstB zT_150_4 rfl) (by simp [zcmp])
theorem zT_150_7 : zT 150 7 = some (.return_, 1, 0, []) := by decide +kernel
theorem zr_150_7 {l0 l1 l2 l3 l4 : Option zV} {w : zW} {Q : Option zV → zW → Prop} : zR 150 7 [l0, l1, l2, l3, l4] [] w Q = Q none w := zR_ret (zst zT_150_7 rfl)
theorem zT_150_8 : zT 150 8 = some (.aload_n 1, 1, 0, []) := by decide +kernel
theorem zr_150_8 {l0 l2 l3 l4 : Option zV} {x : Option Nat} {st : List zV} {w : zW} {Q : Option zV → zW → Prop}  : zR 150 8 [l0, some (.inr x), l2, l3, l4] st w Q = zR 150 9 [l0, some (.inr x), l2, l3, l4] (.inr x :: st) w Q := zR_go (zst zT_150_8 rfl)
theorem zT_150_9 : zT 150 9 = some (.invokestatic 81, 3, 1, [(151, 1)]) := by decide +kernel
theorem zr_150_9 {l0 l1 l2 l3 l4 : Option zV} {a0 : zV} {st : List zV} {w : zW} {Q : Option zV → zW → Prop} (hs : st.length ≤ 8) : zR 150 9 [l0, l1, l2, l3, l4] (a0 :: st) w Q = zR 151 0 [some a0, none, none, none, none] [] w (fun r w2 => zR 150 12 [l0, l1, l2, l3, l4] (r.toList ++ st) w2 Q) := zR_call (zst zT_150_9 ((zcall_s (z := 1) (pc := 9) (j := 151) (ls := [l0, l1, l2, l3, l4]) (w := w) [a0] rfl hs : zi_static 1 [(151, 1)] 9 [l0, l1, l2, l3, l4] ([a0] ++ st) w = _)))
theorem zT_150_12 : zT 150 12 = some (.istore_n 2, 1, 0, []) := by decide +kernel
theorem zr_150_12 {l0 l1 l2 l3 l4 : Option zV} {x : Int} {st : List zV} {w : zW} {Q : Option zV → zW → Prop}  : zR 150 12 [l0, l1, l2, l3, l4] (.inl x :: st) w Q = zR 150 13 [l0, l1, some (.inl x), l3, l4] st w Q := zR_go (zst zT_150_12 rfl)
theorem zT_150_13 : zT 150 13 = some (.aload_n 1, 1, 0, []) := by decide +kernel
theorem zr_150_13 {l0 l2 l3 l4 : Option zV} {x : Option Nat} {st : List zV} {w : zW} {Q : Option zV → zW → Prop}  : zR 150 13 [l0, some (.inr x), l2, l3, l4] st w Q = zR 150 14 [l0, some (.inr x), l2, l3, l4] (.inr x :: st) w Q := zR_go (zst zT_150_13 rfl)
theorem zT_150_14 : zT 150 14 = some (.getfield 85, 3, 0, [(9, 3)]) := by decide +kernel
theorem zr_150_14 {l0 l1 l2 l3 l4 : Option zV} {h : Nat} {st : List zV} {w : zW} {Q : Option zV → zW → Prop} (hk : zk w h = 9) : zR 150 14 [l0, l1, l2, l3, l4] (.inr (some h) :: st) w Q = zR 150 17 [l0, l1, l2, l3, l4] (.inr (zp w 61 h) :: st) w Q := zR_go (zst zT_150_14 (zget_r hk rfl))
theorem zT_150_17 : zT 150 17 = some (.astore_n 3, 1, 0, []) := by decide +kernel
theorem zr_150_17 {l0 l1 l2 l3 l4 : Option zV} {x : Option Nat} {st : List zV} {w : zW} {Q : Option zV → zW → Prop}  : zR 150 17 [l0, l1, l2, l3, l4] (.inr x :: st) w Q = zR 150 18 [l0, l1, l2, some (.inr x), l4] st w Q := zR_go (zst zT_150_17 rfl)
theorem zT_150_18 : zT 150 18 = some (.iconst 1, 1, 0, []) := by decide +kernel
theorem zr_150_18 {l0 l1 l2 l3 l4 : Option zV} {st : List zV} {w : zW} {Q : Option zV → zW → Prop}  : zR 150 18 [l0, l1, l2, l3, l4] st w Q = zR 150 19 [l0, l1, l2, l3, l4] (.inl 1 :: st) w Q := zR_go (zst zT_150_18 rfl)
theorem zT_150_19 : zT 150 19 = some (.istore 4, 2, 0, []) := by decide +kernel
theorem zr_150_19 {l0 l1 l2 l3 l4 : Option zV} {x : Int} {st : List zV} {w : zW} {Q : Option zV → zW → Prop}  : zR 150 19 [l0, l1, l2, l3, l4] (.inl x :: st) w Q = zR 150 21 [l0, l1, l2, l3, some (.inl x)] st w Q := zR_go (zst zT_150_19 rfl)
theorem zT_150_21 : zT 150 21 = some (.iload_n 2, 1, 0, []) := by decide +kernel
theorem zr_150_21 {l0 l1 l3 l4 : Option zV} {x : Int} {st : List zV} {w : zW} {Q : Option zV → zW → Prop}  : zR 150 21 [l0, l1, some (.inl x), l3, l4] st w Q = zR 150 22 [l0, l1, some (.inl x), l3, l4] (.inl x :: st) w Q := zR_go (zst zT_150_21 rfl)
theorem zT_150_22 : zT 150 22 = some (.tableswitch 114 1 5 #[34, 43, 55, 65, 93], 34, 0, []) := by decide +kernel
theorem zr_150_22k0 {l0 l1 l2 l3 l4 : Option zV} {x : Int} {st : List zV} {w : zW} {Q : Option zV → zW → Prop} (hx : zN x = 1) : zR 150 22 [l0, l1, l2, l3, l4] (.inl x :: st) w Q = zR 150 56 [l0, l1, l2, l3, l4] st w Q := zR_go (zst zT_150_22 (by simp [zins, zi_table, zgo, zto, hx]))
theorem zr_150_22k1 {l0 l1 l2 l3 l4 : Option zV} {x : Int} {st : List zV} {w : zW} {Q : Option zV → zW → Prop} (hx : zN x = 2) : zR 150 22 [l0, l1, l2, l3, l4] (.inl x :: st) w Q = zR 150 65 [l0, l1, l2, l3, l4] st w Q := zR_go (zst zT_150_22 (by simp [zins, zi_table, zgo, zto, hx]))
theorem zr_150_22k2 {l0 l1 l2 l3 l4 : Option zV} {x : Int} {st : List zV} {w : zW} {Q : Option zV → zW → Prop} (hx : zN x = 3) : zR 150 22 [l0, l1, l2, l3, l4] (.inl x :: st) w Q = zR 150 77 [l0, l1, l2, l3, l4] st w Q := zR_go (zst zT_150_22 (by simp [zins, zi_table, zgo, zto, hx]))
theorem zr_150_22k3 {l0 l1 l2 l3 l4 : Option zV} {x : Int} {st : List zV} {w : zW} {Q : Option zV → zW → Prop} (hx : zN x = 4) : zR 150 22 [l0, l1, l2, l3, l4] (.inl x :: st) w Q = zR 150 87 [l0, l1, l2, l3, l4] st w Q := zR_go (zst zT_150_22 (by simp [zins, zi_table, zgo, zto, hx]))
theorem zr_150_22k4 {l0 l1 l2 l3 l4 : Option zV} {x : Int} {st : List zV} {w : zW} {Q : Option zV → zW → Prop} (hx : zN x = 5) : zR 150 22 [l0, l1, l2, l3, l4] (.inl x :: st) w Q = zR 150 115 [l0, l1, l2, l3, l4] st w Q := zR_go (zst zT_150_22 (by simp [zins, zi_table, zgo, zto, hx]))
theorem zr_150_22d {l0 l1 l2 l3 l4 : Option zV} {x : Int} {st : List zV} {w : zW} {Q : Option zV → zW → Prop} (hx : zN x < 1 ∨ 5 < zN x) : zR 150 22 [l0, l1, l2, l3, l4] (.inl x :: st) w Q = zR 150 136 [l0, l1, l2, l3, l4] st w Q := zR_go (zst zT_150_22 (by simp [zins, zi_table, zgo, zto, hx]))
theorem zT_150_56 : zT 150 56 = some (.aload_n 0, 1, 0, []) := by decide +kernel
theorem zr_150_56 {l1 l2 l3 l4 : Option zV} {x : Option Nat} {st : List zV} {w : zW} {Q : Option zV → zW → Prop}  : zR 150 56 [some (.inr x), l1, l2, l3, l4] st w Q = zR 150 57 [some (.inr x), l1, l2, l3, l4] (.inr x :: st) w Q := zR_go (zst zT_150_56 rfl)
theorem zT_150_57 : zT 150 57 = some (.invokevirtual 67, 3, 0, [(4, 154), (8, 154)]) := by decide +kernel
theorem zr_150_57c4 {l0 l1 l2 l3 l4 : Option zV} {h : Nat} {st : List zV} {w : zW} {Q : Option zV → zW → Prop} (hs : st.length ≤ 8) (hk : zk w h = 4) : zR 150 57 [l0, l1, l2, l3, l4] (.inr (some h) :: st) w Q = zR 154 0 [some (.inr (some h))] [] w (fun r w2 => zR 150 60 [l0, l1, l2, l3, l4] (r.toList ++ st) w2 Q) := zR_call (zst zT_150_57 (zcall_v [] rfl hs hk rfl))
theorem zr_150_57c8 {l0 l1 l2 l3 l4 : Option zV} {h : Nat} {st : List zV} {w : zW} {Q : Option zV → zW → Prop} (hs : st.length ≤ 8) (hk : zk w h = 8) : zR 150 57 [l0, l1, l2, l3, l4] (.inr (some h) :: st) w Q = zR 154 0 [some (.inr (some h))] [] w (fun r w2 => zR 150 60 [l0, l1, l2, l3, l4] (r.toList ++ st) w2 Q) := zR_call (zst zT_150_57 (zcall_v [] rfl hs hk rfl))
theorem zT_150_60 : zT 150 60 = some (.istore 4, 2, 0, []) := by decide +kernel
theorem zr_150_60 {l0 l1 l2 l3 l4 : Option zV} {x : Int} {st : List zV} {w : zW} {Q : Option zV → zW → Prop}  : zR 150 60 [l0, l1, l2, l3, l4] (.inl x :: st) w Q = zR 150 62 [l0, l1, l2, l3, some (.inl x)] st w Q := zR_go (zst zT_150_60 rfl)
theorem zT_150_62 : zT 150 62 = some (.goto 74, 3, 0, []) := by decide +kernel
theorem zr_150_62 {l0 l1 l2 l3 l4 : Option zV} {st : List zV} {w : zW} {Q : Option zV → zW → Prop}  : zR 150 62 [l0, l1, l2, l3, l4] st w Q = zR 150 136 [l0, l1, l2, l3, l4] st w Q := zR_go (zst zT_150_62 rfl)
theorem zT_150_65 : zT 150 65 = some (.aload_n 0, 1, 0, []) := by decide +kernel
theorem zr_150_65 {l1 l2 l3 l4 : Option zV} {x : Option Nat} {st : List zV} {w : zW} {Q : Option zV → zW → Prop}  : zR 150 65 [some (.inr x), l1, l2, l3, l4] st w Q = zR 150 66 [some (.inr x), l1, l2, l3, l4] (.inr x :: st) w Q := zR_go (zst zT_150_65 rfl)
theorem zT_150_66 : zT 150 66 = some (.aload_n 3, 1, 0, []) := by decide +kernel
theorem zr_150_66 {l0 l1 l2 l4 : Option zV} {x : Option Nat} {st : List zV} {w : zW} {Q : Option zV → zW → Prop}  : zR 150 66 [l0, l1, l2, some (.inr x), l4] st w Q = zR 150 67 [l0, l1, l2, some (.inr x), l4] (.inr x :: st) w Q := zR_go (zst zT_150_66 rfl)
theorem zT_150_67 : zT 150 67 = some (.invokevirtual 88, 3, 1, [(4, 153), (8, 153)]) := by decide +kernel
theorem zr_150_67c4 {l0 l1 l2 l3 l4 : Option zV} {a0 : zV} {h : Nat} {st : List zV} {w : zW} {Q : Option zV → zW → Prop} (hs : st.length ≤ 8) (hk : zk w h = 4) : zR 150 67 [l0, l1, l2, l3, l4] (a0 :: .inr (some h) :: st) w Q = zR 153 0 [some (.inr (some h)), some a0] [] w (fun r w2 => zR 150 70 [l0, l1, l2, l3, l4] (r.toList ++ st) w2 Q) := zR_call (zst zT_150_67 (zcall_v [a0] rfl hs hk rfl))
theorem zr_150_67c8 {l0 l1 l2 l3 l4 : Option zV} {a0 : zV} {h : Nat} {st : List zV} {w : zW} {Q : Option zV → zW → Prop} (hs : st.length ≤ 8) (hk : zk w h = 8) : zR 150 67 [l0, l1, l2, l3, l4] (a0 :: .inr (some h) :: st) w Q = zR 153 0 [some (.inr (some h)), some a0] [] w (fun r w2 => zR 150 70 [l0, l1, l2, l3, l4] (r.toList ++ st) w2 Q) := zR_call (zst zT_150_67 (zcall_v [a0] rfl hs hk rfl))
theorem zT_150_70 : zT 150 70 = some (.aload_n 0, 1, 0, []) := by decide +kernel
theorem zr_150_70 {l1 l2 l3 l4 : Option zV} {x : Option Nat} {st : List zV} {w : zW} {Q : Option zV → zW → Prop}  : zR 150 70 [some (.inr x), l1, l2, l3, l4] st w Q = zR 150 71 [some (.inr x), l1, l2, l3, l4] (.inr x :: st) w Q := zR_go (zst zT_150_70 rfl)
theorem zT_150_71 : zT 150 71 = some (.invokevirtual 92, 3, 0, [(4, 148), (8, 148)]) := by decide +kernel
theorem zr_150_71c4 {l0 l1 l2 l3 l4 : Option zV} {h : Nat} {st : List zV} {w : zW} {Q : Option zV → zW → Prop} (hs : st.length ≤ 8) (hk : zk w h = 4) : zR 150 71 [l0, l1, l2, l3, l4] (.inr (some h) :: st) w Q = zR 148 0 [some (.inr (some h)), none] [] w (fun r w2 => zR 150 74 [l0, l1, l2, l3, l4] (r.toList ++ st) w2 Q) := zR_call (zst zT_150_71 (zcall_v [] rfl hs hk rfl))
theorem zr_150_71c8 {l0 l1 l2 l3 l4 : Option zV} {h : Nat} {st : List zV} {w : zW} {Q : Option zV → zW → Prop} (hs : st.length ≤ 8) (hk : zk w h = 8) : zR 150 71 [l0, l1, l2, l3, l4] (.inr (some h) :: st) w Q = zR 148 0 [some (.inr (some h)), none] [] w (fun r w2 => zR 150 74 [l0, l1, l2, l3, l4] (r.toList ++ st) w2 Q) := zR_call (zst zT_150_71 (zcall_v [] rfl hs hk rfl))
theorem zT_150_74 : zT 150 74 = some (.goto 62, 3, 0, []) := by decide +kernel
theorem zr_150_74 {l0 l1 l2 l3 l4 : Option zV} {st : List zV} {w : zW} {Q : Option zV → zW → Prop}  : zR 150 74 [l0, l1, l2, l3, l4] st w Q = zR 150 136 [l0, l1, l2, l3, l4] st w Q := zR_go (zst zT_150_74 rfl)
theorem zT_150_77 : zT 150 77 = some (.aload_n 0, 1, 0, []) := by decide +kernel
theorem zr_150_77 {l1 l2 l3 l4 : Option zV} {x : Option Nat} {st : List zV} {w : zW} {Q : Option zV → zW → Prop}  : zR 150 77 [some (.inr x), l1, l2, l3, l4] st w Q = zR 150 78 [some (.inr x), l1, l2, l3, l4] (.inr x :: st) w Q := zR_go (zst zT_150_77 rfl)
theorem zT_150_78 : zT 150 78 = some (.aload_n 3, 1, 0, []) := by decide +kernel
theorem zr_150_78 {l0 l1 l2 l4 : Option zV} {x : Option Nat} {st : List zV} {w : zW} {Q : Option zV → zW → Prop}  : zR 150 78 [l0, l1, l2, some (.inr x), l4] st w Q = zR 150 79 [l0, l1, l2, some (.inr x), l4] (.inr x :: st) w Q := zR_go (zst zT_150_78 rfl)
theorem zT_150_79 : zT 150 79 = some (.iconst 1, 1, 0, []) := by decide +kernel
theorem zr_150_79 {l0 l1 l2 l3 l4 : Option zV} {st : List zV} {w : zW} {Q : Option zV → zW → Prop}  : zR 150 79 [l0, l1, l2, l3, l4] st w Q = zR 150 80 [l0, l1, l2, l3, l4] (.inl 1 :: st) w Q := zR_go (zst zT_150_79 rfl)
theorem zT_150_80 : zT 150 80 = some (.iaload, 1, 0, []) := by decide +kernel
theorem zr_150_80 {l0 l1 l2 l3 l4 : Option zV} {j : Int} {h : Nat} {st : List zV} {w : zW} {Q : Option zV → zW → Prop} (hk : (zk w h = zNC ∨ zk w h = zNC + 2) ∧ 0 ≤ zN j ∧ zN j < zl w h) : zR 150 80 [l0, l1, l2, l3, l4] (.inl j :: .inr (some h) :: st) w Q = zR 150 81 [l0, l1, l2, l3, l4] (.inl (za w h (zN j).toNat) :: st) w Q := zR_go (zst zT_150_80 (if_pos hk))
theorem zT_150_81 : zT 150 81 = some (.putfield 51, 3, 0, [(4, 7), (8, 6)]) := by decide +kernel
theorem zr_150_81c4 {l0 l1 l2 l3 l4 : Option zV} {h : Nat} {x : Int} {st : List zV} {w : zW} {Q : Option zV → zW → Prop} (hk : zk w h = 4) : zR 150 81 [l0, l1, l2, l3, l4] (.inl x :: .inr (some h) :: st) w Q = zR 150 84 [l0, l1, l2, l3, l4] st (zsf w 38 h x) Q := zR_go (zst zT_150_81 (zput_i hk rfl))
theorem zr_150_81c8 {l0 l1 l2 l3 l4 : Option zV} {h : Nat} {x : Int} {st : List zV} {w : zW} {Q : Option zV → zW → Prop} (hk : zk w h = 8) : zR 150 81 [l0, l1, l2, l3, l4] (.inl x :: .inr (some h) :: st) w Q = zR 150 84 [l0, l1, l2, l3, l4] st (zsf w 38 h x) Q := zR_go (zst zT_150_81 (zput_i hk rfl))
theorem zT_150_84 : zT 150 84 = some (.goto 52, 3, 0, []) := by decide +kernel
theorem zr_150_84 {l0 l1 l2 l3 l4 : Option zV} {st : List zV} {w : zW} {Q : Option zV → zW → Prop}  : zR 150 84 [l0, l1, l2, l3, l4] st w Q = zR 150 136 [l0, l1, l2, l3, l4] st w Q := zR_go (zst zT_150_84 rfl)
theorem zT_150_87 : zT 150 87 = some (.aload_n 0, 1, 0, []) := by decide +kernel
theorem zr_150_87 {l1 l2 l3 l4 : Option zV} {x : Option Nat} {st : List zV} {w : zW} {Q : Option zV → zW → Prop}  : zR 150 87 [some (.inr x), l1, l2, l3, l4] st w Q = zR 150 88 [some (.inr x), l1, l2, l3, l4] (.inr x :: st) w Q := zR_go (zst zT_150_87 rfl)
theorem zT_150_88 : zT 150 88 = some (.getfield 21, 3, 0, [(4, 6), (8, 5)]) := by decide +kernel
theorem zr_150_88c4 {l0 l1 l2 l3 l4 : Option zV} {h : Nat} {st : List zV} {w : zW} {Q : Option zV → zW → Prop} (hk : zk w h = 4) : zR 150 88 [l0, l1, l2, l3, l4] (.inr (some h) :: st) w Q = zR 150 91 [l0, l1, l2, l3, l4] (.inr (zp w 37 h) :: st) w Q := zR_go (zst zT_150_88 (zget_r hk rfl))
theorem zr_150_88c8 {l0 l1 l2 l3 l4 : Option zV} {h : Nat} {st : List zV} {w : zW} {Q : Option zV → zW → Prop} (hk : zk w h = 8) : zR 150 88 [l0, l1, l2, l3, l4] (.inr (some h) :: st) w Q = zR 150 91 [l0, l1, l2, l3, l4] (.inr (zp w 37 h) :: st) w Q := zR_go (zst zT_150_88 (zget_r hk rfl))
theorem zT_150_91 : zT 150 91 = some (.aload_n 3, 1, 0, []) := by decide +kernel
theorem zr_150_91 {l0 l1 l2 l4 : Option zV} {x : Option Nat} {st : List zV} {w : zW} {Q : Option zV → zW → Prop}  : zR 150 91 [l0, l1, l2, some (.inr x), l4] st w Q = zR 150 92 [l0, l1, l2, some (.inr x), l4] (.inr x :: st) w Q := zR_go (zst zT_150_91 rfl)
theorem zT_150_92 : zT 150 92 = some (.iconst 1, 1, 0, []) := by decide +kernel
theorem zr_150_92 {l0 l1 l2 l3 l4 : Option zV} {st : List zV} {w : zW} {Q : Option zV → zW → Prop}  : zR 150 92 [l0, l1, l2, l3, l4] st w Q = zR 150 93 [l0, l1, l2, l3, l4] (.inl 1 :: st) w Q := zR_go (zst zT_150_92 rfl)
theorem zT_150_93 : zT 150 93 = some (.iaload, 1, 0, []) := by decide +kernel
theorem zr_150_93 {l0 l1 l2 l3 l4 : Option zV} {j : Int} {h : Nat} {st : List zV} {w : zW} {Q : Option zV → zW → Prop} (hk : (zk w h = zNC ∨ zk w h = zNC + 2) ∧ 0 ≤ zN j ∧ zN j < zl w h) : zR 150 93 [l0, l1, l2, l3, l4] (.inl j :: .inr (some h) :: st) w Q = zR 150 94 [l0, l1, l2, l3, l4] (.inl (za w h (zN j).toNat) :: st) w Q := zR_go (zst zT_150_93 (if_pos hk))
theorem zT_150_94 : zT 150 94 = some (.aload_n 0, 1, 0, []) := by decide +kernel
theorem zr_150_94 {l1 l2 l3 l4 : Option zV} {x : Option Nat} {st : List zV} {w : zW} {Q : Option zV → zW → Prop}  : zR 150 94 [some (.inr x), l1, l2, l3, l4] st w Q = zR 150 95 [some (.inr x), l1, l2, l3, l4] (.inr x :: st) w Q := zR_go (zst zT_150_94 rfl)
theorem zT_150_95 : zT 150 95 = some (.getfield 25, 3, 0, [(4, 9), (8, 8)]) := by decide +kernel
theorem zr_150_95c4 {l0 l1 l2 l3 l4 : Option zV} {h : Nat} {st : List zV} {w : zW} {Q : Option zV → zW → Prop} (hk : zk w h = 4) : zR 150 95 [l0, l1, l2, l3, l4] (.inr (some h) :: st) w Q = zR 150 98 [l0, l1, l2, l3, l4] (.inr (zp w 40 h) :: st) w Q := zR_go (zst zT_150_95 (zget_r hk rfl))
theorem zr_150_95c8 {l0 l1 l2 l3 l4 : Option zV} {h : Nat} {st : List zV} {w : zW} {Q : Option zV → zW → Prop} (hk : zk w h = 8) : zR 150 95 [l0, l1, l2, l3, l4] (.inr (some h) :: st) w Q = zR 150 98 [l0, l1, l2, l3, l4] (.inr (zp w 40 h) :: st) w Q := zR_go (zst zT_150_95 (zget_r hk rfl))
theorem zT_150_98 : zT 150 98 = some (.iconst 1, 1, 0, []) := by decide +kernel
theorem zr_150_98 {l0 l1 l2 l3 l4 : Option zV} {st : List zV} {w : zW} {Q : Option zV → zW → Prop}  : zR 150 98 [l0, l1, l2, l3, l4] st w Q = zR 150 99 [l0, l1, l2, l3, l4] (.inl 1 :: st) w Q := zR_go (zst zT_150_98 rfl)
theorem zT_150_99 : zT 150 99 = some (.aload_n 3, 1, 0, []) := by decide +kernel
theorem zr_150_99 {l0 l1 l2 l4 : Option zV} {x : Option Nat} {st : List zV} {w : zW} {Q : Option zV → zW → Prop}  : zR 150 99 [l0, l1, l2, some (.inr x), l4] st w Q = zR 150 100 [l0, l1, l2, some (.inr x), l4] (.inr x :: st) w Q := zR_go (zst zT_150_99 rfl)
theorem zT_150_100 : zT 150 100 = some (.iconst 2, 1, 0, []) := by decide +kernel
theorem zr_150_100 {l0 l1 l2 l3 l4 : Option zV} {st : List zV} {w : zW} {Q : Option zV → zW → Prop}  : zR 150 100 [l0, l1, l2, l3, l4] st w Q = zR 150 101 [l0, l1, l2, l3, l4] (.inl 2 :: st) w Q := zR_go (zst zT_150_100 rfl)
theorem zT_150_101 : zT 150 101 = some (.iaload, 1, 0, []) := by decide +kernel
theorem zr_150_101 {l0 l1 l2 l3 l4 : Option zV} {j : Int} {h : Nat} {st : List zV} {w : zW} {Q : Option zV → zW → Prop} (hk : (zk w h = zNC ∨ zk w h = zNC + 2) ∧ 0 ≤ zN j ∧ zN j < zl w h) : zR 150 101 [l0, l1, l2, l3, l4] (.inl j :: .inr (some h) :: st) w Q = zR 150 102 [l0, l1, l2, l3, l4] (.inl (za w h (zN j).toNat) :: st) w Q := zR_go (zst zT_150_101 (if_pos hk))
theorem zT_150_102 : zT 150 102 = some (.invokestatic 95, 3, 5, [(0, 0)]) := by decide +kernel
theorem zr_150_102 {l0 l1 l2 l3 l4 : Option zV} {n dp sp : Int} {g h : Nat} {st : List zV} {w : zW} {Q : Option zV → zW → Prop} (hk : zk w h = zNC ∧ zk w g = zNC ∧ 0 ≤ zN sp ∧ 0 ≤ zN dp ∧ 0 ≤ zN n ∧ zN sp + zN n ≤ zl w h ∧ zN dp + zN n ≤ zl w g ∧ st.length ≤ 8) : zR 150 102 [l0, l1, l2, l3, l4] (.inl n :: .inl dp :: .inr (some g) :: .inl sp :: .inr (some h) :: st) w Q = zR 150 105 [l0, l1, l2, l3, l4] st (zcp w h (zN sp).toNat g (zN dp).toNat (zN n).toNat) Q := zR_go (zst zT_150_102 (if_pos hk))
theorem zT_150_105 : zT 150 105 = some (.iconst 1, 1, 0, []) := by decide +kernel
theorem zr_150_105 {l0 l1 l2 l3 l4 : Option zV} {st : List zV} {w : zW} {Q : Option zV → zW → Prop}  : zR 150 105 [l0, l1, l2, l3, l4] st w Q = zR 150 106 [l0, l1, l2, l3, l4] (.inl 1 :: st) w Q := zR_go (zst zT_150_105 rfl)
theorem zT_150_106 : zT 150 106 = some (.aload_n 3, 1, 0, []) := by decide +kernel
theorem zr_150_106 {l0 l1 l2 l4 : Option zV} {x : Option Nat} {st : List zV} {w : zW} {Q : Option zV → zW → Prop}  : zR 150 106 [l0, l1, l2, some (.inr x), l4] st w Q = zR 150 107 [l0, l1, l2, some (.inr x), l4] (.inr x :: st) w Q := zR_go (zst zT_150_106 rfl)
theorem zT_150_107 : zT 150 107 = some (.iconst 2, 1, 0, []) := by decide +kernel
theorem zr_150_107 {l0 l1 l2 l3 l4 : Option zV} {st : List zV} {w : zW} {Q : Option zV → zW → Prop}  : zR 150 107 [l0, l1, l2, l3, l4] st w Q = zR 150 108 [l0, l1, l2, l3, l4] (.inl 2 :: st) w Q := zR_go (zst zT_150_107 rfl)
theorem zT_150_108 : zT 150 108 = some (.iaload, 1, 0, []) := by decide +kernel
theorem zr_150_108 {l0 l1 l2 l3 l4 : Option zV} {j : Int} {h : Nat} {st : List zV} {w : zW} {Q : Option zV → zW → Prop} (hk : (zk w h = zNC ∨ zk w h = zNC + 2) ∧ 0 ≤ zN j ∧ zN j < zl w h) : zR 150 108 [l0, l1, l2, l3, l4] (.inl j :: .inr (some h) :: st) w Q = zR 150 109 [l0, l1, l2, l3, l4] (.inl (za w h (zN j).toNat) :: st) w Q := zR_go (zst zT_150_108 (if_pos hk))
theorem zT_150_109 : zT 150 109 = some (.iadd, 1, 0, []) := by decide +kernel
theorem zr_150_109 {l0 l1 l2 l3 l4 : Option zV} {x y : Int} {st : List zV} {w : zW} {Q : Option zV → zW → Prop}  : zR 150 109 [l0, l1, l2, l3, l4] (.inl y :: .inl x :: st) w Q = zR 150 110 [l0, l1, l2, l3, l4] (.inl (x + y) :: st) w Q := zR_go (zst zT_150_109 rfl)
theorem zT_150_110 : zT 150 110 = some (.istore 4, 2, 0, []) := by decide +kernel
theorem zr_150_110 {l0 l1 l2 l3 l4 : Option zV} {x : Int} {st : List zV} {w : zW} {Q : Option zV → zW → Prop}  : zR 150 110 [l0, l1, l2, l3, l4] (.inl x :: st) w Q = zR 150 112 [l0, l1, l2, l3, some (.inl x)] st w Q := zR_go (zst zT_150_110 rfl)
theorem zT_150_112 : zT 150 112 = some (.goto 24, 3, 0, []) := by decide +kernel
theorem zr_150_112 {l0 l1 l2 l3 l4 : Option zV} {st : List zV} {w : zW} {Q : Option zV → zW → Prop}  : zR 150 112 [l0, l1, l2, l3, l4] st w Q = zR 150 136 [l0, l1, l2, l3, l4] st w Q := zR_go (zst zT_150_112 rfl)
theorem zT_150_115 : zT 150 115 = some (.aload_n 3, 1, 0, []) := by decide +kernel
theorem zr_150_115 {l0 l1 l2 l4 : Option zV} {x : Option Nat} {st : List zV} {w : zW} {Q : Option zV → zW → Prop}  : zR 150 115 [l0, l1, l2, some (.inr x), l4] st w Q = zR 150 116 [l0, l1, l2, some (.inr x), l4] (.inr x :: st) w Q := zR_go (zst zT_150_115 rfl)
theorem zT_150_116 : zT 150 116 = some (.iconst 2, 1, 0, []) := by decide +kernel
theorem zr_150_116 {l0 l1 l2 l3 l4 : Option zV} {st : List zV} {w : zW} {Q : Option zV → zW → Prop}  : zR 150 116 [l0, l1, l2, l3, l4] st w Q = zR 150 117 [l0, l1, l2, l3, l4] (.inl 2 :: st) w Q := zR_go (zst zT_150_116 rfl)
theorem zT_150_117 : zT 150 117 = some (.aload_n 0, 1, 0, []) := by decide +kernel
theorem zr_150_117 {l1 l2 l3 l4 : Option zV} {x : Option Nat} {st : List zV} {w : zW} {Q : Option zV → zW → Prop}  : zR 150 117 [some (.inr x), l1, l2, l3, l4] st w Q = zR 150 118 [some (.inr x), l1, l2, l3, l4] (.inr x :: st) w Q := zR_go (zst zT_150_117 rfl)
theorem zT_150_118 : zT 150 118 = some (.getfield 21, 3, 0, [(4, 6), (8, 5)]) := by decide +kernel
theorem zr_150_118c4 {l0 l1 l2 l3 l4 : Option zV} {h : Nat} {st : List zV} {w : zW} {Q : Option zV → zW → Prop} (hk : zk w h = 4) : zR 150 118 [l0, l1, l2, l3, l4] (.inr (some h) :: st) w Q = zR 150 121 [l0, l1, l2, l3, l4] (.inr (zp w 37 h) :: st) w Q := zR_go (zst zT_150_118 (zget_r hk rfl))
theorem zr_150_118c8 {l0 l1 l2 l3 l4 : Option zV} {h : Nat} {st : List zV} {w : zW} {Q : Option zV → zW → Prop} (hk : zk w h = 8) : zR 150 118 [l0, l1, l2, l3, l4] (.inr (some h) :: st) w Q = zR 150 121 [l0, l1, l2, l3, l4] (.inr (zp w 37 h) :: st) w Q := zR_go (zst zT_150_118 (zget_r hk rfl))
theorem zT_150_121 : zT 150 121 = some (.aload_n 3, 1, 0, []) := by decide +kernel
theorem zr_150_121 {l0 l1 l2 l4 : Option zV} {x : Option Nat} {st : List zV} {w : zW} {Q : Option zV → zW → Prop}  : zR 150 121 [l0, l1, l2, some (.inr x), l4] st w Q = zR 150 122 [l0, l1, l2, some (.inr x), l4] (.inr x :: st) w Q := zR_go (zst zT_150_121 rfl)
theorem zT_150_122 : zT 150 122 = some (.iconst 1, 1, 0, []) := by decide +kernel
theorem zr_150_122 {l0 l1 l2 l3 l4 : Option zV} {st : List zV} {w : zW} {Q : Option zV → zW → Prop}  : zR 150 122 [l0, l1, l2, l3, l4] st w Q = zR 150 123 [l0, l1, l2, l3, l4] (.inl 1 :: st) w Q := zR_go (zst zT_150_122 rfl)
theorem zT_150_123 : zT 150 123 = some (.iaload, 1, 0, []) := by decide +kernel
theorem zr_150_123 {l0 l1 l2 l3 l4 : Option zV} {j : Int} {h : Nat} {st : List zV} {w : zW} {Q : Option zV → zW → Prop} (hk : (zk w h = zNC ∨ zk w h = zNC + 2) ∧ 0 ≤ zN j ∧ zN j < zl w h) : zR 150 123 [l0, l1, l2, l3, l4] (.inl j :: .inr (some h) :: st) w Q = zR 150 124 [l0, l1, l2, l3, l4] (.inl (za w h (zN j).toNat) :: st) w Q := zR_go (zst zT_150_123 (if_pos hk))
theorem zT_150_124 : zT 150 124 = some (.aload_n 1, 1, 0, []) := by decide +kernel
theorem zr_150_124 {l0 l2 l3 l4 : Option zV} {x : Option Nat} {st : List zV} {w : zW} {Q : Option zV → zW → Prop}  : zR 150 124 [l0, some (.inr x), l2, l3, l4] st w Q = zR 150 125 [l0, some (.inr x), l2, l3, l4] (.inr x :: st) w Q := zR_go (zst zT_150_124 rfl)
theorem zT_150_125 : zT 150 125 = some (.getfield 101, 3, 0, [(9, 2)]) := by decide +kernel
theorem zr_150_125 {l0 l1 l2 l3 l4 : Option zV} {h : Nat} {st : List zV} {w : zW} {Q : Option zV → zW → Prop} (hk : zk w h = 9) : zR 150 125 [l0, l1, l2, l3, l4] (.inr (some h) :: st) w Q = zR 150 128 [l0, l1, l2, l3, l4] (.inl (zf w 60 h) :: st) w Q := zR_go (zst zT_150_125 (zget_i hk (Or.inl rfl)))
theorem zT_150_128 : zT 150 128 = some (.iconst 2, 1, 0, []) := by decide +kernel
theorem zr_150_128 {l0 l1 l2 l3 l4 : Option zV} {st : List zV} {w : zW} {Q : Option zV → zW → Prop}  : zR 150 128 [l0, l1, l2, l3, l4] st w Q = zR 150 129 [l0, l1, l2, l3, l4] (.inl 2 :: st) w Q := zR_go (zst zT_150_128 rfl)
theorem zT_150_129 : zT 150 129 = some (.isub, 1, 0, []) := by decide +kernel
theorem zr_150_129 {l0 l1 l2 l3 l4 : Option zV} {x y : Int} {st : List zV} {w : zW} {Q : Option zV → zW → Prop}  : zR 150 129 [l0, l1, l2, l3, l4] (.inl y :: .inl x :: st) w Q = zR 150 130 [l0, l1, l2, l3, l4] (.inl (x - y) :: st) w Q := zR_go (zst zT_150_129 rfl)
theorem zT_150_130 : zT 150 130 = some (.invokestatic 95, 3, 5, [(0, 0)]) := by decide +kernel
theorem zr_150_130 {l0 l1 l2 l3 l4 : Option zV} {n dp sp : Int} {g h : Nat} {st : List zV} {w : zW} {Q : Option zV → zW → Prop} (hk : zk w h = zNC ∧ zk w g = zNC ∧ 0 ≤ zN sp ∧ 0 ≤ zN dp ∧ 0 ≤ zN n ∧ zN sp + zN n ≤ zl w h ∧ zN dp + zN n ≤ zl w g ∧ st.length ≤ 8) : zR 150 130 [l0, l1, l2, l3, l4] (.inl n :: .inl dp :: .inr (some g) :: .inl sp :: .inr (some h) :: st) w Q = zR 150 133 [l0, l1, l2, l3, l4] st (zcp w h (zN sp).toNat g (zN dp).toNat (zN n).toNat) Q := zR_go (zst zT_150_130 (if_pos hk))
theorem zT_150_133 : zT 150 133 = some (.goto 3, 3, 0, []) := by decide +kernel
theorem zr_150_133 {l0 l1 l2 l3 l4 : Option zV} {st : List zV} {w : zW} {Q : Option zV → zW → Prop}  : zR 150 133 [l0, l1, l2, l3, l4] st w Q = zR 150 136 [l0, l1, l2, l3, l4] st w Q := zR_go (zst zT_150_133 rfl)
theorem zT_150_136 : zT 150 136 = some (.aload_n 0, 1, 0, []) := by decide +kernel
theorem zr_150_136 {l1 l2 l3 l4 : Option zV} {x : Option Nat} {st : List zV} {w : zW} {Q : Option zV → zW → Prop}  : zR 150 136 [some (.inr x), l1, l2, l3, l4] st w Q = zR 150 137 [some (.inr x), l1, l2, l3, l4] (.inr x :: st) w Q := zR_go (zst zT_150_136 rfl)
theorem zT_150_137 : zT 150 137 = some (.getfield 25, 3, 0, [(4, 9), (8, 8)]) := by decide +kernel
theorem zr_150_137c4 {l0 l1 l2 l3 l4 : Option zV} {h : Nat} {st : List zV} {w : zW} {Q : Option zV → zW → Prop} (hk : zk w h = 4) : zR 150 137 [l0, l1, l2, l3, l4] (.inr (some h) :: st) w Q = zR 150 140 [l0, l1, l2, l3, l4] (.inr (zp w 40 h) :: st) w Q := zR_go (zst zT_150_137 (zget_r hk rfl))
theorem zr_150_137c8 {l0 l1 l2 l3 l4 : Option zV} {h : Nat} {st : List zV} {w : zW} {Q : Option zV → zW → Prop} (hk : zk w h = 8) : zR 150 137 [l0, l1, l2, l3, l4] (.inr (some h) :: st) w Q = zR 150 140 [l0, l1, l2, l3, l4] (.inr (zp w 40 h) :: st) w Q := zR_go (zst zT_150_137 (zget_r hk rfl))
theorem zT_150_140 : zT 150 140 = some (.iconst 0, 1, 0, []) := by decide +kernel
theorem zr_150_140 {l0 l1 l2 l3 l4 : Option zV} {st : List zV} {w : zW} {Q : Option zV → zW → Prop}  : zR 150 140 [l0, l1, l2, l3, l4] st w Q = zR 150 141 [l0, l1, l2, l3, l4] (.inl 0 :: st) w Q := zR_go (zst zT_150_140 rfl)
theorem zT_150_141 : zT 150 141 = some (.iload_n 2, 1, 0, []) := by decide +kernel
theorem zr_150_141 {l0 l1 l3 l4 : Option zV} {x : Int} {st : List zV} {w : zW} {Q : Option zV → zW → Prop}  : zR 150 141 [l0, l1, some (.inl x), l3, l4] st w Q = zR 150 142 [l0, l1, some (.inl x), l3, l4] (.inl x :: st) w Q := zR_go (zst zT_150_141 rfl)
theorem zT_150_142 : zT 150 142 = some (.ifCond .ne 9, 3, 0, []) := by decide +kernel
theorem zr_150_142 {l0 l1 l2 l3 l4 : Option zV} {x : Int} {st : List zV} {w : zW} {Q : Option zV → zW → Prop}  : zR 150 142 [l0, l1, l2, l3, l4] (.inl x :: st) w Q = (if zN x ≠ 0 then zR 150 151 [l0, l1, l2, l3, l4] st w Q else zR 150 145 [l0, l1, l2, l3, l4] st w Q) := zR_if (zstB zT_150_142 rfl) (by simp [zcmp])
theorem zT_150_145 : zT 150 145 = some (.sipush 255, 3, 0, []) := by decide +kernel
theorem zr_150_145 {l0 l1 l2 l3 l4 : Option zV} {st : List zV} {w : zW} {Q : Option zV → zW → Prop}  : zR 150 145 [l0, l1, l2, l3, l4] st w Q = zR 150 148 [l0, l1, l2, l3, l4] (.inl 255 :: st) w Q := zR_go (zst zT_150_145 rfl)
theorem zT_150_148 : zT 150 148 = some (.goto 8, 3, 0, []) := by decide +kernel
theorem zr_150_148 {l0 l1 l2 l3 l4 : Option zV} {st : List zV} {w : zW} {Q : Option zV → zW → Prop}  : zR 150 148 [l0, l1, l2, l3, l4] st w Q = zR 150 156 [l0, l1, l2, l3, l4] st w Q := zR_go (zst zT_150_148 rfl)
theorem zT_150_151 : zT 150 151 = some (.sipush 128, 3, 0, []) := by decide +kernel
theorem zr_150_151 {l0 l1 l2 l3 l4 : Option zV} {st : List zV} {w : zW} {Q : Option zV → zW → Prop}  : zR 150 151 [l0, l1, l2, l3, l4] st w Q = zR 150 154 [l0, l1, l2, l3, l4] (.inl 128 :: st) w Q := zR_go (zst zT_150_151 rfl)
theorem zT_150_154 : zT 150 154 = some (.iload_n 2, 1, 0, []) := by decide +kernel
theorem zr_150_154 {l0 l1 l3 l4 : Option zV} {x : Int} {st : List zV} {w : zW} {Q : Option zV → zW → Prop}  : zR 150 154 [l0, l1, some (.inl x), l3, l4] st w Q = zR 150 155 [l0, l1, some (.inl x), l3, l4] (.inl x :: st) w Q := zR_go (zst zT_150_154 rfl)
theorem zT_150_155 : zT 150 155 = some (.iadd, 1, 0, []) := by decide +kernel
theorem zr_150_155 {l0 l1 l2 l3 l4 : Option zV} {x y : Int} {st : List zV} {w : zW} {Q : Option zV → zW → Prop}  : zR 150 155 [l0, l1, l2, l3, l4] (.inl y :: .inl x :: st) w Q = zR 150 156 [l0, l1, l2, l3, l4] (.inl (x + y) :: st) w Q := zR_go (zst zT_150_155 rfl)
theorem zT_150_156 : zT 150 156 = some (.iastore, 1, 0, []) := by decide +kernel
theorem zr_150_156 {l0 l1 l2 l3 l4 : Option zV} {j x : Int} {h : Nat} {st : List zV} {w : zW} {Q : Option zV → zW → Prop} (hk : zk w h = zNC ∧ 0 ≤ zN j ∧ zN j < zl w h) : zR 150 156 [l0, l1, l2, l3, l4] (.inl x :: .inl j :: .inr (some h) :: st) w Q = zR 150 157 [l0, l1, l2, l3, l4] st (zsa w h (zN j).toNat x) Q := zR_go (zst zT_150_156 (if_pos hk))
theorem zT_150_157 : zT 150 157 = some (.aload_n 0, 1, 0, []) := by decide +kernel
theorem zr_150_157 {l1 l2 l3 l4 : Option zV} {x : Option Nat} {st : List zV} {w : zW} {Q : Option zV → zW → Prop}  : zR 150 157 [some (.inr x), l1, l2, l3, l4] st w Q = zR 150 158 [some (.inr x), l1, l2, l3, l4] (.inr x :: st) w Q := zR_go (zst zT_150_157 rfl)
theorem zT_150_158 : zT 150 158 = some (.aload_n 1, 1, 0, []) := by decide +kernel
theorem zr_150_158 {l0 l2 l3 l4 : Option zV} {x : Option Nat} {st : List zV} {w : zW} {Q : Option zV → zW → Prop}  : zR 150 158 [l0, some (.inr x), l2, l3, l4] st w Q = zR 150 159 [l0, some (.inr x), l2, l3, l4] (.inr x :: st) w Q := zR_go (zst zT_150_158 rfl)
theorem zT_150_159 : zT 150 159 = some (.getfield 104, 3, 0, [(9, 0)]) := by decide +kernel
theorem zr_150_159 {l0 l1 l2 l3 l4 : Option zV} {h : Nat} {st : List zV} {w : zW} {Q : Option zV → zW → Prop} (hk : zk w h = 9) : zR 150 159 [l0, l1, l2, l3, l4] (.inr (some h) :: st) w Q = zR 150 162 [l0, l1, l2, l3, l4] (.inl (zf w 58 h) :: st) w Q := zR_go (zst zT_150_159 (zget_i hk (Or.inl rfl)))
theorem zT_150_162 : zT 150 162 = some (.aload_n 1, 1, 0, []) := by decide +kernel
theorem zr_150_162 {l0 l2 l3 l4 : Option zV} {x : Option Nat} {st : List zV} {w : zW} {Q : Option zV → zW → Prop}  : zR 150 162 [l0, some (.inr x), l2, l3, l4] st w Q = zR 150 163 [l0, some (.inr x), l2, l3, l4] (.inr x :: st) w Q := zR_go (zst zT_150_162 rfl)
theorem zT_150_163 : zT 150 163 = some (.invokevirtual 107, 3, 0, [(9, 125)]) := by decide +kernel
theorem zr_150_163 {l0 l1 l2 l3 l4 : Option zV} {h : Nat} {st : List zV} {w : zW} {Q : Option zV → zW → Prop} (hs : st.length ≤ 8) (hk : zk w h = 9) : zR 150 163 [l0, l1, l2, l3, l4] (.inr (some h) :: st) w Q = zR 125 0 [some (.inr (some h))] [] w (fun r w2 => zR 150 166 [l0, l1, l2, l3, l4] (r.toList ++ st) w2 Q) := zR_call (zst zT_150_163 (zcall_v [] rfl hs hk rfl))
theorem zT_150_166 : zT 150 166 = some (.aload_n 0, 1, 0, []) := by decide +kernel
theorem zr_150_166 {l1 l2 l3 l4 : Option zV} {x : Option Nat} {st : List zV} {w : zW} {Q : Option zV → zW → Prop}  : zR 150 166 [some (.inr x), l1, l2, l3, l4] st w Q = zR 150 167 [some (.inr x), l1, l2, l3, l4] (.inr x :: st) w Q := zR_go (zst zT_150_166 rfl)
theorem zT_150_167 : zT 150 167 = some (.getfield 25, 3, 0, [(4, 9), (8, 8)]) := by decide +kernel
theorem zr_150_167c4 {l0 l1 l2 l3 l4 : Option zV} {h : Nat} {st : List zV} {w : zW} {Q : Option zV → zW → Prop} (hk : zk w h = 4) : zR 150 167 [l0, l1, l2, l3, l4] (.inr (some h) :: st) w Q = zR 150 170 [l0, l1, l2, l3, l4] (.inr (zp w 40 h) :: st) w Q := zR_go (zst zT_150_167 (zget_r hk rfl))
theorem zr_150_167c8 {l0 l1 l2 l3 l4 : Option zV} {h : Nat} {st : List zV} {w : zW} {Q : Option zV → zW → Prop} (hk : zk w h = 8) : zR 150 167 [l0, l1, l2, l3, l4] (.inr (some h) :: st) w Q = zR 150 170 [l0, l1, l2, l3, l4] (.inr (zp w 40 h) :: st) w Q := zR_go (zst zT_150_167 (zget_r hk rfl))
theorem zT_150_170 : zT 150 170 = some (.iload 4, 2, 0, []) := by decide +kernel
theorem zr_150_170 {l0 l1 l2 l3 : Option zV} {x : Int} {st : List zV} {w : zW} {Q : Option zV → zW → Prop}  : zR 150 170 [l0, l1, l2, l3, some (.inl x)] st w Q = zR 150 172 [l0, l1, l2, l3, some (.inl x)] (.inl x :: st) w Q := zR_go (zst zT_150_170 rfl)
theorem zT_150_172 : zT 150 172 = some (.invokevirtual 71, 3, 4, [(4, 114), (8, 114)]) := by decide +kernel
theorem zr_150_172c4 {l0 l1 l2 l3 l4 : Option zV} {a0 a1 a2 a3 : zV} {h : Nat} {st : List zV} {w : zW} {Q : Option zV → zW → Prop} (hs : st.length ≤ 8) (hk : zk w h = 4) : zR 150 172 [l0, l1, l2, l3, l4] (a3 :: a2 :: a1 :: a0 :: .inr (some h) :: st) w Q = zR 114 0 [some (.inr (some h)), some a0, some a1, some a2, some a3, none, none, none, none, none] [] w (fun r w2 => zR 150 175 [l0, l1, l2, l3, l4] (r.toList ++ st) w2 Q) := zR_call (zst zT_150_172 (zcall_v [a3, a2, a1, a0] rfl hs hk rfl))
theorem zr_150_172c8 {l0 l1 l2 l3 l4 : Option zV} {a0 a1 a2 a3 : zV} {h : Nat} {st : List zV} {w : zW} {Q : Option zV → zW → Prop} (hs : st.length ≤ 8) (hk : zk w h = 8) : zR 150 172 [l0, l1, l2, l3, l4] (a3 :: a2 :: a1 :: a0 :: .inr (some h) :: st) w Q = zR 114 0 [some (.inr (some h)), some a0, some a1, some a2, some a3, none, none, none, none, none] [] w (fun r w2 => zR 150 175 [l0, l1, l2, l3, l4] (r.toList ++ st) w2 Q) := zR_call (zst zT_150_172 (zcall_v [a3, a2, a1, a0] rfl hs hk rfl))
theorem zT_150_175 : zT 150 175 = some (.return_, 1, 0, []) := by decide +kernel
theorem zr_150_175 {l0 l1 l2 l3 l4 : Option zV} {w : zW} {Q : Option zV → zW → Prop} : zR 150 175 [l0, l1, l2, l3, l4] [] w Q = Q none w := zR_ret (zst zT_150_175 rfl)
theorem zT_151_0 : zT 151 0 = some (.aload_n 0, 1, 0, []) := by decide +kernel
theorem zr_151_0 {l1 l2 l3 l4 : Option zV} {x : Option Nat} {st : List zV} {w : zW} {Q : Option zV → zW → Prop}  : zR 151 0 [some (.inr x), l1, l2, l3, l4] st w Q = zR 151 1 [some (.inr x), l1, l2, l3, l4] (.inr x :: st) w Q := zR_go (zst zT_151_0 rfl)
theorem zT_151_1 : zT 151 1 = some (.getfield 85, 3, 0, [(9, 3)]) := by decide +kernel
theorem zr_151_1 {l0 l1 l2 l3 l4 : Option zV} {h : Nat} {st : List zV} {w : zW} {Q : Option zV → zW → Prop} (hk : zk w h = 9) : zR 151 1 [l0, l1, l2, l3, l4] (.inr (some h) :: st) w Q = zR 151 4 [l0, l1, l2, l3, l4] (.inr (zp w 61 h) :: st) w Q := zR_go (zst zT_151_1 (zget_r hk rfl))
theorem zT_151_4 : zT 151 4 = some (.iconst 0, 1, 0, []) := by decide +kernel
theorem zr_151_4 {l0 l1 l2 l3 l4 : Option zV} {st : List zV} {w : zW} {Q : Option zV → zW → Prop}  : zR 151 4 [l0, l1, l2, l3, l4] st w Q = zR 151 5 [l0, l1, l2, l3, l4] (.inl 0 :: st) w Q := zR_go (zst zT_151_4 rfl)
theorem zT_151_5 : zT 151 5 = some (.iaload, 1, 0, []) := by decide +kernel
theorem zr_151_5 {l0 l1 l2 l3 l4 : Option zV} {j : Int} {h : Nat} {st : List zV} {w : zW} {Q : Option zV → zW → Prop} (hk : (zk w h = zNC ∨ zk w h = zNC + 2) ∧ 0 ≤ zN j ∧ zN j < zl w h) : zR 151 5 [l0, l1, l2, l3, l4] (.inl j :: .inr (some h) :: st) w Q = zR 151 6 [l0, l1, l2, l3, l4] (.inl (za w h (zN j).toNat) :: st) w Q := zR_go (zst zT_151_5 (if_pos hk))
theorem zT_151_6 : zT 151 6 = some (.istore_n 1, 1, 0, []) := by decide +kernel
theorem zr_151_6 {l0 l1 l2 l3 l4 : Option zV} {x : Int} {st : List zV} {w : zW} {Q : Option zV → zW → Prop}  : zR 151 6 [l0, l1, l2, l3, l4] (.inl x :: st) w Q = zR 151 7 [l0, some (.inl x), l2, l3, l4] st w Q := zR_go (zst zT_151_6 rfl)
theorem zT_151_7 : zT 151 7 = some (.aload_n 0, 1, 0, []) := by decide +kernel
theorem zr_151_7 {l1 l2 l3 l4 : Option zV} {x : Option Nat} {st : List zV} {w : zW} {Q : Option zV → zW → Prop}  : zR 151 7 [some (.inr x), l1, l2, l3, l4] st w Q = zR 151 8 [some (.inr x), l1, l2, l3, l4] (.inr x :: st) w Q := zR_go (zst zT_151_7 rfl)
theorem zT_151_8 : zT 151 8 = some (.getfield 85, 3, 0, [(9, 3)]) := by decide +kernel
theorem zr_151_8 {l0 l1 l2 l3 l4 : Option zV} {h : Nat} {st : List zV} {w : zW} {Q : Option zV → zW → Prop} (hk : zk w h = 9) : zR 151 8 [l0, l1, l2, l3, l4] (.inr (some h) :: st) w Q = zR 151 11 [l0, l1, l2, l3, l4] (.inr (zp w 61 h) :: st) w Q := zR_go (zst zT_151_8 (zget_r hk rfl))
theorem zT_151_11 : zT 151 11 = some (.iconst 1, 1, 0, []) := by decide +kernel
theorem zr_151_11 {l0 l1 l2 l3 l4 : Option zV} {st : List zV} {w : zW} {Q : Option zV → zW → Prop}  : zR 151 11 [l0, l1, l2, l3, l4] st w Q = zR 151 12 [l0, l1, l2, l3, l4] (.inl 1 :: st) w Q := zR_go (zst zT_151_11 rfl)
theorem zT_151_12 : zT 151 12 = some (.iaload, 1, 0, []) := by decide +kernel
theorem zr_151_12 {l0 l1 l2 l3 l4 : Option zV} {j : Int} {h : Nat} {st : List zV} {w : zW} {Q : Option zV → zW → Prop} (hk : (zk w h = zNC ∨ zk w h = zNC + 2) ∧ 0 ≤ zN j ∧ zN j < zl w h) : zR 151 12 [l0, l1, l2, l3, l4] (.inl j :: .inr (some h) :: st) w Q = zR 151 13 [l0, l1, l2, l3, l4] (.inl (za w h (zN j).toNat) :: st) w Q := zR_go (zst zT_151_12 (if_pos hk))
theorem zT_151_13 : zT 151 13 = some (.istore_n 2, 1, 0, []) := by decide +kernel
theorem zr_151_13 {l0 l1 l2 l3 l4 : Option zV} {x : Int} {st : List zV} {w : zW} {Q : Option zV → zW → Prop}  : zR 151 13 [l0, l1, l2, l3, l4] (.inl x :: st) w Q = zR 151 14 [l0, l1, some (.inl x), l3, l4] st w Q := zR_go (zst zT_151_13 rfl)
theorem zT_151_14 : zT 151 14 = some (.aload_n 0, 1, 0, []) := by decide +kernel
theorem zr_151_14 {l1 l2 l3 l4 : Option zV} {x : Option Nat} {st : List zV} {w : zW} {Q : Option zV → zW → Prop}  : zR 151 14 [some (.inr x), l1, l2, l3, l4] st w Q = zR 151 15 [some (.inr x), l1, l2, l3, l4] (.inr x :: st) w Q := zR_go (zst zT_151_14 rfl)
theorem zT_151_15 : zT 151 15 = some (.getfield 101, 3, 0, [(9, 2)]) := by decide +kernel
theorem zr_151_15 {l0 l1 l2 l3 l4 : Option zV} {h : Nat} {st : List zV} {w : zW} {Q : Option zV → zW → Prop} (hk : zk w h = 9) : zR 151 15 [l0, l1, l2, l3, l4] (.inr (some h) :: st) w Q = zR 151 18 [l0, l1, l2, l3, l4] (.inl (zf w 60 h) :: st) w Q := zR_go (zst zT_151_15 (zget_i hk (Or.inl rfl)))
theorem zT_151_18 : zT 151 18 = some (.istore_n 3, 1, 0, []) := by decide +kernel
theorem zr_151_18 {l0 l1 l2 l3 l4 : Option zV} {x : Int} {st : List zV} {w : zW} {Q : Option zV → zW → Prop}  : zR 151 18 [l0, l1, l2, l3, l4] (.inl x :: st) w Q = zR 151 19 [l0, l1, l2, some (.inl x), l4] st w Q := zR_go (zst zT_151_18 rfl)
theorem zT_151_19 : zT 151 19 = some (.iload_n 1, 1, 0, []) := by decide +kernel
theorem zr_151_19 {l0 l2 l3 l4 : Option zV} {x : Int} {st : List zV} {w : zW} {Q : Option zV → zW → Prop}  : zR 151 19 [l0, some (.inl x), l2, l3, l4] st w Q = zR 151 20 [l0, some (.inl x), l2, l3, l4] (.inl x :: st) w Q := zR_go (zst zT_151_19 rfl)
theorem zT_151_20 : zT 151 20 = some (.tableswitch 122 1 5 #[36, 51, 67, 82, 110], 36, 0, []) := by decide +kernel
theorem zr_151_20k0 {l0 l1 l2 l3 l4 : Option zV} {x : Int} {st : List zV} {w : zW} {Q : Option zV → zW → Prop} (hx : zN x = 1) : zR 151 20 [l0, l1, l2, l3, l4] (.inl x :: st) w Q = zR 151 56 [l0, l1, l2, l3, l4] st w Q := zR_go (zst zT_151_20 (by simp [zins, zi_table, zgo, zto, hx]))
theorem zr_151_20k1 {l0 l1 l2 l3 l4 : Option zV} {x : Int} {st : List zV} {w : zW} {Q : Option zV → zW → Prop} (hx : zN x = 2) : zR 151 20 [l0, l1, l2, l3, l4] (.inl x :: st) w Q = zR 151 71 [l0, l1, l2, l3, l4] st w Q := zR_go (zst zT_151_20 (by simp [zins, zi_table, zgo, zto, hx]))
theorem zr_151_20k2 {l0 l1 l2 l3 l4 : Option zV} {x : Int} {st : List zV} {w : zW} {Q : Option zV → zW → Prop} (hx : zN x = 3) : zR 151 20 [l0, l1, l2, l3, l4] (.inl x :: st) w Q = zR 151 87 [l0, l1, l2, l3, l4] st w Q := zR_go (zst zT_151_20 (by simp [zins, zi_table, zgo, zto, hx]))
theorem zr_151_20k3 {l0 l1 l2 l3 l4 : Option zV} {x : Int} {st : List zV} {w : zW} {Q : Option zV → zW → Prop} (hx : zN x = 4) : zR 151 20 [l0, l1, l2, l3, l4] (.inl x :: st) w Q = zR 151 102 [l0, l1, l2, l3, l4] st w Q := zR_go (zst zT_151_20 (by simp [zins, zi_table, zgo, zto, hx]))
theorem zr_151_20k4 {l0 l1 l2 l3 l4 : Option zV} {x : Int} {st : List zV} {w : zW} {Q : Option zV → zW → Prop} (hx : zN x = 5) : zR 151 20 [l0, l1, l2, l3, l4] (.inl x :: st) w Q = zR 151 130 [l0, l1, l2, l3, l4] st w Q := zR_go (zst zT_151_20 (by simp [zins, zi_table, zgo, zto, hx]))
theorem zr_151_20d {l0 l1 l2 l3 l4 : Option zV} {x : Int} {st : List zV} {w : zW} {Q : Option zV → zW → Prop} (hx : zN x < 1 ∨ 5 < zN x) : zR 151 20 [l0, l1, l2, l3, l4] (.inl x :: st) w Q = zR 151 142 [l0, l1, l2, l3, l4] st w Q := zR_go (zst zT_151_20 (by simp [zins, zi_table, zgo, zto, hx]))
theorem zT_151_56 : zT 151 56 = some (.iload_n 3, 1, 0, []) := by decide +kernel
theorem zr_151_56 {l0 l1 l2 l4 : Option zV} {x : Int} {st : List zV} {w : zW} {Q : Option zV → zW → Prop}  : zR 151 56 [l0, l1, l2, some (.inl x), l4] st w Q = zR 151 57 [l0, l1, l2, some (.inl x), l4] (.inl x :: st) w Q := zR_go (zst zT_151_56 rfl)
theorem zT_151_57 : zT 151 57 = some (.iconst 1, 1, 0, []) := by decide +kernel
theorem zr_151_57 {l0 l1 l2 l3 l4 : Option zV} {st : List zV} {w : zW} {Q : Option zV → zW → Prop}  : zR 151 57 [l0, l1, l2, l3, l4] st w Q = zR 151 58 [l0, l1, l2, l3, l4] (.inl 1 :: st) w Q := zR_go (zst zT_151_57 rfl)
theorem zT_151_58 : zT 151 58 = some (.if_icmp .ne 7, 3, 0, []) := by decide +kernel
theorem zr_151_58 {l0 l1 l2 l3 l4 : Option zV} {x y : Int} {st : List zV} {w : zW} {Q : Option zV → zW → Prop}  : zR 151 58 [l0, l1, l2, l3, l4] (.inl y :: .inl x :: st) w Q = (if zN x ≠ zN y then zR 151 65 [l0, l1, l2, l3, l4] st w Q else zR 151 61 [l0, l1, l2, l3, l4] st w Q) := zR_if (zstB zT_151_58 rfl) (by simp [zcmp])
theorem zT_151_61 : zT 151 61 = some (.iconst 1, 1, 0, []) := by decide +kernel
theorem zr_151_61 {l0 l1 l2 l3 l4 : Option zV} {st : List zV} {w : zW} {Q : Option zV → zW → Prop}  : zR 151 61 [l0, l1, l2, l3, l4] st w Q = zR 151 62 [l0, l1, l2, l3, l4] (.inl 1 :: st) w Q := zR_go (zst zT_151_61 rfl)
theorem zT_151_62 : zT 151 62 = some (.goto 4, 3, 0, []) := by decide +kernel
theorem zr_151_62 {l0 l1 l2 l3 l4 : Option zV} {st : List zV} {w : zW} {Q : Option zV → zW → Prop}  : zR 151 62 [l0, l1, l2, l3, l4] st w Q = zR 151 66 [l0, l1, l2, l3, l4] st w Q := zR_go (zst zT_151_62 rfl)
theorem zT_151_65 : zT 151 65 = some (.iconst 0, 1, 0, []) := by decide +kernel
theorem zr_151_65 {l0 l1 l2 l3 l4 : Option zV} {st : List zV} {w : zW} {Q : Option zV → zW → Prop}  : zR 151 65 [l0, l1, l2, l3, l4] st w Q = zR 151 66 [l0, l1, l2, l3, l4] (.inl 0 :: st) w Q := zR_go (zst zT_151_65 rfl)
theorem zT_151_66 : zT 151 66 = some (.istore 4, 2, 0, []) := by decide +kernel
theorem zr_151_66 {l0 l1 l2 l3 l4 : Option zV} {x : Int} {st : List zV} {w : zW} {Q : Option zV → zW → Prop}  : zR 151 66 [l0, l1, l2, l3, l4] (.inl x :: st) w Q = zR 151 68 [l0, l1, l2, l3, some (.inl x)] st w Q := zR_go (zst zT_151_66 rfl)
theorem zT_151_68 : zT 151 68 = some (.goto 77, 3, 0, []) := by decide +kernel
theorem zr_151_68 {l0 l1 l2 l3 l4 : Option zV} {st : List zV} {w : zW} {Q : Option zV → zW → Prop}  : zR 151 68 [l0, l1, l2, l3, l4] st w Q = zR 151 145 [l0, l1, l2, l3, l4] st w Q := zR_go (zst zT_151_68 rfl)
theorem zT_151_71 : zT 151 71 = some (.iload_n 3, 1, 0, []) := by decide +kernel
theorem zr_151_71 {l0 l1 l2 l4 : Option zV} {x : Int} {st : List zV} {w : zW} {Q : Option zV → zW → Prop}  : zR 151 71 [l0, l1, l2, some (.inl x), l4] st w Q = zR 151 72 [l0, l1, l2, some (.inl x), l4] (.inl x :: st) w Q := zR_go (zst zT_151_71 rfl)
theorem zT_151_72 : zT 151 72 = some (.bipush 6, 2, 0, []) := by decide +kernel
theorem zr_151_72 {l0 l1 l2 l3 l4 : Option zV} {st : List zV} {w : zW} {Q : Option zV → zW → Prop}  : zR 151 72 [l0, l1, l2, l3, l4] st w Q = zR 151 74 [l0, l1, l2, l3, l4] (.inl 6 :: st) w Q := zR_go (zst zT_151_72 rfl)
theorem zT_151_74 : zT 151 74 = some (.if_icmp .ne 7, 3, 0, []) := by decide +kernel
theorem zr_151_74 {l0 l1 l2 l3 l4 : Option zV} {x y : Int} {st : List zV} {w : zW} {Q : Option zV → zW → Prop}  : zR 151 74 [l0, l1, l2, l3, l4] (.inl y :: .inl x :: st) w Q = (if zN x ≠ zN y then zR 151 81 [l0, l1, l2, l3, l4] st w Q else zR 151 77 [l0, l1, l2, l3, l4] st w Q) := zR_if (zstB zT_151_74 rfl) (by simp [zcmp])
theorem zT_151_77 : zT 151 77 = some (.iconst 1, 1, 0, []) := by decide +kernel
theorem zr_151_77 {l0 l1 l2 l3 l4 : Option zV} {st : List zV} {w : zW} {Q : Option zV → zW → Prop}  : zR 151 77 [l0, l1, l2, l3, l4] st w Q = zR 151 78 [l0, l1, l2, l3, l4] (.inl 1 :: st) w Q := zR_go (zst zT_151_77 rfl)
theorem zT_151_78 : zT 151 78 = some (.goto 4, 3, 0, []) := by decide +kernel
theorem zr_151_78 {l0 l1 l2 l3 l4 : Option zV} {st : List zV} {w : zW} {Q : Option zV → zW → Prop}  : zR 151 78 [l0, l1, l2, l3, l4] st w Q = zR 151 82 [l0, l1, l2, l3, l4] st w Q := zR_go (zst zT_151_78 rfl)
theorem zT_151_81 : zT 151 81 = some (.iconst 0, 1, 0, []) := by decide +kernel
theorem zr_151_81 {l0 l1 l2 l3 l4 : Option zV} {st : List zV} {w : zW} {Q : Option zV → zW → Prop}  : zR 151 81 [l0, l1, l2, l3, l4] st w Q = zR 151 82 [l0, l1, l2, l3, l4] (.inl 0 :: st) w Q := zR_go (zst zT_151_81 rfl)
theorem zT_151_82 : zT 151 82 = some (.istore 4, 2, 0, []) := by decide +kernel
theorem zr_151_82 {l0 l1 l2 l3 l4 : Option zV} {x : Int} {st : List zV} {w : zW} {Q : Option zV → zW → Prop}  : zR 151 82 [l0, l1, l2, l3, l4] (.inl x :: st) w Q = zR 151 84 [l0, l1, l2, l3, some (.inl x)] st w Q := zR_go (zst zT_151_82 rfl)
theorem zT_151_84 : zT 151 84 = some (.goto 61, 3, 0, []) := by decide +kernel
theorem zr_151_84 {l0 l1 l2 l3 l4 : Option zV} {st : List zV} {w : zW} {Q : Option zV → zW → Prop}  : zR 151 84 [l0, l1, l2, l3, l4] st w Q = zR 151 145 [l0, l1, l2, l3, l4] st w Q := zR_go (zst zT_151_84 rfl)
theorem zT_151_87 : zT 151 87 = some (.iload_n 3, 1, 0, []) := by decide +kernel
theorem zr_151_87 {l0 l1 l2 l4 : Option zV} {x : Int} {st : List zV} {w : zW} {Q : Option zV → zW → Prop}  : zR 151 87 [l0, l1, l2, some (.inl x), l4] st w Q = zR 151 88 [l0, l1, l2, some (.inl x), l4] (.inl x :: st) w Q := zR_go (zst zT_151_87 rfl)
theorem zT_151_88 : zT 151 88 = some (.iconst 2, 1, 0, []) := by decide +kernel
theorem zr_151_88 {l0 l1 l2 l3 l4 : Option zV} {st : List zV} {w : zW} {Q : Option zV → zW → Prop}  : zR 151 88 [l0, l1, l2, l3, l4] st w Q = zR 151 89 [l0, l1, l2, l3, l4] (.inl 2 :: st) w Q := zR_go (zst zT_151_88 rfl)
theorem zT_151_89 : zT 151 89 = some (.if_icmp .ne 7, 3, 0, []) := by decide +kernel
theorem zr_151_89 {l0 l1 l2 l3 l4 : Option zV} {x y : Int} {st : List zV} {w : zW} {Q : Option zV → zW → Prop}  : zR 151 89 [l0, l1, l2, l3, l4] (.inl y :: .inl x :: st) w Q = (if zN x ≠ zN y then zR 151 96 [l0, l1, l2, l3, l4] st w Q else zR 151 92 [l0, l1, l2, l3, l4] st w Q) := zR_if (zstB zT_151_89 rfl) (by simp [zcmp])
theorem zT_151_92 : zT 151 92 = some (.iconst 1, 1, 0, []) := by decide +kernel
theorem zr_151_92 {l0 l1 l2 l3 l4 : Option zV} {st : List zV} {w : zW} {Q : Option zV → zW → Prop}  : zR 151 92 [l0, l1, l2, l3, l4] st w Q = zR 151 93 [l0, l1, l2, l3, l4] (.inl 1 :: st) w Q := zR_go (zst zT_151_92 rfl)
theorem zT_151_93 : zT 151 93 = some (.goto 4, 3, 0, []) := by decide +kernel
theorem zr_151_93 {l0 l1 l2 l3 l4 : Option zV} {st : List zV} {w : zW} {Q : Option zV → zW → Prop}  : zR 151 93 [l0, l1, l2, l3, l4] st w Q = zR 151 97 [l0, l1, l2, l3, l4] st w Q := zR_go (zst zT_151_93 rfl)
theorem zT_151_96 : zT 151 96 = some (.iconst 0, 1, 0, []) := by decide +kernel
theorem zr_151_96 {l0 l1 l2 l3 l4 : Option zV} {st : List zV} {w : zW} {Q : Option zV → zW → Prop}  : zR 151 96 [l0, l1, l2, l3, l4] st w Q = zR 151 97 [l0, l1, l2, l3, l4] (.inl 0 :: st) w Q := zR_go (zst zT_151_96 rfl)
theorem zT_151_97 : zT 151 97 = some (.istore 4, 2, 0, []) := by decide +kernel
theorem zr_151_97 {l0 l1 l2 l3 l4 : Option zV} {x : Int} {st : List zV} {w : zW} {Q : Option zV → zW → Prop}  : zR 151 97 [l0, l1, l2, l3, l4] (.inl x :: st) w Q = zR 151 99 [l0, l1, l2, l3, some (.inl x)] st w Q := zR_go (zst zT_151_97 rfl)
theorem zT_151_99 : zT 151 99 = some (.goto 46, 3, 0, []) := by decide +kernel
theorem zr_151_99 {l0 l1 l2 l3 l4 : Option zV} {st : List zV} {w : zW} {Q : Option zV → zW → Prop}  : zR 151 99 [l0, l1, l2, l3, l4] st w Q = zR 151 145 [l0, l1, l2, l3, l4] st w Q := zR_go (zst zT_151_99 rfl)
theorem zT_151_102 : zT 151 102 = some (.iload_n 3, 1, 0, []) := by decide +kernel
theorem zr_151_102 {l0 l1 l2 l4 : Option zV} {x : Int} {st : List zV} {w : zW} {Q : Option zV → zW → Prop}  : zR 151 102 [l0, l1, l2, some (.inl x), l4] st w Q = zR 151 103 [l0, l1, l2, some (.inl x), l4] (.inl x :: st) w Q := zR_go (zst zT_151_102 rfl)
theorem zT_151_103 : zT 151 103 = some (.iconst 3, 1, 0, []) := by decide +kernel
theorem zr_151_103 {l0 l1 l2 l3 l4 : Option zV} {st : List zV} {w : zW} {Q : Option zV → zW → Prop}  : zR 151 103 [l0, l1, l2, l3, l4] st w Q = zR 151 104 [l0, l1, l2, l3, l4] (.inl 3 :: st) w Q := zR_go (zst zT_151_103 rfl)
theorem zT_151_104 : zT 151 104 = some (.if_icmp .ne 20, 3, 0, []) := by decide +kernel
theorem zr_151_104 {l0 l1 l2 l3 l4 : Option zV} {x y : Int} {st : List zV} {w : zW} {Q : Option zV → zW → Prop}  : zR 151 104 [l0, l1, l2, l3, l4] (.inl y :: .inl x :: st) w Q = (if zN x ≠ zN y then zR 151 124 [l0, l1, l2, l3, l4] st w Q else zR 151 107 [l0, l1, l2, l3, l4] st w Q) := zR_if (zstB zT_151_104 rfl) (by simp [zcmp])
theorem zT_151_107 : zT 151 107 = some (.iload_n 2, 1, 0, []) := by decide +kernel
theorem zr_151_107 {l0 l1 l3 l4 : Option zV} {x : Int} {st : List zV} {w : zW} {Q : Option zV → zW → Prop}  : zR 151 107 [l0, l1, some (.inl x), l3, l4] st w Q = zR 151 108 [l0, l1, some (.inl x), l3, l4] (.inl x :: st) w Q := zR_go (zst zT_151_107 rfl)
theorem zT_151_108 : zT 151 108 = some (.aload_n 0, 1, 0, []) := by decide +kernel
theorem zr_151_108 {l1 l2 l3 l4 : Option zV} {x : Option Nat} {st : List zV} {w : zW} {Q : Option zV → zW → Prop}  : zR 151 108 [some (.inr x), l1, l2, l3, l4] st w Q = zR 151 109 [some (.inr x), l1, l2, l3, l4] (.inr x :: st) w Q := zR_go (zst zT_151_108 rfl)
theorem zT_151_109 : zT 151 109 = some (.getfield 85, 3, 0, [(9, 3)]) := by decide +kernel
theorem zr_151_109 {l0 l1 l2 l3 l4 : Option zV} {h : Nat} {st : List zV} {w : zW} {Q : Option zV → zW → Prop} (hk : zk w h = 9) : zR 151 109 [l0, l1, l2, l3, l4] (.inr (some h) :: st) w Q = zR 151 112 [l0, l1, l2, l3, l4] (.inr (zp w 61 h) :: st) w Q := zR_go (zst zT_151_109 (zget_r hk rfl))
theorem zT_151_112 : zT 151 112 = some (.iconst 2, 1, 0, []) := by decide +kernel
theorem zr_151_112 {l0 l1 l2 l3 l4 : Option zV} {st : List zV} {w : zW} {Q : Option zV → zW → Prop}  : zR 151 112 [l0, l1, l2, l3, l4] st w Q = zR 151 113 [l0, l1, l2, l3, l4] (.inl 2 :: st) w Q := zR_go (zst zT_151_112 rfl)
theorem zT_151_113 : zT 151 113 = some (.iaload, 1, 0, []) := by decide +kernel
theorem zr_151_113 {l0 l1 l2 l3 l4 : Option zV} {j : Int} {h : Nat} {st : List zV} {w : zW} {Q : Option zV → zW → Prop} (hk : (zk w h = zNC ∨ zk w h = zNC + 2) ∧ 0 ≤ zN j ∧ zN j < zl w h) : zR 151 113 [l0, l1, l2, l3, l4] (.inl j :: .inr (some h) :: st) w Q = zR 151 114 [l0, l1, l2, l3, l4] (.inl (za w h (zN j).toNat) :: st) w Q := zR_go (zst zT_151_113 (if_pos hk))
theorem zT_151_114 : zT 151 114 = some (.invokestatic 110, 3, 2, [(152, 1)]) := by decide +kernel
theorem zr_151_114 {l0 l1 l2 l3 l4 : Option zV} {a0 a1 : zV} {st : List zV} {w : zW} {Q : Option zV → zW → Prop} (hs : st.length ≤ 8) : zR 151 114 [l0, l1, l2, l3, l4] (a1 :: a0 :: st) w Q = zR 152 0 [some a0, some a1] [] w (fun r w2 => zR 151 117 [l0, l1, l2, l3, l4] (r.toList ++ st) w2 Q) := zR_call (zst zT_151_114 ((zcall_s (z := 2) (pc := 114) (j := 152) (ls := [l0, l1, l2, l3, l4]) (w := w) [a1, a0] rfl hs : zi_static 2 [(152, 1)] 114 [l0, l1, l2, l3, l4] ([a1, a0] ++ st) w = _)))
theorem zT_151_117 : zT 151 117 = some (.ifCond .eq 7, 3, 0, []) := by decide +kernel
theorem zr_151_117 {l0 l1 l2 l3 l4 : Option zV} {x : Int} {st : List zV} {w : zW} {Q : Option zV → zW → Prop}  : zR 151 117 [l0, l1, l2, l3, l4] (.inl x :: st) w Q = (if zN x = 0 then zR 151 124 [l0, l1, l2, l3, l4] st w Q else zR 151 120 [l0, l1, l2, l3, l4] st w Q) := zR_if (zstB zT_151_117 rfl) (by simp [zcmp])
theorem zT_151_120 : zT 151 120 = some (.iconst 1, 1, 0, []) := by decide +kernel
theorem zr_151_120 {l0 l1 l2 l3 l4 : Option zV} {st : List zV} {w : zW} {Q : Option zV → zW → Prop}  : zR 151 120 [l0, l1, l2, l3, l4] st w Q = zR 151 121 [l0, l1, l2, l3, l4] (.inl 1 :: st) w Q := zR_go (zst zT_151_120 rfl)
theorem zT_151_121 : zT 151 121 = some (.goto 4, 3, 0, []) := by decide +kernel
theorem zr_151_121 {l0 l1 l2 l3 l4 : Option zV} {st : List zV} {w : zW} {Q : Option zV → zW → Prop}  : zR 151 121 [l0, l1, l2, l3, l4] st w Q = zR 151 125 [l0, l1, l2, l3, l4] st w Q := zR_go (zst zT_151_121 rfl)
theorem zT_151_124 : zT 151 124 = some (.iconst 0, 1, 0, []) := by decide +kernel
theorem zr_151_124 {l0 l1 l2 l3 l4 : Option zV} {st : List zV} {w : zW} {Q : Option zV → zW → Prop}  : zR 151 124 [l0, l1, l2, l3, l4] st w Q = zR 151 125 [l0, l1, l2, l3, l4] (.inl 0 :: st) w Q := zR_go (zst zT_151_124 rfl)
theorem zT_151_125 : zT 151 125 = some (.istore 4, 2, 0, []) := by decide +kernel
theorem zr_151_125 {l0 l1 l2 l3 l4 : Option zV} {x : Int} {st : List zV} {w : zW} {Q : Option zV → zW → Prop}  : zR 151 125 [l0, l1, l2, l3, l4] (.inl x :: st) w Q = zR 151 127 [l0, l1, l2, l3, some (.inl x)] st w Q := zR_go (zst zT_151_125 rfl)
theorem zT_151_127 : zT 151 127 = some (.goto 18, 3, 0, []) := by decide +kernel
theorem zr_151_127 {l0 l1 l2 l3 l4 : Option zV} {st : List zV} {w : zW} {Q : Option zV → zW → Prop}  : zR 151 127 [l0, l1, l2, l3, l4] st w Q = zR 151 145 [l0, l1, l2, l3, l4] st w Q := zR_go (zst zT_151_127 rfl)
theorem zT_151_130 : zT 151 130 = some (.iload_n 2, 1, 0, []) := by decide +kernel
theorem zr_151_130 {l0 l1 l3 l4 : Option zV} {x : Int} {st : List zV} {w : zW} {Q : Option zV → zW → Prop}  : zR 151 130 [l0, l1, some (.inl x), l3, l4] st w Q = zR 151 131 [l0, l1, some (.inl x), l3, l4] (.inl x :: st) w Q := zR_go (zst zT_151_130 rfl)
theorem zT_151_131 : zT 151 131 = some (.iload_n 3, 1, 0, []) := by decide +kernel
theorem zr_151_131 {l0 l1 l2 l4 : Option zV} {x : Int} {st : List zV} {w : zW} {Q : Option zV → zW → Prop}  : zR 151 131 [l0, l1, l2, some (.inl x), l4] st w Q = zR 151 132 [l0, l1, l2, some (.inl x), l4] (.inl x :: st) w Q := zR_go (zst zT_151_131 rfl)
theorem zT_151_132 : zT 151 132 = some (.iconst 2, 1, 0, []) := by decide +kernel
theorem zr_151_132 {l0 l1 l2 l3 l4 : Option zV} {st : List zV} {w : zW} {Q : Option zV → zW → Prop}  : zR 151 132 [l0, l1, l2, l3, l4] st w Q = zR 151 133 [l0, l1, l2, l3, l4] (.inl 2 :: st) w Q := zR_go (zst zT_151_132 rfl)
theorem zT_151_133 : zT 151 133 = some (.isub, 1, 0, []) := by decide +kernel
theorem zr_151_133 {l0 l1 l2 l3 l4 : Option zV} {x y : Int} {st : List zV} {w : zW} {Q : Option zV → zW → Prop}  : zR 151 133 [l0, l1, l2, l3, l4] (.inl y :: .inl x :: st) w Q = zR 151 134 [l0, l1, l2, l3, l4] (.inl (x - y) :: st) w Q := zR_go (zst zT_151_133 rfl)
theorem zT_151_134 : zT 151 134 = some (.invokestatic 110, 3, 2, [(152, 1)]) := by decide +kernel
theorem zr_151_134 {l0 l1 l2 l3 l4 : Option zV} {a0 a1 : zV} {st : List zV} {w : zW} {Q : Option zV → zW → Prop} (hs : st.length ≤ 8) : zR 151 134 [l0, l1, l2, l3, l4] (a1 :: a0 :: st) w Q = zR 152 0 [some a0, some a1] [] w (fun r w2 => zR 151 137 [l0, l1, l2, l3, l4] (r.toList ++ st) w2 Q) := zR_call (zst zT_151_134 ((zcall_s (z := 2) (pc := 134) (j := 152) (ls := [l0, l1, l2, l3, l4]) (w := w) [a1, a0] rfl hs : zi_static 2 [(152, 1)] 134 [l0, l1, l2, l3, l4] ([a1, a0] ++ st) w = _)))
theorem zT_151_137 : zT 151 137 = some (.istore 4, 2, 0, []) := by decide +kernel
theorem zr_151_137 {l0 l1 l2 l3 l4 : Option zV} {x : Int} {st : List zV} {w : zW} {Q : Option zV → zW → Prop}  : zR 151 137 [l0, l1, l2, l3, l4] (.inl x :: st) w Q = zR 151 139 [l0, l1, l2, l3, some (.inl x)] st w Q := zR_go (zst zT_151_137 rfl)
theorem zT_151_139 : zT 151 139 = some (.goto 6, 3, 0, []) := by decide +kernel
theorem zr_151_139 {l0 l1 l2 l3 l4 : Option zV} {st : List zV} {w : zW} {Q : Option zV → zW → Prop}  : zR 151 139 [l0, l1, l2, l3, l4] st w Q = zR 151 145 [l0, l1, l2, l3, l4] st w Q := zR_go (zst zT_151_139 rfl)
theorem zT_151_142 : zT 151 142 = some (.iconst 0, 1, 0, []) := by decide +kernel
theorem zr_151_142 {l0 l1 l2 l3 l4 : Option zV} {st : List zV} {w : zW} {Q : Option zV → zW → Prop}  : zR 151 142 [l0, l1, l2, l3, l4] st w Q = zR 151 143 [l0, l1, l2, l3, l4] (.inl 0 :: st) w Q := zR_go (zst zT_151_142 rfl)
theorem zT_151_143 : zT 151 143 = some (.istore 4, 2, 0, []) := by decide +kernel
theorem zr_151_143 {l0 l1 l2 l3 l4 : Option zV} {x : Int} {st : List zV} {w : zW} {Q : Option zV → zW → Prop}  : zR 151 143 [l0, l1, l2, l3, l4] (.inl x :: st) w Q = zR 151 145 [l0, l1, l2, l3, some (.inl x)] st w Q := zR_go (zst zT_151_143 rfl)
theorem zT_151_145 : zT 151 145 = some (.iload 4, 2, 0, []) := by decide +kernel
theorem zr_151_145 {l0 l1 l2 l3 : Option zV} {x : Int} {st : List zV} {w : zW} {Q : Option zV → zW → Prop}  : zR 151 145 [l0, l1, l2, l3, some (.inl x)] st w Q = zR 151 147 [l0, l1, l2, l3, some (.inl x)] (.inl x :: st) w Q := zR_go (zst zT_151_145 rfl)
theorem zT_151_147 : zT 151 147 = some (.ifCond .eq 7, 3, 0, []) := by decide +kernel
theorem zr_151_147 {l0 l1 l2 l3 l4 : Option zV} {x : Int} {st : List zV} {w : zW} {Q : Option zV → zW → Prop}  : zR 151 147 [l0, l1, l2, l3, l4] (.inl x :: st) w Q = (if zN x = 0 then zR 151 154 [l0, l1, l2, l3, l4] st w Q else zR 151 150 [l0, l1, l2, l3, l4] st w Q) := zR_if (zstB zT_151_147 rfl) (by simp [zcmp])
theorem zT_151_150 : zT 151 150 = some (.iload_n 1, 1, 0, []) := by decide +kernel
theorem zr_151_150 {l0 l2 l3 l4 : Option zV} {x : Int} {st : List zV} {w : zW} {Q : Option zV → zW → Prop}  : zR 151 150 [l0, some (.inl x), l2, l3, l4] st w Q = zR 151 151 [l0, some (.inl x), l2, l3, l4] (.inl x :: st) w Q := zR_go (zst zT_151_150 rfl)
theorem zT_151_151 : zT 151 151 = some (.goto 4, 3, 0, []) := by decide +kernel
theorem zr_151_151 {l0 l1 l2 l3 l4 : Option zV} {st : List zV} {w : zW} {Q : Option zV → zW → Prop}  : zR 151 151 [l0, l1, l2, l3, l4] st w Q = zR 151 155 [l0, l1, l2, l3, l4] st w Q := zR_go (zst zT_151_151 rfl)
theorem zT_151_154 : zT 151 154 = some (.iconst 0, 1, 0, []) := by decide +kernel
theorem zr_151_154 {l0 l1 l2 l3 l4 : Option zV} {st : List zV} {w : zW} {Q : Option zV → zW → Prop}  : zR 151 154 [l0, l1, l2, l3, l4] st w Q = zR 151 155 [l0, l1, l2, l3, l4] (.inl 0 :: st) w Q := zR_go (zst zT_151_154 rfl)
theorem zT_151_155 : zT 151 155 = some (.ireturn, 1, 0, []) := by decide +kernel
theorem zr_151_155 {l0 l1 l2 l3 l4 : Option zV} {x : Int} {w : zW} {Q : Option zV → zW → Prop}  : zR 151 155 [l0, l1, l2, l3, l4] [.inl x] w Q = Q (some (.inl x)) w := zR_ret (zst zT_151_155 rfl)
theorem zT_152_0 : zT 152 0 = some (.iload_n 1, 1, 0, []) := by decide +kernel
theorem zr_152_0 {l0 : Option zV} {x : Int} {st : List zV} {w : zW} {Q : Option zV → zW → Prop}  : zR 152 0 [l0, some (.inl x)] st w Q = zR 152 1 [l0, some (.inl x)] (.inl x :: st) w Q := zR_go (zst zT_152_0 rfl)
theorem zT_152_1 : zT 152 1 = some (.iconst 1, 1, 0, []) := by decide +kernel
theorem zr_152_1 {l0 l1 : Option zV} {st : List zV} {w : zW} {Q : Option zV → zW → Prop}  : zR 152 1 [l0, l1] st w Q = zR 152 2 [l0, l1] (.inl 1 :: st) w Q := zR_go (zst zT_152_1 rfl)
theorem zT_152_2 : zT 152 2 = some (.if_icmp .lt 15, 3, 0, []) := by decide +kernel
theorem zr_152_2 {l0 l1 : Option zV} {x y : Int} {st : List zV} {w : zW} {Q : Option zV → zW → Prop}  : zR 152 2 [l0, l1] (.inl y :: .inl x :: st) w Q = (if zN x < zN y then zR 152 17 [l0, l1] st w Q else zR 152 5 [l0, l1] st w Q) := zR_if (zstB zT_152_2 rfl) (by simp [zcmp])
theorem zT_152_5 : zT 152 5 = some (.iload_n 0, 1, 0, []) := by decide +kernel
theorem zr_152_5 {l1 : Option zV} {x : Int} {st : List zV} {w : zW} {Q : Option zV → zW → Prop}  : zR 152 5 [some (.inl x), l1] st w Q = zR 152 6 [some (.inl x), l1] (.inl x :: st) w Q := zR_go (zst zT_152_5 rfl)
theorem zT_152_6 : zT 152 6 = some (.iload_n 1, 1, 0, []) := by decide +kernel
theorem zr_152_6 {l0 : Option zV} {x : Int} {st : List zV} {w : zW} {Q : Option zV → zW → Prop}  : zR 152 6 [l0, some (.inl x)] st w Q = zR 152 7 [l0, some (.inl x)] (.inl x :: st) w Q := zR_go (zst zT_152_6 rfl)
theorem zT_152_7 : zT 152 7 = some (.iadd, 1, 0, []) := by decide +kernel
theorem zr_152_7 {l0 l1 : Option zV} {x y : Int} {st : List zV} {w : zW} {Q : Option zV → zW → Prop}  : zR 152 7 [l0, l1] (.inl y :: .inl x :: st) w Q = zR 152 8 [l0, l1] (.inl (x + y) :: st) w Q := zR_go (zst zT_152_7 rfl)
theorem zT_152_8 : zT 152 8 = some (.bipush 24, 2, 0, []) := by decide +kernel
theorem zr_152_8 {l0 l1 : Option zV} {st : List zV} {w : zW} {Q : Option zV → zW → Prop}  : zR 152 8 [l0, l1] st w Q = zR 152 10 [l0, l1] (.inl 24 :: st) w Q := zR_go (zst zT_152_8 rfl)
theorem zT_152_10 : zT 152 10 = some (.if_icmp .gt 7, 3, 0, []) := by decide +kernel
theorem zr_152_10 {l0 l1 : Option zV} {x y : Int} {st : List zV} {w : zW} {Q : Option zV → zW → Prop}  : zR 152 10 [l0, l1] (.inl y :: .inl x :: st) w Q = (if zN y < zN x then zR 152 17 [l0, l1] st w Q else zR 152 13 [l0, l1] st w Q) := zR_if (zstB zT_152_10 rfl) (by simp [zcmp])
theorem zT_152_13 : zT 152 13 = some (.iconst 1, 1, 0, []) := by decide +kernel
theorem zr_152_13 {l0 l1 : Option zV} {st : List zV} {w : zW} {Q : Option zV → zW → Prop}  : zR 152 13 [l0, l1] st w Q = zR 152 14 [l0, l1] (.inl 1 :: st) w Q := zR_go (zst zT_152_13 rfl)
theorem zT_152_14 : zT 152 14 = some (.goto 4, 3, 0, []) := by decide +kernel
theorem zr_152_14 {l0 l1 : Option zV} {st : List zV} {w : zW} {Q : Option zV → zW → Prop}  : zR 152 14 [l0, l1] st w Q = zR 152 18 [l0, l1] st w Q := zR_go (zst zT_152_14 rfl)
theorem zT_152_17 : zT 152 17 = some (.iconst 0, 1, 0, []) := by decide +kernel
theorem zr_152_17 {l0 l1 : Option zV} {st : List zV} {w : zW} {Q : Option zV → zW → Prop}  : zR 152 17 [l0, l1] st w Q = zR 152 18 [l0, l1] (.inl 0 :: st) w Q := zR_go (zst zT_152_17 rfl)
theorem zT_152_18 : zT 152 18 = some (.ireturn, 1, 0, []) := by decide +kernel
theorem zr_152_18 {l0 l1 : Option zV} {x : Int} {w : zW} {Q : Option zV → zW → Prop} (hx : zN x = 0 ∨ zN x = 1) : zR 152 18 [l0, l1] [.inl x] w Q = Q (some (.inl x)) w := zR_ret (zst zT_152_18 (if_pos (Or.inr ⟨rfl, hx⟩)))
theorem zT_153_0 : zT 153 0 = some (.aload_n 0, 1, 0, []) := by decide +kernel
theorem zr_153_0 {l1 : Option zV} {x : Option Nat} {st : List zV} {w : zW} {Q : Option zV → zW → Prop}  : zR 153 0 [some (.inr x), l1] st w Q = zR 153 1 [some (.inr x), l1] (.inr x :: st) w Q := zR_go (zst zT_153_0 rfl)
theorem zT_153_1 : zT 153 1 = some (.aload_n 1, 1, 0, []) := by decide +kernel
theorem zr_153_1 {l0 : Option zV} {x : Option Nat} {st : List zV} {w : zW} {Q : Option zV → zW → Prop}  : zR 153 1 [l0, some (.inr x)] st w Q = zR 153 2 [l0, some (.inr x)] (.inr x :: st) w Q := zR_go (zst zT_153_1 rfl)
theorem zT_153_2 : zT 153 2 = some (.iconst 1, 1, 0, []) := by decide +kernel
theorem zr_153_2 {l0 l1 : Option zV} {st : List zV} {w : zW} {Q : Option zV → zW → Prop}  : zR 153 2 [l0, l1] st w Q = zR 153 3 [l0, l1] (.inl 1 :: st) w Q := zR_go (zst zT_153_2 rfl)
theorem zT_153_3 : zT 153 3 = some (.iaload, 1, 0, []) := by decide +kernel
theorem zr_153_3 {l0 l1 : Option zV} {j : Int} {h : Nat} {st : List zV} {w : zW} {Q : Option zV → zW → Prop} (hk : (zk w h = zNC ∨ zk w h = zNC + 2) ∧ 0 ≤ zN j ∧ zN j < zl w h) : zR 153 3 [l0, l1] (.inl j :: .inr (some h) :: st) w Q = zR 153 4 [l0, l1] (.inl (za w h (zN j).toNat) :: st) w Q := zR_go (zst zT_153_3 (if_pos hk))
theorem zT_153_4 : zT 153 4 = some (.aload_n 1, 1, 0, []) := by decide +kernel
theorem zr_153_4 {l0 : Option zV} {x : Option Nat} {st : List zV} {w : zW} {Q : Option zV → zW → Prop}  : zR 153 4 [l0, some (.inr x)] st w Q = zR 153 5 [l0, some (.inr x)] (.inr x :: st) w Q := zR_go (zst zT_153_4 rfl)
theorem zT_153_5 : zT 153 5 = some (.iconst 2, 1, 0, []) := by decide +kernel
theorem zr_153_5 {l0 l1 : Option zV} {st : List zV} {w : zW} {Q : Option zV → zW → Prop}  : zR 153 5 [l0, l1] st w Q = zR 153 6 [l0, l1] (.inl 2 :: st) w Q := zR_go (zst zT_153_5 rfl)
theorem zT_153_6 : zT 153 6 = some (.iaload, 1, 0, []) := by decide +kernel
theorem zr_153_6 {l0 l1 : Option zV} {j : Int} {h : Nat} {st : List zV} {w : zW} {Q : Option zV → zW → Prop} (hk : (zk w h = zNC ∨ zk w h = zNC + 2) ∧ 0 ≤ zN j ∧ zN j < zl w h) : zR 153 6 [l0, l1] (.inl j :: .inr (some h) :: st) w Q = zR 153 7 [l0, l1] (.inl (za w h (zN j).toNat) :: st) w Q := zR_go (zst zT_153_6 (if_pos hk))
theorem zT_153_7 : zT 153 7 = some (.invokestatic 114, 3, 2, [(22, 1)]) := by decide +kernel
theorem zr_153_7 {l0 l1 : Option zV} {a0 a1 : zV} {st : List zV} {w : zW} {Q : Option zV → zW → Prop} (hs : st.length ≤ 8) : zR 153 7 [l0, l1] (a1 :: a0 :: st) w Q = zR 22 0 [some a0, some a1] [] w (fun r w2 => zR 153 10 [l0, l1] (r.toList ++ st) w2 Q) := zR_call (zst zT_153_7 ((zcall_s (z := 2) (pc := 7) (j := 22) (ls := [l0, l1]) (w := w) [a1, a0] rfl hs : zi_static 2 [(22, 1)] 7 [l0, l1] ([a1, a0] ++ st) w = _)))
theorem zT_153_10 : zT 153 10 = some (.putfield 15, 3, 0, [(4, 3), (8, 2)]) := by decide +kernel
theorem zr_153_10c4 {l0 l1 : Option zV} {h : Nat} {x : Int} {st : List zV} {w : zW} {Q : Option zV → zW → Prop} (hk : zk w h = 4) : zR 153 10 [l0, l1] (.inl x :: .inr (some h) :: st) w Q = zR 153 13 [l0, l1] st (zsf w 34 h x) Q := zR_go (zst zT_153_10 (zput_i hk rfl))
theorem zr_153_10c8 {l0 l1 : Option zV} {h : Nat} {x : Int} {st : List zV} {w : zW} {Q : Option zV → zW → Prop} (hk : zk w h = 8) : zR 153 10 [l0, l1] (.inl x :: .inr (some h) :: st) w Q = zR 153 13 [l0, l1] st (zsf w 34 h x) Q := zR_go (zst zT_153_10 (zput_i hk rfl))
theorem zT_153_13 : zT 153 13 = some (.aload_n 0, 1, 0, []) := by decide +kernel
theorem zr_153_13 {l1 : Option zV} {x : Option Nat} {st : List zV} {w : zW} {Q : Option zV → zW → Prop}  : zR 153 13 [some (.inr x), l1] st w Q = zR 153 14 [some (.inr x), l1] (.inr x :: st) w Q := zR_go (zst zT_153_13 rfl)
theorem zT_153_14 : zT 153 14 = some (.aload_n 1, 1, 0, []) := by decide +kernel
theorem zr_153_14 {l0 : Option zV} {x : Option Nat} {st : List zV} {w : zW} {Q : Option zV → zW → Prop}  : zR 153 14 [l0, some (.inr x)] st w Q = zR 153 15 [l0, some (.inr x)] (.inr x :: st) w Q := zR_go (zst zT_153_14 rfl)
theorem zT_153_15 : zT 153 15 = some (.iconst 3, 1, 0, []) := by decide +kernel
theorem zr_153_15 {l0 l1 : Option zV} {st : List zV} {w : zW} {Q : Option zV → zW → Prop}  : zR 153 15 [l0, l1] st w Q = zR 153 16 [l0, l1] (.inl 3 :: st) w Q := zR_go (zst zT_153_15 rfl)
theorem zT_153_16 : zT 153 16 = some (.iaload, 1, 0, []) := by decide +kernel
theorem zr_153_16 {l0 l1 : Option zV} {j : Int} {h : Nat} {st : List zV} {w : zW} {Q : Option zV → zW → Prop} (hk : (zk w h = zNC ∨ zk w h = zNC + 2) ∧ 0 ≤ zN j ∧ zN j < zl w h) : zR 153 16 [l0, l1] (.inl j :: .inr (some h) :: st) w Q = zR 153 17 [l0, l1] (.inl (za w h (zN j).toNat) :: st) w Q := zR_go (zst zT_153_16 (if_pos hk))
theorem zT_153_17 : zT 153 17 = some (.aload_n 1, 1, 0, []) := by decide +kernel
theorem zr_153_17 {l0 : Option zV} {x : Option Nat} {st : List zV} {w : zW} {Q : Option zV → zW → Prop}  : zR 153 17 [l0, some (.inr x)] st w Q = zR 153 18 [l0, some (.inr x)] (.inr x :: st) w Q := zR_go (zst zT_153_17 rfl)
theorem zT_153_18 : zT 153 18 = some (.iconst 4, 1, 0, []) := by decide +kernel
theorem zr_153_18 {l0 l1 : Option zV} {st : List zV} {w : zW} {Q : Option zV → zW → Prop}  : zR 153 18 [l0, l1] st w Q = zR 153 19 [l0, l1] (.inl 4 :: st) w Q := zR_go (zst zT_153_18 rfl)
theorem zT_153_19 : zT 153 19 = some (.iaload, 1, 0, []) := by decide +kernel
theorem zr_153_19 {l0 l1 : Option zV} {j : Int} {h : Nat} {st : List zV} {w : zW} {Q : Option zV → zW → Prop} (hk : (zk w h = zNC ∨ zk w h = zNC + 2) ∧ 0 ≤ zN j ∧ zN j < zl w h) : zR 153 19 [l0, l1] (.inl j :: .inr (some h) :: st) w Q = zR 153 20 [l0, l1] (.inl (za w h (zN j).toNat) :: st) w Q := zR_go (zst zT_153_19 (if_pos hk))
theorem zT_153_20 : zT 153 20 = some (.invokestatic 114, 3, 2, [(22, 1)]) := by decide +kernel
theorem zr_153_20 {l0 l1 : Option zV} {a0 a1 : zV} {st : List zV} {w : zW} {Q : Option zV → zW → Prop} (hs : st.length ≤ 8) : zR 153 20 [l0, l1] (a1 :: a0 :: st) w Q = zR 22 0 [some a0, some a1] [] w (fun r w2 => zR 153 23 [l0, l1] (r.toList ++ st) w2 Q) := zR_call (zst zT_153_20 ((zcall_s (z := 2) (pc := 20) (j := 22) (ls := [l0, l1]) (w := w) [a1, a0] rfl hs : zi_static 2 [(22, 1)] 20 [l0, l1] ([a1, a0] ++ st) w = _)))
theorem zT_153_23 : zT 153 23 = some (.putfield 18, 3, 0, [(4, 4), (8, 3)]) := by decide +kernel
theorem zr_153_23c4 {l0 l1 : Option zV} {h : Nat} {x : Int} {st : List zV} {w : zW} {Q : Option zV → zW → Prop} (hk : zk w h = 4) : zR 153 23 [l0, l1] (.inl x :: .inr (some h) :: st) w Q = zR 153 26 [l0, l1] st (zsf w 35 h x) Q := zR_go (zst zT_153_23 (zput_i hk rfl))
theorem zr_153_23c8 {l0 l1 : Option zV} {h : Nat} {x : Int} {st : List zV} {w : zW} {Q : Option zV → zW → Prop} (hk : zk w h = 8) : zR 153 23 [l0, l1] (.inl x :: .inr (some h) :: st) w Q = zR 153 26 [l0, l1] st (zsf w 35 h x) Q := zR_go (zst zT_153_23 (zput_i hk rfl))
theorem zT_153_26 : zT 153 26 = some (.aload_n 0, 1, 0, []) := by decide +kernel
theorem zr_153_26 {l1 : Option zV} {x : Option Nat} {st : List zV} {w : zW} {Q : Option zV → zW → Prop}  : zR 153 26 [some (.inr x), l1] st w Q = zR 153 27 [some (.inr x), l1] (.inr x :: st) w Q := zR_go (zst zT_153_26 rfl)
theorem zT_153_27 : zT 153 27 = some (.aload_n 1, 1, 0, []) := by decide +kernel
theorem zr_153_27 {l0 : Option zV} {x : Option Nat} {st : List zV} {w : zW} {Q : Option zV → zW → Prop}  : zR 153 27 [l0, some (.inr x)] st w Q = zR 153 28 [l0, some (.inr x)] (.inr x :: st) w Q := zR_go (zst zT_153_27 rfl)
theorem zT_153_28 : zT 153 28 = some (.iconst 5, 1, 0, []) := by decide +kernel
theorem zr_153_28 {l0 l1 : Option zV} {st : List zV} {w : zW} {Q : Option zV → zW → Prop}  : zR 153 28 [l0, l1] st w Q = zR 153 29 [l0, l1] (.inl 5 :: st) w Q := zR_go (zst zT_153_28 rfl)
theorem zT_153_29 : zT 153 29 = some (.iaload, 1, 0, []) := by decide +kernel
theorem zr_153_29 {l0 l1 : Option zV} {j : Int} {h : Nat} {st : List zV} {w : zW} {Q : Option zV → zW → Prop} (hk : (zk w h = zNC ∨ zk w h = zNC + 2) ∧ 0 ≤ zN j ∧ zN j < zl w h) : zR 153 29 [l0, l1] (.inl j :: .inr (some h) :: st) w Q = zR 153 30 [l0, l1] (.inl (za w h (zN j).toNat) :: st) w Q := zR_go (zst zT_153_29 (if_pos hk))
theorem zT_153_30 : zT 153 30 = some (.putfield 48, 3, 0, [(4, 5), (8, 4)]) := by decide +kernel
theorem zr_153_30c4 {l0 l1 : Option zV} {h : Nat} {x : Int} {st : List zV} {w : zW} {Q : Option zV → zW → Prop} (hk : zk w h = 4) : zR 153 30 [l0, l1] (.inl x :: .inr (some h) :: st) w Q = zR 153 33 [l0, l1] st (zsf w 36 h x) Q := zR_go (zst zT_153_30 (zput_i hk rfl))
theorem zr_153_30c8 {l0 l1 : Option zV} {h : Nat} {x : Int} {st : List zV} {w : zW} {Q : Option zV → zW → Prop} (hk : zk w h = 8) : zR 153 30 [l0, l1] (.inl x :: .inr (some h) :: st) w Q = zR 153 33 [l0, l1] st (zsf w 36 h x) Q := zR_go (zst zT_153_30 (zput_i hk rfl))
theorem zT_153_33 : zT 153 33 = some (.return_, 1, 0, []) := by decide +kernel
theorem zr_153_33 {l0 l1 : Option zV} {w : zW} {Q : Option zV → zW → Prop} : zR 153 33 [l0, l1] [] w Q = Q none w := zR_ret (zst zT_153_33 rfl)
theorem zT_154_0 : zT 154 0 = some (.aload_n 0, 1, 0, []) := by decide +kernel
theorem zr_154_0 {x : Option Nat} {st : List zV} {w : zW} {Q : Option zV → zW → Prop}  : zR 154 0 [some (.inr x)] st w Q = zR 154 1 [some (.inr x)] (.inr x :: st) w Q := zR_go (zst zT_154_0 rfl)
theorem zT_154_1 : zT 154 1 = some (.getfield 25, 3, 0, [(4, 9), (8, 8)]) := by decide +kernel
theorem zr_154_1c4 {l0 : Option zV} {h : Nat} {st : List zV} {w : zW} {Q : Option zV → zW → Prop} (hk : zk w h = 4) : zR 154 1 [l0] (.inr (some h) :: st) w Q = zR 154 4 [l0] (.inr (zp w 40 h) :: st) w Q := zR_go (zst zT_154_1 (zget_r hk rfl))
theorem zr_154_1c8 {l0 : Option zV} {h : Nat} {st : List zV} {w : zW} {Q : Option zV → zW → Prop} (hk : zk w h = 8) : zR 154 1 [l0] (.inr (some h) :: st) w Q = zR 154 4 [l0] (.inr (zp w 40 h) :: st) w Q := zR_go (zst zT_154_1 (zget_r hk rfl))
theorem zT_154_4 : zT 154 4 = some (.iconst 1, 1, 0, []) := by decide +kernel
theorem zr_154_4 {l0 : Option zV} {st : List zV} {w : zW} {Q : Option zV → zW → Prop}  : zR 154 4 [l0] st w Q = zR 154 5 [l0] (.inl 1 :: st) w Q := zR_go (zst zT_154_4 rfl)
theorem zT_154_5 : zT 154 5 = some (.aload_n 0, 1, 0, []) := by decide +kernel
theorem zr_154_5 {x : Option Nat} {st : List zV} {w : zW} {Q : Option zV → zW → Prop}  : zR 154 5 [some (.inr x)] st w Q = zR 154 6 [some (.inr x)] (.inr x :: st) w Q := zR_go (zst zT_154_5 rfl)
theorem zT_154_6 : zT 154 6 = some (.getfield 11, 3, 0, [(4, 2), (8, 1)]) := by decide +kernel
theorem zr_154_6c4 {l0 : Option zV} {h : Nat} {st : List zV} {w : zW} {Q : Option zV → zW → Prop} (hk : zk w h = 4) : zR 154 6 [l0] (.inr (some h) :: st) w Q = zR 154 9 [l0] (.inl (zf w 33 h) :: st) w Q := zR_go (zst zT_154_6 (zget_i hk (Or.inl rfl)))
theorem zr_154_6c8 {l0 : Option zV} {h : Nat} {st : List zV} {w : zW} {Q : Option zV → zW → Prop} (hk : zk w h = 8) : zR 154 6 [l0] (.inr (some h) :: st) w Q = zR 154 9 [l0] (.inl (zf w 33 h) :: st) w Q := zR_go (zst zT_154_6 (zget_i hk (Or.inl rfl)))
theorem zT_154_9 : zT 154 9 = some (.iastore, 1, 0, []) := by decide +kernel
theorem zr_154_9 {l0 : Option zV} {j x : Int} {h : Nat} {st : List zV} {w : zW} {Q : Option zV → zW → Prop} (hk : zk w h = zNC ∧ 0 ≤ zN j ∧ zN j < zl w h) : zR 154 9 [l0] (.inl x :: .inl j :: .inr (some h) :: st) w Q = zR 154 10 [l0] st (zsa w h (zN j).toNat x) Q := zR_go (zst zT_154_9 (if_pos hk))
theorem zT_154_10 : zT 154 10 = some (.aload_n 0, 1, 0, []) := by decide +kernel
theorem zr_154_10 {x : Option Nat} {st : List zV} {w : zW} {Q : Option zV → zW → Prop}  : zR 154 10 [some (.inr x)] st w Q = zR 154 11 [some (.inr x)] (.inr x :: st) w Q := zR_go (zst zT_154_10 rfl)
theorem zT_154_11 : zT 154 11 = some (.getfield 25, 3, 0, [(4, 9), (8, 8)]) := by decide +kernel
theorem zr_154_11c4 {l0 : Option zV} {h : Nat} {st : List zV} {w : zW} {Q : Option zV → zW → Prop} (hk : zk w h = 4) : zR 154 11 [l0] (.inr (some h) :: st) w Q = zR 154 14 [l0] (.inr (zp w 40 h) :: st) w Q := zR_go (zst zT_154_11 (zget_r hk rfl))
theorem zr_154_11c8 {l0 : Option zV} {h : Nat} {st : List zV} {w : zW} {Q : Option zV → zW → Prop} (hk : zk w h = 8) : zR 154 11 [l0] (.inr (some h) :: st) w Q = zR 154 14 [l0] (.inr (zp w 40 h) :: st) w Q := zR_go (zst zT_154_11 (zget_r hk rfl))
theorem zT_154_14 : zT 154 14 = some (.iconst 2, 1, 0, []) := by decide +kernel
theorem zr_154_14 {l0 : Option zV} {st : List zV} {w : zW} {Q : Option zV → zW → Prop}  : zR 154 14 [l0] st w Q = zR 154 15 [l0] (.inl 2 :: st) w Q := zR_go (zst zT_154_14 rfl)
theorem zT_154_15 : zT 154 15 = some (.aload_n 0, 1, 0, []) := by decide +kernel
theorem zr_154_15 {x : Option Nat} {st : List zV} {w : zW} {Q : Option zV → zW → Prop}  : zR 154 15 [some (.inr x)] st w Q = zR 154 16 [some (.inr x)] (.inr x :: st) w Q := zR_go (zst zT_154_15 rfl)
theorem zT_154_16 : zT 154 16 = some (.getfield 45, 3, 0, [(4, 1), (8, 0)]) := by decide +kernel
theorem zr_154_16c4 {l0 : Option zV} {h : Nat} {st : List zV} {w : zW} {Q : Option zV → zW → Prop} (hk : zk w h = 4) : zR 154 16 [l0] (.inr (some h) :: st) w Q = zR 154 19 [l0] (.inl (zf w 32 h) :: st) w Q := zR_go (zst zT_154_16 (zget_i hk (Or.inl rfl)))
theorem zr_154_16c8 {l0 : Option zV} {h : Nat} {st : List zV} {w : zW} {Q : Option zV → zW → Prop} (hk : zk w h = 8) : zR 154 16 [l0] (.inr (some h) :: st) w Q = zR 154 19 [l0] (.inl (zf w 32 h) :: st) w Q := zR_go (zst zT_154_16 (zget_i hk (Or.inl rfl)))
theorem zT_154_19 : zT 154 19 = some (.bipush 8, 2, 0, []) := by decide +kernel
theorem zr_154_19 {l0 : Option zV} {st : List zV} {w : zW} {Q : Option zV → zW → Prop}  : zR 154 19 [l0] st w Q = zR 154 21 [l0] (.inl 8 :: st) w Q := zR_go (zst zT_154_19 rfl)
theorem zT_154_21 : zT 154 21 = some (.ishr, 1, 0, []) := by decide +kernel
theorem zr_154_21 {l0 : Option zV} {x y : Int} {st : List zV} {w : zW} {Q : Option zV → zW → Prop}  : zR 154 21 [l0] (.inl y :: .inl x :: st) w Q = zR 154 22 [l0] (.inl (zo_shr x y) :: st) w Q := zR_go (zst zT_154_21 rfl)
theorem zT_154_22 : zT 154 22 = some (.sipush 255, 3, 0, []) := by decide +kernel
theorem zr_154_22 {l0 : Option zV} {st : List zV} {w : zW} {Q : Option zV → zW → Prop}  : zR 154 22 [l0] st w Q = zR 154 25 [l0] (.inl 255 :: st) w Q := zR_go (zst zT_154_22 rfl)
theorem zT_154_25 : zT 154 25 = some (.iand, 1, 0, []) := by decide +kernel
theorem zr_154_25 {l0 : Option zV} {x y : Int} {st : List zV} {w : zW} {Q : Option zV → zW → Prop}  : zR 154 25 [l0] (.inl y :: .inl x :: st) w Q = zR 154 26 [l0] (.inl (zo_and x y) :: st) w Q := zR_go (zst zT_154_25 rfl)
theorem zT_154_26 : zT 154 26 = some (.iastore, 1, 0, []) := by decide +kernel
theorem zr_154_26 {l0 : Option zV} {j x : Int} {h : Nat} {st : List zV} {w : zW} {Q : Option zV → zW → Prop} (hk : zk w h = zNC ∧ 0 ≤ zN j ∧ zN j < zl w h) : zR 154 26 [l0] (.inl x :: .inl j :: .inr (some h) :: st) w Q = zR 154 27 [l0] st (zsa w h (zN j).toNat x) Q := zR_go (zst zT_154_26 (if_pos hk))
theorem zT_154_27 : zT 154 27 = some (.aload_n 0, 1, 0, []) := by decide +kernel
theorem zr_154_27 {x : Option Nat} {st : List zV} {w : zW} {Q : Option zV → zW → Prop}  : zR 154 27 [some (.inr x)] st w Q = zR 154 28 [some (.inr x)] (.inr x :: st) w Q := zR_go (zst zT_154_27 rfl)
theorem zT_154_28 : zT 154 28 = some (.getfield 25, 3, 0, [(4, 9), (8, 8)]) := by decide +kernel
theorem zr_154_28c4 {l0 : Option zV} {h : Nat} {st : List zV} {w : zW} {Q : Option zV → zW → Prop} (hk : zk w h = 4) : zR 154 28 [l0] (.inr (some h) :: st) w Q = zR 154 31 [l0] (.inr (zp w 40 h) :: st) w Q := zR_go (zst zT_154_28 (zget_r hk rfl))
theorem zr_154_28c8 {l0 : Option zV} {h : Nat} {st : List zV} {w : zW} {Q : Option zV → zW → Prop} (hk : zk w h = 8) : zR 154 28 [l0] (.inr (some h) :: st) w Q = zR 154 31 [l0] (.inr (zp w 40 h) :: st) w Q := zR_go (zst zT_154_28 (zget_r hk rfl))
theorem zT_154_31 : zT 154 31 = some (.iconst 3, 1, 0, []) := by decide +kernel
theorem zr_154_31 {l0 : Option zV} {st : List zV} {w : zW} {Q : Option zV → zW → Prop}  : zR 154 31 [l0] st w Q = zR 154 32 [l0] (.inl 3 :: st) w Q := zR_go (zst zT_154_31 rfl)
theorem zT_154_32 : zT 154 32 = some (.aload_n 0, 1, 0, []) := by decide +kernel
theorem zr_154_32 {x : Option Nat} {st : List zV} {w : zW} {Q : Option zV → zW → Prop}  : zR 154 32 [some (.inr x)] st w Q = zR 154 33 [some (.inr x)] (.inr x :: st) w Q := zR_go (zst zT_154_32 rfl)
theorem zT_154_33 : zT 154 33 = some (.getfield 45, 3, 0, [(4, 1), (8, 0)]) := by decide +kernel
theorem zr_154_33c4 {l0 : Option zV} {h : Nat} {st : List zV} {w : zW} {Q : Option zV → zW → Prop} (hk : zk w h = 4) : zR 154 33 [l0] (.inr (some h) :: st) w Q = zR 154 36 [l0] (.inl (zf w 32 h) :: st) w Q := zR_go (zst zT_154_33 (zget_i hk (Or.inl rfl)))
theorem zr_154_33c8 {l0 : Option zV} {h : Nat} {st : List zV} {w : zW} {Q : Option zV → zW → Prop} (hk : zk w h = 8) : zR 154 33 [l0] (.inr (some h) :: st) w Q = zR 154 36 [l0] (.inl (zf w 32 h) :: st) w Q := zR_go (zst zT_154_33 (zget_i hk (Or.inl rfl)))
theorem zT_154_36 : zT 154 36 = some (.sipush 255, 3, 0, []) := by decide +kernel
theorem zr_154_36 {l0 : Option zV} {st : List zV} {w : zW} {Q : Option zV → zW → Prop}  : zR 154 36 [l0] st w Q = zR 154 39 [l0] (.inl 255 :: st) w Q := zR_go (zst zT_154_36 rfl)
theorem zT_154_39 : zT 154 39 = some (.iand, 1, 0, []) := by decide +kernel
theorem zr_154_39 {l0 : Option zV} {x y : Int} {st : List zV} {w : zW} {Q : Option zV → zW → Prop}  : zR 154 39 [l0] (.inl y :: .inl x :: st) w Q = zR 154 40 [l0] (.inl (zo_and x y) :: st) w Q := zR_go (zst zT_154_39 rfl)
theorem zT_154_40 : zT 154 40 = some (.iastore, 1, 0, []) := by decide +kernel
theorem zr_154_40 {l0 : Option zV} {j x : Int} {h : Nat} {st : List zV} {w : zW} {Q : Option zV → zW → Prop} (hk : zk w h = zNC ∧ 0 ≤ zN j ∧ zN j < zl w h) : zR 154 40 [l0] (.inl x :: .inl j :: .inr (some h) :: st) w Q = zR 154 41 [l0] st (zsa w h (zN j).toNat x) Q := zR_go (zst zT_154_40 (if_pos hk))
theorem zT_154_41 : zT 154 41 = some (.iconst 4, 1, 0, []) := by decide +kernel
theorem zr_154_41 {l0 : Option zV} {st : List zV} {w : zW} {Q : Option zV → zW → Prop}  : zR 154 41 [l0] st w Q = zR 154 42 [l0] (.inl 4 :: st) w Q := zR_go (zst zT_154_41 rfl)
theorem zT_154_42 : zT 154 42 = some (.ireturn, 1, 0, []) := by decide +kernel
theorem zr_154_42 {l0 : Option zV} {x : Int} {w : zW} {Q : Option zV → zW → Prop}  : zR 154 42 [l0] [.inl x] w Q = Q (some (.inl x)) w := zR_ret (zst zT_154_42 rfl)
