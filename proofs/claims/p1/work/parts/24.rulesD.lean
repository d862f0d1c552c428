-- rules of rewriting, an instruction each: laid by program
theorem zT_49_0 : zT 49 0 = some (.iconst 0, 1, 0, []) := by decide +kernel
theorem zr_49_0 {l0 l1 l2 l3 l4 : Option zV} {st : List zV} {w : zW} {Q : Option zV → zW → Prop}  : zR 49 0 [l0, l1, l2, l3, l4] st w Q = zR 49 1 [l0, l1, l2, l3, l4] (.inl 0 :: st) w Q := zR_go (zst zT_49_0 rfl)
theorem zT_49_1 : zT 49 1 = some (.istore_n 2, 1, 0, []) := by decide +kernel
theorem zr_49_1 {l0 l1 l2 l3 l4 : Option zV} {x : Int} {st : List zV} {w : zW} {Q : Option zV → zW → Prop}  : zR 49 1 [l0, l1, l2, l3, l4] (.inl x :: st) w Q = zR 49 2 [l0, l1, some (.inl x), l3, l4] st w Q := zR_go (zst zT_49_1 rfl)
theorem zT_49_2 : zT 49 2 = some (.iconst 0, 1, 0, []) := by decide +kernel
theorem zr_49_2 {l0 l1 l2 l3 l4 : Option zV} {st : List zV} {w : zW} {Q : Option zV → zW → Prop}  : zR 49 2 [l0, l1, l2, l3, l4] st w Q = zR 49 3 [l0, l1, l2, l3, l4] (.inl 0 :: st) w Q := zR_go (zst zT_49_2 rfl)
theorem zT_49_3 : zT 49 3 = some (.istore_n 3, 1, 0, []) := by decide +kernel
theorem zr_49_3 {l0 l1 l2 l3 l4 : Option zV} {x : Int} {st : List zV} {w : zW} {Q : Option zV → zW → Prop}  : zR 49 3 [l0, l1, l2, l3, l4] (.inl x :: st) w Q = zR 49 4 [l0, l1, l2, some (.inl x), l4] st w Q := zR_go (zst zT_49_3 rfl)
theorem zT_49_4 : zT 49 4 = some (.iload_n 3, 1, 0, []) := by decide +kernel
theorem zr_49_4 {l0 l1 l2 l4 : Option zV} {x : Int} {st : List zV} {w : zW} {Q : Option zV → zW → Prop}  : zR 49 4 [l0, l1, l2, some (.inl x), l4] st w Q = zR 49 5 [l0, l1, l2, some (.inl x), l4] (.inl x :: st) w Q := zR_go (zst zT_49_4 rfl)
theorem zT_49_5 : zT 49 5 = some (.aload_n 0, 1, 0, []) := by decide +kernel
theorem zr_49_5 {l1 l2 l3 l4 : Option zV} {x : Option Nat} {st : List zV} {w : zW} {Q : Option zV → zW → Prop}  : zR 49 5 [some (.inr x), l1, l2, l3, l4] st w Q = zR 49 6 [some (.inr x), l1, l2, l3, l4] (.inr x :: st) w Q := zR_go (zst zT_49_5 rfl)
theorem zT_49_6 : zT 49 6 = some (.getfield 205, 3, 0, [(11, 32)]) := by decide +kernel
theorem zr_49_6 {l0 l1 l2 l3 l4 : Option zV} {h : Nat} {st : List zV} {w : zW} {Q : Option zV → zW → Prop} (hk : zk w h = 11) : zR 49 6 [l0, l1, l2, l3, l4] (.inr (some h) :: st) w Q = zR 49 9 [l0, l1, l2, l3, l4] (.inl (zf w 104 h) :: st) w Q := zR_go (zst zT_49_6 (zget_i hk (Or.inl rfl)))
theorem zT_49_9 : zT 49 9 = some (.iload_n 1, 1, 0, []) := by decide +kernel
theorem zr_49_9 {l0 l2 l3 l4 : Option zV} {x : Int} {st : List zV} {w : zW} {Q : Option zV → zW → Prop}  : zR 49 9 [l0, some (.inl x), l2, l3, l4] st w Q = zR 49 10 [l0, some (.inl x), l2, l3, l4] (.inl x :: st) w Q := zR_go (zst zT_49_9 rfl)
theorem zT_49_10 : zT 49 10 = some (.isub, 1, 0, []) := by decide +kernel
theorem zr_49_10 {l0 l1 l2 l3 l4 : Option zV} {x y : Int} {st : List zV} {w : zW} {Q : Option zV → zW → Prop}  : zR 49 10 [l0, l1, l2, l3, l4] (.inl y :: .inl x :: st) w Q = zR 49 11 [l0, l1, l2, l3, l4] (.inl (x - y) :: st) w Q := zR_go (zst zT_49_10 rfl)
theorem zT_49_11 : zT 49 11 = some (.if_icmp .ge 39, 3, 0, []) := by decide +kernel
theorem zr_49_11 {l0 l1 l2 l3 l4 : Option zV} {x y : Int} {st : List zV} {w : zW} {Q : Option zV → zW → Prop}  : zR 49 11 [l0, l1, l2, l3, l4] (.inl y :: .inl x :: st) w Q = (if zN y ≤ zN x then zR 49 50 [l0, l1, l2, l3, l4] st w Q else zR 49 14 [l0, l1, l2, l3, l4] st w Q) := zR_if (zstB zT_49_11 rfl) (by simp [zcmp])
theorem zT_49_14 : zT 49 14 = some (.iload_n 2, 1, 0, []) := by decide +kernel
theorem zr_49_14 {l0 l1 l3 l4 : Option zV} {x : Int} {st : List zV} {w : zW} {Q : Option zV → zW → Prop}  : zR 49 14 [l0, l1, some (.inl x), l3, l4] st w Q = zR 49 15 [l0, l1, some (.inl x), l3, l4] (.inl x :: st) w Q := zR_go (zst zT_49_14 rfl)
theorem zT_49_15 : zT 49 15 = some (.aload_n 0, 1, 0, []) := by decide +kernel
theorem zr_49_15 {l1 l2 l3 l4 : Option zV} {x : Option Nat} {st : List zV} {w : zW} {Q : Option zV → zW → Prop}  : zR 49 15 [some (.inr x), l1, l2, l3, l4] st w Q = zR 49 16 [some (.inr x), l1, l2, l3, l4] (.inr x :: st) w Q := zR_go (zst zT_49_15 rfl)
theorem zT_49_16 : zT 49 16 = some (.getfield 98, 3, 0, [(11, 31)]) := by decide +kernel
theorem zr_49_16 {l0 l1 l2 l3 l4 : Option zV} {h : Nat} {st : List zV} {w : zW} {Q : Option zV → zW → Prop} (hk : zk w h = 11) : zR 49 16 [l0, l1, l2, l3, l4] (.inr (some h) :: st) w Q = zR 49 19 [l0, l1, l2, l3, l4] (.inr (zp w 103 h) :: st) w Q := zR_go (zst zT_49_16 (zget_r hk rfl))
theorem zT_49_19 : zT 49 19 = some (.iload_n 3, 1, 0, []) := by decide +kernel
theorem zr_49_19 {l0 l1 l2 l4 : Option zV} {x : Int} {st : List zV} {w : zW} {Q : Option zV → zW → Prop}  : zR 49 19 [l0, l1, l2, some (.inl x), l4] st w Q = zR 49 20 [l0, l1, l2, some (.inl x), l4] (.inl x :: st) w Q := zR_go (zst zT_49_19 rfl)
theorem zT_49_20 : zT 49 20 = some (.iaload, 1, 0, []) := by decide +kernel
theorem zr_49_20 {l0 l1 l2 l3 l4 : Option zV} {j : Int} {h : Nat} {st : List zV} {w : zW} {Q : Option zV → zW → Prop} (hk : (zk w h = zNC ∨ zk w h = zNC + 2) ∧ 0 ≤ zN j ∧ zN j < zl w h) : zR 49 20 [l0, l1, l2, l3, l4] (.inl j :: .inr (some h) :: st) w Q = zR 49 21 [l0, l1, l2, l3, l4] (.inl (za w h (zN j).toNat) :: st) w Q := zR_go (zst zT_49_20 (if_pos hk))
theorem zT_49_21 : zT 49 21 = some (.ixor, 1, 0, []) := by decide +kernel
theorem zr_49_21 {l0 l1 l2 l3 l4 : Option zV} {x y : Int} {st : List zV} {w : zW} {Q : Option zV → zW → Prop}  : zR 49 21 [l0, l1, l2, l3, l4] (.inl y :: .inl x :: st) w Q = zR 49 22 [l0, l1, l2, l3, l4] (.inl (zo_xor x y) :: st) w Q := zR_go (zst zT_49_21 rfl)
theorem zT_49_22 : zT 49 22 = some (.istore_n 2, 1, 0, []) := by decide +kernel
theorem zr_49_22 {l0 l1 l2 l3 l4 : Option zV} {x : Int} {st : List zV} {w : zW} {Q : Option zV → zW → Prop}  : zR 49 22 [l0, l1, l2, l3, l4] (.inl x :: st) w Q = zR 49 23 [l0, l1, some (.inl x), l3, l4] st w Q := zR_go (zst zT_49_22 rfl)
theorem zT_49_23 : zT 49 23 = some (.iconst 0, 1, 0, []) := by decide +kernel
theorem zr_49_23 {l0 l1 l2 l3 l4 : Option zV} {st : List zV} {w : zW} {Q : Option zV → zW → Prop}  : zR 49 23 [l0, l1, l2, l3, l4] st w Q = zR 49 24 [l0, l1, l2, l3, l4] (.inl 0 :: st) w Q := zR_go (zst zT_49_23 rfl)
theorem zT_49_24 : zT 49 24 = some (.istore 4, 2, 0, []) := by decide +kernel
theorem zr_49_24 {l0 l1 l2 l3 l4 : Option zV} {x : Int} {st : List zV} {w : zW} {Q : Option zV → zW → Prop}  : zR 49 24 [l0, l1, l2, l3, l4] (.inl x :: st) w Q = zR 49 26 [l0, l1, l2, l3, some (.inl x)] st w Q := zR_go (zst zT_49_24 rfl)
theorem zT_49_26 : zT 49 26 = some (.iload 4, 2, 0, []) := by decide +kernel
theorem zr_49_26 {l0 l1 l2 l3 : Option zV} {x : Int} {st : List zV} {w : zW} {Q : Option zV → zW → Prop}  : zR 49 26 [l0, l1, l2, l3, some (.inl x)] st w Q = zR 49 28 [l0, l1, l2, l3, some (.inl x)] (.inl x :: st) w Q := zR_go (zst zT_49_26 rfl)
theorem zT_49_28 : zT 49 28 = some (.bipush 8, 2, 0, []) := by decide +kernel
theorem zr_49_28 {l0 l1 l2 l3 l4 : Option zV} {st : List zV} {w : zW} {Q : Option zV → zW → Prop}  : zR 49 28 [l0, l1, l2, l3, l4] st w Q = zR 49 30 [l0, l1, l2, l3, l4] (.inl 8 :: st) w Q := zR_go (zst zT_49_28 rfl)
theorem zT_49_30 : zT 49 30 = some (.if_icmp .ge 14, 3, 0, []) := by decide +kernel
theorem zr_49_30 {l0 l1 l2 l3 l4 : Option zV} {x y : Int} {st : List zV} {w : zW} {Q : Option zV → zW → Prop}  : zR 49 30 [l0, l1, l2, l3, l4] (.inl y :: .inl x :: st) w Q = (if zN y ≤ zN x then zR 49 44 [l0, l1, l2, l3, l4] st w Q else zR 49 33 [l0, l1, l2, l3, l4] st w Q) := zR_if (zstB zT_49_30 rfl) (by simp [zcmp])
theorem zT_49_33 : zT 49 33 = some (.iload_n 2, 1, 0, []) := by decide +kernel
theorem zr_49_33 {l0 l1 l3 l4 : Option zV} {x : Int} {st : List zV} {w : zW} {Q : Option zV → zW → Prop}  : zR 49 33 [l0, l1, some (.inl x), l3, l4] st w Q = zR 49 34 [l0, l1, some (.inl x), l3, l4] (.inl x :: st) w Q := zR_go (zst zT_49_33 rfl)
theorem zT_49_34 : zT 49 34 = some (.invokestatic 208, 3, 1, [(48, 1)]) := by decide +kernel
theorem zr_49_34 {l0 l1 l2 l3 l4 : Option zV} {a0 : zV} {st : List zV} {w : zW} {Q : Option zV → zW → Prop} (hs : st.length ≤ 8) : zR 49 34 [l0, l1, l2, l3, l4] (a0 :: st) w Q = zR 48 0 [some a0, none] [] w (fun r w2 => zR 49 37 [l0, l1, l2, l3, l4] (r.toList ++ st) w2 Q) := zR_call (zst zT_49_34 ((zcall_s (z := 1) (pc := 34) (j := 48) (ls := [l0, l1, l2, l3, l4]) (w := w) [a0] rfl hs : zi_static 1 [(48, 1)] 34 [l0, l1, l2, l3, l4] ([a0] ++ st) w = _)))
theorem zT_49_37 : zT 49 37 = some (.istore_n 2, 1, 0, []) := by decide +kernel
theorem zr_49_37 {l0 l1 l2 l3 l4 : Option zV} {x : Int} {st : List zV} {w : zW} {Q : Option zV → zW → Prop}  : zR 49 37 [l0, l1, l2, l3, l4] (.inl x :: st) w Q = zR 49 38 [l0, l1, some (.inl x), l3, l4] st w Q := zR_go (zst zT_49_37 rfl)
theorem zT_49_38 : zT 49 38 = some (.iinc 4 1, 3, 0, []) := by decide +kernel
theorem zr_49_38 {l0 l1 l2 l3 : Option zV} {x : Int} {st : List zV} {w : zW} {Q : Option zV → zW → Prop}  : zR 49 38 [l0, l1, l2, l3, some (.inl x)] st w Q = zR 49 41 [l0, l1, l2, l3, some (.inl (x + 1))] st w Q := zR_go (zst zT_49_38 rfl)
theorem zT_49_41 : zT 49 41 = some (.goto (-15), 3, 0, []) := by decide +kernel
theorem zr_49_41 {l0 l1 l2 l3 l4 : Option zV} {st : List zV} {w : zW} {Q : Option zV → zW → Prop}  : zR 49 41 [l0, l1, l2, l3, l4] st w Q = zR 49 26 [l0, l1, l2, l3, l4] st w Q := zR_go (zst zT_49_41 rfl)
theorem zT_49_44 : zT 49 44 = some (.iinc 3 1, 3, 0, []) := by decide +kernel
theorem zr_49_44 {l0 l1 l2 l4 : Option zV} {x : Int} {st : List zV} {w : zW} {Q : Option zV → zW → Prop}  : zR 49 44 [l0, l1, l2, some (.inl x), l4] st w Q = zR 49 47 [l0, l1, l2, some (.inl (x + 1)), l4] st w Q := zR_go (zst zT_49_44 rfl)
theorem zT_49_47 : zT 49 47 = some (.goto (-43), 3, 0, []) := by decide +kernel
theorem zr_49_47 {l0 l1 l2 l3 l4 : Option zV} {st : List zV} {w : zW} {Q : Option zV → zW → Prop}  : zR 49 47 [l0, l1, l2, l3, l4] st w Q = zR 49 4 [l0, l1, l2, l3, l4] st w Q := zR_go (zst zT_49_47 rfl)
theorem zT_49_50 : zT 49 50 = some (.iload_n 2, 1, 0, []) := by decide +kernel
theorem zr_49_50 {l0 l1 l3 l4 : Option zV} {x : Int} {st : List zV} {w : zW} {Q : Option zV → zW → Prop}  : zR 49 50 [l0, l1, some (.inl x), l3, l4] st w Q = zR 49 51 [l0, l1, some (.inl x), l3, l4] (.inl x :: st) w Q := zR_go (zst zT_49_50 rfl)
theorem zT_49_51 : zT 49 51 = some (.ireturn, 1, 0, []) := by decide +kernel
theorem zr_49_51 {l0 l1 l2 l3 l4 : Option zV} {x : Int} {w : zW} {Q : Option zV → zW → Prop}  : zR 49 51 [l0, l1, l2, l3, l4] [.inl x] w Q = Q (some (.inl x)) w := zR_ret (zst zT_49_51 rfl)
theorem zT_50_0 : zT 50 0 = some (.aload_n 0, 1, 0, []) := by decide +kernel
theorem zr_50_0 {l1 : Option zV} {x : Option Nat} {st : List zV} {w : zW} {Q : Option zV → zW → Prop}  : zR 50 0 [some (.inr x), l1] st w Q = zR 50 1 [some (.inr x), l1] (.inr x :: st) w Q := zR_go (zst zT_50_0 rfl)
theorem zT_50_1 : zT 50 1 = some (.iconst 0, 1, 0, []) := by decide +kernel
theorem zr_50_1 {l0 l1 : Option zV} {st : List zV} {w : zW} {Q : Option zV → zW → Prop}  : zR 50 1 [l0, l1] st w Q = zR 50 2 [l0, l1] (.inl 0 :: st) w Q := zR_go (zst zT_50_1 rfl)
theorem zT_50_2 : zT 50 2 = some (.invokevirtual 211, 3, 1, [(11, 49)]) := by decide +kernel
theorem zr_50_2 {l0 l1 : Option zV} {a0 : zV} {h : Nat} {st : List zV} {w : zW} {Q : Option zV → zW → Prop} (hs : st.length ≤ 8) (hk : zk w h = 11) : zR 50 2 [l0, l1] (a0 :: .inr (some h) :: st) w Q = zR 49 0 [some (.inr (some h)), some a0, none, none, none] [] w (fun r w2 => zR 50 5 [l0, l1] (r.toList ++ st) w2 Q) := zR_call (zst zT_50_2 (zcall_v [a0] rfl hs hk rfl))
theorem zT_50_5 : zT 50 5 = some (.istore_n 1, 1, 0, []) := by decide +kernel
theorem zr_50_5 {l0 l1 : Option zV} {x : Int} {st : List zV} {w : zW} {Q : Option zV → zW → Prop}  : zR 50 5 [l0, l1] (.inl x :: st) w Q = zR 50 6 [l0, some (.inl x)] st w Q := zR_go (zst zT_50_5 rfl)
theorem zT_50_6 : zT 50 6 = some (.aload_n 0, 1, 0, []) := by decide +kernel
theorem zr_50_6 {l1 : Option zV} {x : Option Nat} {st : List zV} {w : zW} {Q : Option zV → zW → Prop}  : zR 50 6 [some (.inr x), l1] st w Q = zR 50 7 [some (.inr x), l1] (.inr x :: st) w Q := zR_go (zst zT_50_6 rfl)
theorem zT_50_7 : zT 50 7 = some (.iload_n 1, 1, 0, []) := by decide +kernel
theorem zr_50_7 {l0 : Option zV} {x : Int} {st : List zV} {w : zW} {Q : Option zV → zW → Prop}  : zR 50 7 [l0, some (.inl x)] st w Q = zR 50 8 [l0, some (.inl x)] (.inl x :: st) w Q := zR_go (zst zT_50_7 rfl)
theorem zT_50_8 : zT 50 8 = some (.invokevirtual 214, 3, 1, [(11, 47)]) := by decide +kernel
theorem zr_50_8 {l0 l1 : Option zV} {a0 : zV} {h : Nat} {st : List zV} {w : zW} {Q : Option zV → zW → Prop} (hs : st.length ≤ 8) (hk : zk w h = 11) : zR 50 8 [l0, l1] (a0 :: .inr (some h) :: st) w Q = zR 47 0 [some (.inr (some h)), some a0] [] w (fun r w2 => zR 50 11 [l0, l1] (r.toList ++ st) w2 Q) := zR_call (zst zT_50_8 (zcall_v [a0] rfl hs hk rfl))
theorem zT_50_11 : zT 50 11 = some (.return_, 1, 0, []) := by decide +kernel
theorem zr_50_11 {l0 l1 : Option zV} {w : zW} {Q : Option zV → zW → Prop} : zR 50 11 [l0, l1] [] w Q = Q none w := zR_ret (zst zT_50_11 rfl)
theorem zT_51_0 : zT 51 0 = some (.aload_n 0, 1, 0, []) := by decide +kernel
theorem zr_51_0 {l1 l2 : Option zV} {x : Option Nat} {st : List zV} {w : zW} {Q : Option zV → zW → Prop}  : zR 51 0 [some (.inr x), l1, l2] st w Q = zR 51 1 [some (.inr x), l1, l2] (.inr x :: st) w Q := zR_go (zst zT_51_0 rfl)
theorem zT_51_1 : zT 51 1 = some (.getfield 95, 3, 0, [(11, 30)]) := by decide +kernel
theorem zr_51_1 {l0 l1 l2 : Option zV} {h : Nat} {st : List zV} {w : zW} {Q : Option zV → zW → Prop} (hk : zk w h = 11) : zR 51 1 [l0, l1, l2] (.inr (some h) :: st) w Q = zR 51 4 [l0, l1, l2] (.inr (zp w 102 h) :: st) w Q := zR_go (zst zT_51_1 (zget_r hk rfl))
theorem zT_51_4 : zT 51 4 = some (.iload_n 1, 1, 0, []) := by decide +kernel
theorem zr_51_4 {l0 l2 : Option zV} {x : Int} {st : List zV} {w : zW} {Q : Option zV → zW → Prop}  : zR 51 4 [l0, some (.inl x), l2] st w Q = zR 51 5 [l0, some (.inl x), l2] (.inl x :: st) w Q := zR_go (zst zT_51_4 rfl)
theorem zT_51_5 : zT 51 5 = some (.iaload, 1, 0, []) := by decide +kernel
theorem zr_51_5 {l0 l1 l2 : Option zV} {j : Int} {h : Nat} {st : List zV} {w : zW} {Q : Option zV → zW → Prop} (hk : (zk w h = zNC ∨ zk w h = zNC + 2) ∧ 0 ≤ zN j ∧ zN j < zl w h) : zR 51 5 [l0, l1, l2] (.inl j :: .inr (some h) :: st) w Q = zR 51 6 [l0, l1, l2] (.inl (za w h (zN j).toNat) :: st) w Q := zR_go (zst zT_51_5 (if_pos hk))
theorem zT_51_6 : zT 51 6 = some (.ifCond .le 45, 3, 0, []) := by decide +kernel
theorem zr_51_6 {l0 l1 l2 : Option zV} {x : Int} {st : List zV} {w : zW} {Q : Option zV → zW → Prop}  : zR 51 6 [l0, l1, l2] (.inl x :: st) w Q = (if zN x ≤ 0 then zR 51 51 [l0, l1, l2] st w Q else zR 51 9 [l0, l1, l2] st w Q) := zR_if (zstB zT_51_6 rfl) (by simp [zcmp])
theorem zT_51_9 : zT 51 9 = some (.aload_n 0, 1, 0, []) := by decide +kernel
theorem zr_51_9 {l1 l2 : Option zV} {x : Option Nat} {st : List zV} {w : zW} {Q : Option zV → zW → Prop}  : zR 51 9 [some (.inr x), l1, l2] st w Q = zR 51 10 [some (.inr x), l1, l2] (.inr x :: st) w Q := zR_go (zst zT_51_9 rfl)
theorem zT_51_10 : zT 51 10 = some (.getfield 92, 3, 0, [(11, 29)]) := by decide +kernel
theorem zr_51_10 {l0 l1 l2 : Option zV} {h : Nat} {st : List zV} {w : zW} {Q : Option zV → zW → Prop} (hk : zk w h = 11) : zR 51 10 [l0, l1, l2] (.inr (some h) :: st) w Q = zR 51 13 [l0, l1, l2] (.inr (zp w 101 h) :: st) w Q := zR_go (zst zT_51_10 (zget_r hk rfl))
theorem zT_51_13 : zT 51 13 = some (.iload_n 1, 1, 0, []) := by decide +kernel
theorem zr_51_13 {l0 l2 : Option zV} {x : Int} {st : List zV} {w : zW} {Q : Option zV → zW → Prop}  : zR 51 13 [l0, some (.inl x), l2] st w Q = zR 51 14 [l0, some (.inl x), l2] (.inl x :: st) w Q := zR_go (zst zT_51_13 rfl)
theorem zT_51_14 : zT 51 14 = some (.iaload, 1, 0, []) := by decide +kernel
theorem zr_51_14 {l0 l1 l2 : Option zV} {j : Int} {h : Nat} {st : List zV} {w : zW} {Q : Option zV → zW → Prop} (hk : (zk w h = zNC ∨ zk w h = zNC + 2) ∧ 0 ≤ zN j ∧ zN j < zl w h) : zR 51 14 [l0, l1, l2] (.inl j :: .inr (some h) :: st) w Q = zR 51 15 [l0, l1, l2] (.inl (za w h (zN j).toNat) :: st) w Q := zR_go (zst zT_51_14 (if_pos hk))
theorem zT_51_15 : zT 51 15 = some (.aload_n 0, 1, 0, []) := by decide +kernel
theorem zr_51_15 {l1 l2 : Option zV} {x : Option Nat} {st : List zV} {w : zW} {Q : Option zV → zW → Prop}  : zR 51 15 [some (.inr x), l1, l2] st w Q = zR 51 16 [some (.inr x), l1, l2] (.inr x :: st) w Q := zR_go (zst zT_51_15 rfl)
theorem zT_51_16 : zT 51 16 = some (.getfield 205, 3, 0, [(11, 32)]) := by decide +kernel
theorem zr_51_16 {l0 l1 l2 : Option zV} {h : Nat} {st : List zV} {w : zW} {Q : Option zV → zW → Prop} (hk : zk w h = 11) : zR 51 16 [l0, l1, l2] (.inr (some h) :: st) w Q = zR 51 19 [l0, l1, l2] (.inl (zf w 104 h) :: st) w Q := zR_go (zst zT_51_16 (zget_i hk (Or.inl rfl)))
theorem zT_51_19 : zT 51 19 = some (.if_icmp .ge 32, 3, 0, []) := by decide +kernel
theorem zr_51_19 {l0 l1 l2 : Option zV} {x y : Int} {st : List zV} {w : zW} {Q : Option zV → zW → Prop}  : zR 51 19 [l0, l1, l2] (.inl y :: .inl x :: st) w Q = (if zN y ≤ zN x then zR 51 51 [l0, l1, l2] st w Q else zR 51 22 [l0, l1, l2] st w Q) := zR_if (zstB zT_51_19 rfl) (by simp [zcmp])
theorem zT_51_22 : zT 51 22 = some (.aload_n 0, 1, 0, []) := by decide +kernel
theorem zr_51_22 {l1 l2 : Option zV} {x : Option Nat} {st : List zV} {w : zW} {Q : Option zV → zW → Prop}  : zR 51 22 [some (.inr x), l1, l2] st w Q = zR 51 23 [some (.inr x), l1, l2] (.inr x :: st) w Q := zR_go (zst zT_51_22 rfl)
theorem zT_51_23 : zT 51 23 = some (.getfield 98, 3, 0, [(11, 31)]) := by decide +kernel
theorem zr_51_23 {l0 l1 l2 : Option zV} {h : Nat} {st : List zV} {w : zW} {Q : Option zV → zW → Prop} (hk : zk w h = 11) : zR 51 23 [l0, l1, l2] (.inr (some h) :: st) w Q = zR 51 26 [l0, l1, l2] (.inr (zp w 103 h) :: st) w Q := zR_go (zst zT_51_23 (zget_r hk rfl))
theorem zT_51_26 : zT 51 26 = some (.aload_n 0, 1, 0, []) := by decide +kernel
theorem zr_51_26 {l1 l2 : Option zV} {x : Option Nat} {st : List zV} {w : zW} {Q : Option zV → zW → Prop}  : zR 51 26 [some (.inr x), l1, l2] st w Q = zR 51 27 [some (.inr x), l1, l2] (.inr x :: st) w Q := zR_go (zst zT_51_26 rfl)
theorem zT_51_27 : zT 51 27 = some (.getfield 92, 3, 0, [(11, 29)]) := by decide +kernel
theorem zr_51_27 {l0 l1 l2 : Option zV} {h : Nat} {st : List zV} {w : zW} {Q : Option zV → zW → Prop} (hk : zk w h = 11) : zR 51 27 [l0, l1, l2] (.inr (some h) :: st) w Q = zR 51 30 [l0, l1, l2] (.inr (zp w 101 h) :: st) w Q := zR_go (zst zT_51_27 (zget_r hk rfl))
theorem zT_51_30 : zT 51 30 = some (.iload_n 1, 1, 0, []) := by decide +kernel
theorem zr_51_30 {l0 l2 : Option zV} {x : Int} {st : List zV} {w : zW} {Q : Option zV → zW → Prop}  : zR 51 30 [l0, some (.inl x), l2] st w Q = zR 51 31 [l0, some (.inl x), l2] (.inl x :: st) w Q := zR_go (zst zT_51_30 rfl)
theorem zT_51_31 : zT 51 31 = some (.iaload, 1, 0, []) := by decide +kernel
theorem zr_51_31 {l0 l1 l2 : Option zV} {j : Int} {h : Nat} {st : List zV} {w : zW} {Q : Option zV → zW → Prop} (hk : (zk w h = zNC ∨ zk w h = zNC + 2) ∧ 0 ≤ zN j ∧ zN j < zl w h) : zR 51 31 [l0, l1, l2] (.inl j :: .inr (some h) :: st) w Q = zR 51 32 [l0, l1, l2] (.inl (za w h (zN j).toNat) :: st) w Q := zR_go (zst zT_51_31 (if_pos hk))
theorem zT_51_32 : zT 51 32 = some (.aload_n 0, 1, 0, []) := by decide +kernel
theorem zr_51_32 {l1 l2 : Option zV} {x : Option Nat} {st : List zV} {w : zW} {Q : Option zV → zW → Prop}  : zR 51 32 [some (.inr x), l1, l2] st w Q = zR 51 33 [some (.inr x), l1, l2] (.inr x :: st) w Q := zR_go (zst zT_51_32 rfl)
theorem zT_51_33 : zT 51 33 = some (.getfield 98, 3, 0, [(11, 31)]) := by decide +kernel
theorem zr_51_33 {l0 l1 l2 : Option zV} {h : Nat} {st : List zV} {w : zW} {Q : Option zV → zW → Prop} (hk : zk w h = 11) : zR 51 33 [l0, l1, l2] (.inr (some h) :: st) w Q = zR 51 36 [l0, l1, l2] (.inr (zp w 103 h) :: st) w Q := zR_go (zst zT_51_33 (zget_r hk rfl))
theorem zT_51_36 : zT 51 36 = some (.aload_n 0, 1, 0, []) := by decide +kernel
theorem zr_51_36 {l1 l2 : Option zV} {x : Option Nat} {st : List zV} {w : zW} {Q : Option zV → zW → Prop}  : zR 51 36 [some (.inr x), l1, l2] st w Q = zR 51 37 [some (.inr x), l1, l2] (.inr x :: st) w Q := zR_go (zst zT_51_36 rfl)
theorem zT_51_37 : zT 51 37 = some (.getfield 92, 3, 0, [(11, 29)]) := by decide +kernel
theorem zr_51_37 {l0 l1 l2 : Option zV} {h : Nat} {st : List zV} {w : zW} {Q : Option zV → zW → Prop} (hk : zk w h = 11) : zR 51 37 [l0, l1, l2] (.inr (some h) :: st) w Q = zR 51 40 [l0, l1, l2] (.inr (zp w 101 h) :: st) w Q := zR_go (zst zT_51_37 (zget_r hk rfl))
theorem zT_51_40 : zT 51 40 = some (.iload_n 1, 1, 0, []) := by decide +kernel
theorem zr_51_40 {l0 l2 : Option zV} {x : Int} {st : List zV} {w : zW} {Q : Option zV → zW → Prop}  : zR 51 40 [l0, some (.inl x), l2] st w Q = zR 51 41 [l0, some (.inl x), l2] (.inl x :: st) w Q := zR_go (zst zT_51_40 rfl)
theorem zT_51_41 : zT 51 41 = some (.iaload, 1, 0, []) := by decide +kernel
theorem zr_51_41 {l0 l1 l2 : Option zV} {j : Int} {h : Nat} {st : List zV} {w : zW} {Q : Option zV → zW → Prop} (hk : (zk w h = zNC ∨ zk w h = zNC + 2) ∧ 0 ≤ zN j ∧ zN j < zl w h) : zR 51 41 [l0, l1, l2] (.inl j :: .inr (some h) :: st) w Q = zR 51 42 [l0, l1, l2] (.inl (za w h (zN j).toNat) :: st) w Q := zR_go (zst zT_51_41 (if_pos hk))
theorem zT_51_42 : zT 51 42 = some (.iaload, 1, 0, []) := by decide +kernel
theorem zr_51_42 {l0 l1 l2 : Option zV} {j : Int} {h : Nat} {st : List zV} {w : zW} {Q : Option zV → zW → Prop} (hk : (zk w h = zNC ∨ zk w h = zNC + 2) ∧ 0 ≤ zN j ∧ zN j < zl w h) : zR 51 42 [l0, l1, l2] (.inl j :: .inr (some h) :: st) w Q = zR 51 43 [l0, l1, l2] (.inl (za w h (zN j).toNat) :: st) w Q := zR_go (zst zT_51_42 (if_pos hk))
theorem zT_51_43 : zT 51 43 = some (.aload_n 0, 1, 0, []) := by decide +kernel
theorem zr_51_43 {l1 l2 : Option zV} {x : Option Nat} {st : List zV} {w : zW} {Q : Option zV → zW → Prop}  : zR 51 43 [some (.inr x), l1, l2] st w Q = zR 51 44 [some (.inr x), l1, l2] (.inr x :: st) w Q := zR_go (zst zT_51_43 rfl)
theorem zT_51_44 : zT 51 44 = some (.getfield 95, 3, 0, [(11, 30)]) := by decide +kernel
theorem zr_51_44 {l0 l1 l2 : Option zV} {h : Nat} {st : List zV} {w : zW} {Q : Option zV → zW → Prop} (hk : zk w h = 11) : zR 51 44 [l0, l1, l2] (.inr (some h) :: st) w Q = zR 51 47 [l0, l1, l2] (.inr (zp w 102 h) :: st) w Q := zR_go (zst zT_51_44 (zget_r hk rfl))
theorem zT_51_47 : zT 51 47 = some (.iload_n 1, 1, 0, []) := by decide +kernel
theorem zr_51_47 {l0 l2 : Option zV} {x : Int} {st : List zV} {w : zW} {Q : Option zV → zW → Prop}  : zR 51 47 [l0, some (.inl x), l2] st w Q = zR 51 48 [l0, some (.inl x), l2] (.inl x :: st) w Q := zR_go (zst zT_51_47 rfl)
theorem zT_51_48 : zT 51 48 = some (.iaload, 1, 0, []) := by decide +kernel
theorem zr_51_48 {l0 l1 l2 : Option zV} {j : Int} {h : Nat} {st : List zV} {w : zW} {Q : Option zV → zW → Prop} (hk : (zk w h = zNC ∨ zk w h = zNC + 2) ∧ 0 ≤ zN j ∧ zN j < zl w h) : zR 51 48 [l0, l1, l2] (.inl j :: .inr (some h) :: st) w Q = zR 51 49 [l0, l1, l2] (.inl (za w h (zN j).toNat) :: st) w Q := zR_go (zst zT_51_48 (if_pos hk))
theorem zT_51_49 : zT 51 49 = some (.ixor, 1, 0, []) := by decide +kernel
theorem zr_51_49 {l0 l1 l2 : Option zV} {x y : Int} {st : List zV} {w : zW} {Q : Option zV → zW → Prop}  : zR 51 49 [l0, l1, l2] (.inl y :: .inl x :: st) w Q = zR 51 50 [l0, l1, l2] (.inl (zo_xor x y) :: st) w Q := zR_go (zst zT_51_49 rfl)
theorem zT_51_50 : zT 51 50 = some (.iastore, 1, 0, []) := by decide +kernel
theorem zr_51_50 {l0 l1 l2 : Option zV} {j x : Int} {h : Nat} {st : List zV} {w : zW} {Q : Option zV → zW → Prop} (hk : zk w h = zNC ∧ 0 ≤ zN j ∧ zN j < zl w h) : zR 51 50 [l0, l1, l2] (.inl x :: .inl j :: .inr (some h) :: st) w Q = zR 51 51 [l0, l1, l2] st (zsa w h (zN j).toNat x) Q := zR_go (zst zT_51_50 (if_pos hk))
theorem zT_51_51 : zT 51 51 = some (.aload_n 0, 1, 0, []) := by decide +kernel
theorem zr_51_51 {l1 l2 : Option zV} {x : Option Nat} {st : List zV} {w : zW} {Q : Option zV → zW → Prop}  : zR 51 51 [some (.inr x), l1, l2] st w Q = zR 51 52 [some (.inr x), l1, l2] (.inr x :: st) w Q := zR_go (zst zT_51_51 rfl)
theorem zT_51_52 : zT 51 52 = some (.getfield 95, 3, 0, [(11, 30)]) := by decide +kernel
theorem zr_51_52 {l0 l1 l2 : Option zV} {h : Nat} {st : List zV} {w : zW} {Q : Option zV → zW → Prop} (hk : zk w h = 11) : zR 51 52 [l0, l1, l2] (.inr (some h) :: st) w Q = zR 51 55 [l0, l1, l2] (.inr (zp w 102 h) :: st) w Q := zR_go (zst zT_51_52 (zget_r hk rfl))
theorem zT_51_55 : zT 51 55 = some (.iload_n 1, 1, 0, []) := by decide +kernel
theorem zr_51_55 {l0 l2 : Option zV} {x : Int} {st : List zV} {w : zW} {Q : Option zV → zW → Prop}  : zR 51 55 [l0, some (.inl x), l2] st w Q = zR 51 56 [l0, some (.inl x), l2] (.inl x :: st) w Q := zR_go (zst zT_51_55 rfl)
theorem zT_51_56 : zT 51 56 = some (.iconst 0, 1, 0, []) := by decide +kernel
theorem zr_51_56 {l0 l1 l2 : Option zV} {st : List zV} {w : zW} {Q : Option zV → zW → Prop}  : zR 51 56 [l0, l1, l2] st w Q = zR 51 57 [l0, l1, l2] (.inl 0 :: st) w Q := zR_go (zst zT_51_56 rfl)
theorem zT_51_57 : zT 51 57 = some (.iastore, 1, 0, []) := by decide +kernel
theorem zr_51_57 {l0 l1 l2 : Option zV} {j x : Int} {h : Nat} {st : List zV} {w : zW} {Q : Option zV → zW → Prop} (hk : zk w h = zNC ∧ 0 ≤ zN j ∧ zN j < zl w h) : zR 51 57 [l0, l1, l2] (.inl x :: .inl j :: .inr (some h) :: st) w Q = zR 51 58 [l0, l1, l2] st (zsa w h (zN j).toNat x) Q := zR_go (zst zT_51_57 (if_pos hk))
theorem zT_51_58 : zT 51 58 = some (.aload_n 0, 1, 0, []) := by decide +kernel
theorem zr_51_58 {l1 l2 : Option zV} {x : Option Nat} {st : List zV} {w : zW} {Q : Option zV → zW → Prop}  : zR 51 58 [some (.inr x), l1, l2] st w Q = zR 51 59 [some (.inr x), l1, l2] (.inr x :: st) w Q := zR_go (zst zT_51_58 rfl)
theorem zT_51_59 : zT 51 59 = some (.getfield 107, 3, 0, [(11, 36)]) := by decide +kernel
theorem zr_51_59 {l0 l1 l2 : Option zV} {h : Nat} {st : List zV} {w : zW} {Q : Option zV → zW → Prop} (hk : zk w h = 11) : zR 51 59 [l0, l1, l2] (.inr (some h) :: st) w Q = zR 51 62 [l0, l1, l2] (.inr (zp w 108 h) :: st) w Q := zR_go (zst zT_51_59 (zget_r hk rfl))
theorem zT_51_62 : zT 51 62 = some (.iload_n 1, 1, 0, []) := by decide +kernel
theorem zr_51_62 {l0 l2 : Option zV} {x : Int} {st : List zV} {w : zW} {Q : Option zV → zW → Prop}  : zR 51 62 [l0, some (.inl x), l2] st w Q = zR 51 63 [l0, some (.inl x), l2] (.inl x :: st) w Q := zR_go (zst zT_51_62 rfl)
theorem zT_51_63 : zT 51 63 = some (.aload_n 0, 1, 0, []) := by decide +kernel
theorem zr_51_63 {l1 l2 : Option zV} {x : Option Nat} {st : List zV} {w : zW} {Q : Option zV → zW → Prop}  : zR 51 63 [some (.inr x), l1, l2] st w Q = zR 51 64 [some (.inr x), l1, l2] (.inr x :: st) w Q := zR_go (zst zT_51_63 rfl)
theorem zT_51_64 : zT 51 64 = some (.getfield 205, 3, 0, [(11, 32)]) := by decide +kernel
theorem zr_51_64 {l0 l1 l2 : Option zV} {h : Nat} {st : List zV} {w : zW} {Q : Option zV → zW → Prop} (hk : zk w h = 11) : zR 51 64 [l0, l1, l2] (.inr (some h) :: st) w Q = zR 51 67 [l0, l1, l2] (.inl (zf w 104 h) :: st) w Q := zR_go (zst zT_51_64 (zget_i hk (Or.inl rfl)))
theorem zT_51_67 : zT 51 67 = some (.iastore, 1, 0, []) := by decide +kernel
theorem zr_51_67 {l0 l1 l2 : Option zV} {j x : Int} {h : Nat} {st : List zV} {w : zW} {Q : Option zV → zW → Prop} (hk : zk w h = zNC ∧ 0 ≤ zN j ∧ zN j < zl w h) : zR 51 67 [l0, l1, l2] (.inl x :: .inl j :: .inr (some h) :: st) w Q = zR 51 68 [l0, l1, l2] st (zsa w h (zN j).toNat x) Q := zR_go (zst zT_51_67 (if_pos hk))
theorem zT_51_68 : zT 51 68 = some (.iconst 0, 1, 0, []) := by decide +kernel
theorem zr_51_68 {l0 l1 l2 : Option zV} {st : List zV} {w : zW} {Q : Option zV → zW → Prop}  : zR 51 68 [l0, l1, l2] st w Q = zR 51 69 [l0, l1, l2] (.inl 0 :: st) w Q := zR_go (zst zT_51_68 rfl)
theorem zT_51_69 : zT 51 69 = some (.istore_n 2, 1, 0, []) := by decide +kernel
theorem zr_51_69 {l0 l1 l2 : Option zV} {x : Int} {st : List zV} {w : zW} {Q : Option zV → zW → Prop}  : zR 51 69 [l0, l1, l2] (.inl x :: st) w Q = zR 51 70 [l0, l1, some (.inl x)] st w Q := zR_go (zst zT_51_69 rfl)
theorem zT_51_70 : zT 51 70 = some (.iload_n 2, 1, 0, []) := by decide +kernel
theorem zr_51_70 {l0 l1 : Option zV} {x : Int} {st : List zV} {w : zW} {Q : Option zV → zW → Prop}  : zR 51 70 [l0, l1, some (.inl x)] st w Q = zR 51 71 [l0, l1, some (.inl x)] (.inl x :: st) w Q := zR_go (zst zT_51_70 rfl)
theorem zT_51_71 : zT 51 71 = some (.aload_n 0, 1, 0, []) := by decide +kernel
theorem zr_51_71 {l1 l2 : Option zV} {x : Option Nat} {st : List zV} {w : zW} {Q : Option zV → zW → Prop}  : zR 51 71 [some (.inr x), l1, l2] st w Q = zR 51 72 [some (.inr x), l1, l2] (.inr x :: st) w Q := zR_go (zst zT_51_71 rfl)
theorem zT_51_72 : zT 51 72 = some (.getfield 205, 3, 0, [(11, 32)]) := by decide +kernel
theorem zr_51_72 {l0 l1 l2 : Option zV} {h : Nat} {st : List zV} {w : zW} {Q : Option zV → zW → Prop} (hk : zk w h = 11) : zR 51 72 [l0, l1, l2] (.inr (some h) :: st) w Q = zR 51 75 [l0, l1, l2] (.inl (zf w 104 h) :: st) w Q := zR_go (zst zT_51_72 (zget_i hk (Or.inl rfl)))
theorem zT_51_75 : zT 51 75 = some (.if_icmp .ge 26, 3, 0, []) := by decide +kernel
theorem zr_51_75 {l0 l1 l2 : Option zV} {x y : Int} {st : List zV} {w : zW} {Q : Option zV → zW → Prop}  : zR 51 75 [l0, l1, l2] (.inl y :: .inl x :: st) w Q = (if zN y ≤ zN x then zR 51 101 [l0, l1, l2] st w Q else zR 51 78 [l0, l1, l2] st w Q) := zR_if (zstB zT_51_75 rfl) (by simp [zcmp])
theorem zT_51_78 : zT 51 78 = some (.aload_n 0, 1, 0, []) := by decide +kernel
theorem zr_51_78 {l1 l2 : Option zV} {x : Option Nat} {st : List zV} {w : zW} {Q : Option zV → zW → Prop}  : zR 51 78 [some (.inr x), l1, l2] st w Q = zR 51 79 [some (.inr x), l1, l2] (.inr x :: st) w Q := zR_go (zst zT_51_78 rfl)
theorem zT_51_79 : zT 51 79 = some (.getfield 104, 3, 0, [(11, 35)]) := by decide +kernel
theorem zr_51_79 {l0 l1 l2 : Option zV} {h : Nat} {st : List zV} {w : zW} {Q : Option zV → zW → Prop} (hk : zk w h = 11) : zR 51 79 [l0, l1, l2] (.inr (some h) :: st) w Q = zR 51 82 [l0, l1, l2] (.inr (zp w 107 h) :: st) w Q := zR_go (zst zT_51_79 (zget_r hk rfl))
theorem zT_51_82 : zT 51 82 = some (.bipush 16, 2, 0, []) := by decide +kernel
theorem zr_51_82 {l0 l1 l2 : Option zV} {st : List zV} {w : zW} {Q : Option zV → zW → Prop}  : zR 51 82 [l0, l1, l2] st w Q = zR 51 84 [l0, l1, l2] (.inl 16 :: st) w Q := zR_go (zst zT_51_82 rfl)
theorem zT_51_84 : zT 51 84 = some (.iload_n 1, 1, 0, []) := by decide +kernel
theorem zr_51_84 {l0 l2 : Option zV} {x : Int} {st : List zV} {w : zW} {Q : Option zV → zW → Prop}  : zR 51 84 [l0, some (.inl x), l2] st w Q = zR 51 85 [l0, some (.inl x), l2] (.inl x :: st) w Q := zR_go (zst zT_51_84 rfl)
theorem zT_51_85 : zT 51 85 = some (.imul, 1, 0, []) := by decide +kernel
theorem zr_51_85 {l0 l1 l2 : Option zV} {x y : Int} {st : List zV} {w : zW} {Q : Option zV → zW → Prop}  : zR 51 85 [l0, l1, l2] (.inl y :: .inl x :: st) w Q = zR 51 86 [l0, l1, l2] (.inl (x * y) :: st) w Q := zR_go (zst zT_51_85 rfl)
theorem zT_51_86 : zT 51 86 = some (.iload_n 2, 1, 0, []) := by decide +kernel
theorem zr_51_86 {l0 l1 : Option zV} {x : Int} {st : List zV} {w : zW} {Q : Option zV → zW → Prop}  : zR 51 86 [l0, l1, some (.inl x)] st w Q = zR 51 87 [l0, l1, some (.inl x)] (.inl x :: st) w Q := zR_go (zst zT_51_86 rfl)
theorem zT_51_87 : zT 51 87 = some (.iadd, 1, 0, []) := by decide +kernel
theorem zr_51_87 {l0 l1 l2 : Option zV} {x y : Int} {st : List zV} {w : zW} {Q : Option zV → zW → Prop}  : zR 51 87 [l0, l1, l2] (.inl y :: .inl x :: st) w Q = zR 51 88 [l0, l1, l2] (.inl (x + y) :: st) w Q := zR_go (zst zT_51_87 rfl)
theorem zT_51_88 : zT 51 88 = some (.aload_n 0, 1, 0, []) := by decide +kernel
theorem zr_51_88 {l1 l2 : Option zV} {x : Option Nat} {st : List zV} {w : zW} {Q : Option zV → zW → Prop}  : zR 51 88 [some (.inr x), l1, l2] st w Q = zR 51 89 [some (.inr x), l1, l2] (.inr x :: st) w Q := zR_go (zst zT_51_88 rfl)
theorem zT_51_89 : zT 51 89 = some (.getfield 98, 3, 0, [(11, 31)]) := by decide +kernel
theorem zr_51_89 {l0 l1 l2 : Option zV} {h : Nat} {st : List zV} {w : zW} {Q : Option zV → zW → Prop} (hk : zk w h = 11) : zR 51 89 [l0, l1, l2] (.inr (some h) :: st) w Q = zR 51 92 [l0, l1, l2] (.inr (zp w 103 h) :: st) w Q := zR_go (zst zT_51_89 (zget_r hk rfl))
theorem zT_51_92 : zT 51 92 = some (.iload_n 2, 1, 0, []) := by decide +kernel
theorem zr_51_92 {l0 l1 : Option zV} {x : Int} {st : List zV} {w : zW} {Q : Option zV → zW → Prop}  : zR 51 92 [l0, l1, some (.inl x)] st w Q = zR 51 93 [l0, l1, some (.inl x)] (.inl x :: st) w Q := zR_go (zst zT_51_92 rfl)
theorem zT_51_93 : zT 51 93 = some (.iaload, 1, 0, []) := by decide +kernel
theorem zr_51_93 {l0 l1 l2 : Option zV} {j : Int} {h : Nat} {st : List zV} {w : zW} {Q : Option zV → zW → Prop} (hk : (zk w h = zNC ∨ zk w h = zNC + 2) ∧ 0 ≤ zN j ∧ zN j < zl w h) : zR 51 93 [l0, l1, l2] (.inl j :: .inr (some h) :: st) w Q = zR 51 94 [l0, l1, l2] (.inl (za w h (zN j).toNat) :: st) w Q := zR_go (zst zT_51_93 (if_pos hk))
theorem zT_51_94 : zT 51 94 = some (.iastore, 1, 0, []) := by decide +kernel
theorem zr_51_94 {l0 l1 l2 : Option zV} {j x : Int} {h : Nat} {st : List zV} {w : zW} {Q : Option zV → zW → Prop} (hk : zk w h = zNC ∧ 0 ≤ zN j ∧ zN j < zl w h) : zR 51 94 [l0, l1, l2] (.inl x :: .inl j :: .inr (some h) :: st) w Q = zR 51 95 [l0, l1, l2] st (zsa w h (zN j).toNat x) Q := zR_go (zst zT_51_94 (if_pos hk))
theorem zT_51_95 : zT 51 95 = some (.iinc 2 1, 3, 0, []) := by decide +kernel
theorem zr_51_95 {l0 l1 : Option zV} {x : Int} {st : List zV} {w : zW} {Q : Option zV → zW → Prop}  : zR 51 95 [l0, l1, some (.inl x)] st w Q = zR 51 98 [l0, l1, some (.inl (x + 1))] st w Q := zR_go (zst zT_51_95 rfl)
theorem zT_51_98 : zT 51 98 = some (.goto (-28), 3, 0, []) := by decide +kernel
theorem zr_51_98 {l0 l1 l2 : Option zV} {st : List zV} {w : zW} {Q : Option zV → zW → Prop}  : zR 51 98 [l0, l1, l2] st w Q = zR 51 70 [l0, l1, l2] st w Q := zR_go (zst zT_51_98 rfl)
theorem zT_51_101 : zT 51 101 = some (.aload_n 0, 1, 0, []) := by decide +kernel
theorem zr_51_101 {l1 l2 : Option zV} {x : Option Nat} {st : List zV} {w : zW} {Q : Option zV → zW → Prop}  : zR 51 101 [some (.inr x), l1, l2] st w Q = zR 51 102 [some (.inr x), l1, l2] (.inr x :: st) w Q := zR_go (zst zT_51_101 rfl)
theorem zT_51_102 : zT 51 102 = some (.iconst 1, 1, 0, []) := by decide +kernel
theorem zr_51_102 {l0 l1 l2 : Option zV} {st : List zV} {w : zW} {Q : Option zV → zW → Prop}  : zR 51 102 [l0, l1, l2] st w Q = zR 51 103 [l0, l1, l2] (.inl 1 :: st) w Q := zR_go (zst zT_51_102 rfl)
theorem zT_51_103 : zT 51 103 = some (.invokevirtual 211, 3, 1, [(11, 49)]) := by decide +kernel
theorem zr_51_103 {l0 l1 l2 : Option zV} {a0 : zV} {h : Nat} {st : List zV} {w : zW} {Q : Option zV → zW → Prop} (hs : st.length ≤ 8) (hk : zk w h = 11) : zR 51 103 [l0, l1, l2] (a0 :: .inr (some h) :: st) w Q = zR 49 0 [some (.inr (some h)), some a0, none, none, none] [] w (fun r w2 => zR 51 106 [l0, l1, l2] (r.toList ++ st) w2 Q) := zR_call (zst zT_51_103 (zcall_v [a0] rfl hs hk rfl))
theorem zT_51_106 : zT 51 106 = some (.aload_n 0, 1, 0, []) := by decide +kernel
theorem zr_51_106 {l1 l2 : Option zV} {x : Option Nat} {st : List zV} {w : zW} {Q : Option zV → zW → Prop}  : zR 51 106 [some (.inr x), l1, l2] st w Q = zR 51 107 [some (.inr x), l1, l2] (.inr x :: st) w Q := zR_go (zst zT_51_106 rfl)
theorem zT_51_107 : zT 51 107 = some (.getfield 98, 3, 0, [(11, 31)]) := by decide +kernel
theorem zr_51_107 {l0 l1 l2 : Option zV} {h : Nat} {st : List zV} {w : zW} {Q : Option zV → zW → Prop} (hk : zk w h = 11) : zR 51 107 [l0, l1, l2] (.inr (some h) :: st) w Q = zR 51 110 [l0, l1, l2] (.inr (zp w 103 h) :: st) w Q := zR_go (zst zT_51_107 (zget_r hk rfl))
theorem zT_51_110 : zT 51 110 = some (.aload_n 0, 1, 0, []) := by decide +kernel
theorem zr_51_110 {l1 l2 : Option zV} {x : Option Nat} {st : List zV} {w : zW} {Q : Option zV → zW → Prop}  : zR 51 110 [some (.inr x), l1, l2] st w Q = zR 51 111 [some (.inr x), l1, l2] (.inr x :: st) w Q := zR_go (zst zT_51_110 rfl)
theorem zT_51_111 : zT 51 111 = some (.getfield 205, 3, 0, [(11, 32)]) := by decide +kernel
theorem zr_51_111 {l0 l1 l2 : Option zV} {h : Nat} {st : List zV} {w : zW} {Q : Option zV → zW → Prop} (hk : zk w h = 11) : zR 51 111 [l0, l1, l2] (.inr (some h) :: st) w Q = zR 51 114 [l0, l1, l2] (.inl (zf w 104 h) :: st) w Q := zR_go (zst zT_51_111 (zget_i hk (Or.inl rfl)))
theorem zT_51_114 : zT 51 114 = some (.iconst 1, 1, 0, []) := by decide +kernel
theorem zr_51_114 {l0 l1 l2 : Option zV} {st : List zV} {w : zW} {Q : Option zV → zW → Prop}  : zR 51 114 [l0, l1, l2] st w Q = zR 51 115 [l0, l1, l2] (.inl 1 :: st) w Q := zR_go (zst zT_51_114 rfl)
theorem zT_51_115 : zT 51 115 = some (.isub, 1, 0, []) := by decide +kernel
theorem zr_51_115 {l0 l1 l2 : Option zV} {x y : Int} {st : List zV} {w : zW} {Q : Option zV → zW → Prop}  : zR 51 115 [l0, l1, l2] (.inl y :: .inl x :: st) w Q = zR 51 116 [l0, l1, l2] (.inl (x - y) :: st) w Q := zR_go (zst zT_51_115 rfl)
theorem zT_51_116 : zT 51 116 = some (.iaload, 1, 0, []) := by decide +kernel
theorem zr_51_116 {l0 l1 l2 : Option zV} {j : Int} {h : Nat} {st : List zV} {w : zW} {Q : Option zV → zW → Prop} (hk : (zk w h = zNC ∨ zk w h = zNC + 2) ∧ 0 ≤ zN j ∧ zN j < zl w h) : zR 51 116 [l0, l1, l2] (.inl j :: .inr (some h) :: st) w Q = zR 51 117 [l0, l1, l2] (.inl (za w h (zN j).toNat) :: st) w Q := zR_go (zst zT_51_116 (if_pos hk))
theorem zT_51_117 : zT 51 117 = some (.if_icmp .ne 7, 3, 0, []) := by decide +kernel
theorem zr_51_117 {l0 l1 l2 : Option zV} {x y : Int} {st : List zV} {w : zW} {Q : Option zV → zW → Prop}  : zR 51 117 [l0, l1, l2] (.inl y :: .inl x :: st) w Q = (if zN x ≠ zN y then zR 51 124 [l0, l1, l2] st w Q else zR 51 120 [l0, l1, l2] st w Q) := zR_if (zstB zT_51_117 rfl) (by simp [zcmp])
theorem zT_51_120 : zT 51 120 = some (.iconst 1, 1, 0, []) := by decide +kernel
theorem zr_51_120 {l0 l1 l2 : Option zV} {st : List zV} {w : zW} {Q : Option zV → zW → Prop}  : zR 51 120 [l0, l1, l2] st w Q = zR 51 121 [l0, l1, l2] (.inl 1 :: st) w Q := zR_go (zst zT_51_120 rfl)
theorem zT_51_121 : zT 51 121 = some (.goto 4, 3, 0, []) := by decide +kernel
theorem zr_51_121 {l0 l1 l2 : Option zV} {st : List zV} {w : zW} {Q : Option zV → zW → Prop}  : zR 51 121 [l0, l1, l2] st w Q = zR 51 125 [l0, l1, l2] st w Q := zR_go (zst zT_51_121 rfl)
theorem zT_51_124 : zT 51 124 = some (.iconst 0, 1, 0, []) := by decide +kernel
theorem zr_51_124 {l0 l1 l2 : Option zV} {st : List zV} {w : zW} {Q : Option zV → zW → Prop}  : zR 51 124 [l0, l1, l2] st w Q = zR 51 125 [l0, l1, l2] (.inl 0 :: st) w Q := zR_go (zst zT_51_124 rfl)
theorem zT_51_125 : zT 51 125 = some (.ireturn, 1, 0, []) := by decide +kernel
theorem zr_51_125 {l0 l1 l2 : Option zV} {x : Int} {w : zW} {Q : Option zV → zW → Prop} (hx : zN x = 0 ∨ zN x = 1) : zR 51 125 [l0, l1, l2] [.inl x] w Q = Q (some (.inl x)) w := zR_ret (zst zT_51_125 (if_pos (Or.inr ⟨rfl, hx⟩)))
theorem zT_52_0 : zT 52 0 = some (.aload_n 0, 1, 0, []) := by decide +kernel
theorem zr_52_0 {l1 l2 : Option zV} {x : Option Nat} {st : List zV} {w : zW} {Q : Option zV → zW → Prop}  : zR 52 0 [some (.inr x), l1, l2] st w Q = zR 52 1 [some (.inr x), l1, l2] (.inr x :: st) w Q := zR_go (zst zT_52_0 rfl)
theorem zT_52_1 : zT 52 1 = some (.iconst 0, 1, 0, []) := by decide +kernel
theorem zr_52_1 {l0 l1 l2 : Option zV} {st : List zV} {w : zW} {Q : Option zV → zW → Prop}  : zR 52 1 [l0, l1, l2] st w Q = zR 52 2 [l0, l1, l2] (.inl 0 :: st) w Q := zR_go (zst zT_52_1 rfl)
theorem zT_52_2 : zT 52 2 = some (.putfield 205, 3, 0, [(11, 32)]) := by decide +kernel
theorem zr_52_2 {l0 l1 l2 : Option zV} {h : Nat} {x : Int} {st : List zV} {w : zW} {Q : Option zV → zW → Prop} (hk : zk w h = 11) : zR 52 2 [l0, l1, l2] (.inl x :: .inr (some h) :: st) w Q = zR 52 5 [l0, l1, l2] st (zsf w 104 h x) Q := zR_go (zst zT_52_2 (zput_i hk rfl))
theorem zT_52_5 : zT 52 5 = some (.aload_n 0, 1, 0, []) := by decide +kernel
theorem zr_52_5 {l1 l2 : Option zV} {x : Option Nat} {st : List zV} {w : zW} {Q : Option zV → zW → Prop}  : zR 52 5 [some (.inr x), l1, l2] st w Q = zR 52 6 [some (.inr x), l1, l2] (.inr x :: st) w Q := zR_go (zst zT_52_5 rfl)
theorem zT_52_6 : zT 52 6 = some (.aload_n 0, 1, 0, []) := by decide +kernel
theorem zr_52_6 {l1 l2 : Option zV} {x : Option Nat} {st : List zV} {w : zW} {Q : Option zV → zW → Prop}  : zR 52 6 [some (.inr x), l1, l2] st w Q = zR 52 7 [some (.inr x), l1, l2] (.inr x :: st) w Q := zR_go (zst zT_52_6 rfl)
theorem zT_52_7 : zT 52 7 = some (.iload_n 1, 1, 0, []) := by decide +kernel
theorem zr_52_7 {l0 l2 : Option zV} {x : Int} {st : List zV} {w : zW} {Q : Option zV → zW → Prop}  : zR 52 7 [l0, some (.inl x), l2] st w Q = zR 52 8 [l0, some (.inl x), l2] (.inl x :: st) w Q := zR_go (zst zT_52_7 rfl)
theorem zT_52_8 : zT 52 8 = some (.invokevirtual 217, 3, 1, [(11, 46)]) := by decide +kernel
theorem zr_52_8 {l0 l1 l2 : Option zV} {a0 : zV} {h : Nat} {st : List zV} {w : zW} {Q : Option zV → zW → Prop} (hs : st.length ≤ 8) (hk : zk w h = 11) : zR 52 8 [l0, l1, l2] (a0 :: .inr (some h) :: st) w Q = zR 46 0 [some (.inr (some h)), some a0, none] [] w (fun r w2 => zR 52 11 [l0, l1, l2] (r.toList ++ st) w2 Q) := zR_call (zst zT_52_8 (zcall_v [a0] rfl hs hk rfl))
theorem zT_52_11 : zT 52 11 = some (.invokevirtual 214, 3, 1, [(11, 47)]) := by decide +kernel
theorem zr_52_11 {l0 l1 l2 : Option zV} {a0 : zV} {h : Nat} {st : List zV} {w : zW} {Q : Option zV → zW → Prop} (hs : st.length ≤ 8) (hk : zk w h = 11) : zR 52 11 [l0, l1, l2] (a0 :: .inr (some h) :: st) w Q = zR 47 0 [some (.inr (some h)), some a0] [] w (fun r w2 => zR 52 14 [l0, l1, l2] (r.toList ++ st) w2 Q) := zR_call (zst zT_52_11 (zcall_v [a0] rfl hs hk rfl))
theorem zT_52_14 : zT 52 14 = some (.iconst 0, 1, 0, []) := by decide +kernel
theorem zr_52_14 {l0 l1 l2 : Option zV} {st : List zV} {w : zW} {Q : Option zV → zW → Prop}  : zR 52 14 [l0, l1, l2] st w Q = zR 52 15 [l0, l1, l2] (.inl 0 :: st) w Q := zR_go (zst zT_52_14 rfl)
theorem zT_52_15 : zT 52 15 = some (.istore_n 2, 1, 0, []) := by decide +kernel
theorem zr_52_15 {l0 l1 l2 : Option zV} {x : Int} {st : List zV} {w : zW} {Q : Option zV → zW → Prop}  : zR 52 15 [l0, l1, l2] (.inl x :: st) w Q = zR 52 16 [l0, l1, some (.inl x)] st w Q := zR_go (zst zT_52_15 rfl)
theorem zT_52_16 : zT 52 16 = some (.iload_n 2, 1, 0, []) := by decide +kernel
theorem zr_52_16 {l0 l1 : Option zV} {x : Int} {st : List zV} {w : zW} {Q : Option zV → zW → Prop}  : zR 52 16 [l0, l1, some (.inl x)] st w Q = zR 52 17 [l0, l1, some (.inl x)] (.inl x :: st) w Q := zR_go (zst zT_52_16 rfl)
theorem zT_52_17 : zT 52 17 = some (.iconst 3, 1, 0, []) := by decide +kernel
theorem zr_52_17 {l0 l1 l2 : Option zV} {st : List zV} {w : zW} {Q : Option zV → zW → Prop}  : zR 52 17 [l0, l1, l2] st w Q = zR 52 18 [l0, l1, l2] (.inl 3 :: st) w Q := zR_go (zst zT_52_17 rfl)
theorem zT_52_18 : zT 52 18 = some (.if_icmp .ge 24, 3, 0, []) := by decide +kernel
theorem zr_52_18 {l0 l1 l2 : Option zV} {x y : Int} {st : List zV} {w : zW} {Q : Option zV → zW → Prop}  : zR 52 18 [l0, l1, l2] (.inl y :: .inl x :: st) w Q = (if zN y ≤ zN x then zR 52 42 [l0, l1, l2] st w Q else zR 52 21 [l0, l1, l2] st w Q) := zR_if (zstB zT_52_18 rfl) (by simp [zcmp])
theorem zT_52_21 : zT 52 21 = some (.aload_n 0, 1, 0, []) := by decide +kernel
theorem zr_52_21 {l1 l2 : Option zV} {x : Option Nat} {st : List zV} {w : zW} {Q : Option zV → zW → Prop}  : zR 52 21 [some (.inr x), l1, l2] st w Q = zR 52 22 [some (.inr x), l1, l2] (.inr x :: st) w Q := zR_go (zst zT_52_21 rfl)
theorem zT_52_22 : zT 52 22 = some (.aload_n 0, 1, 0, []) := by decide +kernel
theorem zr_52_22 {l1 l2 : Option zV} {x : Option Nat} {st : List zV} {w : zW} {Q : Option zV → zW → Prop}  : zR 52 22 [some (.inr x), l1, l2] st w Q = zR 52 23 [some (.inr x), l1, l2] (.inr x :: st) w Q := zR_go (zst zT_52_22 rfl)
theorem zT_52_23 : zT 52 23 = some (.getfield 29, 3, 0, [(11, 7)]) := by decide +kernel
theorem zr_52_23 {l0 l1 l2 : Option zV} {h : Nat} {st : List zV} {w : zW} {Q : Option zV → zW → Prop} (hk : zk w h = 11) : zR 52 23 [l0, l1, l2] (.inr (some h) :: st) w Q = zR 52 26 [l0, l1, l2] (.inr (zp w 79 h) :: st) w Q := zR_go (zst zT_52_23 (zget_r hk rfl))
theorem zT_52_26 : zT 52 26 = some (.bipush 96, 2, 0, []) := by decide +kernel
theorem zr_52_26 {l0 l1 l2 : Option zV} {st : List zV} {w : zW} {Q : Option zV → zW → Prop}  : zR 52 26 [l0, l1, l2] st w Q = zR 52 28 [l0, l1, l2] (.inl 96 :: st) w Q := zR_go (zst zT_52_26 rfl)
theorem zT_52_28 : zT 52 28 = some (.iload_n 1, 1, 0, []) := by decide +kernel
theorem zr_52_28 {l0 l2 : Option zV} {x : Int} {st : List zV} {w : zW} {Q : Option zV → zW → Prop}  : zR 52 28 [l0, some (.inl x), l2] st w Q = zR 52 29 [l0, some (.inl x), l2] (.inl x :: st) w Q := zR_go (zst zT_52_28 rfl)
theorem zT_52_29 : zT 52 29 = some (.imul, 1, 0, []) := by decide +kernel
theorem zr_52_29 {l0 l1 l2 : Option zV} {x y : Int} {st : List zV} {w : zW} {Q : Option zV → zW → Prop}  : zR 52 29 [l0, l1, l2] (.inl y :: .inl x :: st) w Q = zR 52 30 [l0, l1, l2] (.inl (x * y) :: st) w Q := zR_go (zst zT_52_29 rfl)
theorem zT_52_30 : zT 52 30 = some (.iload_n 2, 1, 0, []) := by decide +kernel
theorem zr_52_30 {l0 l1 : Option zV} {x : Int} {st : List zV} {w : zW} {Q : Option zV → zW → Prop}  : zR 52 30 [l0, l1, some (.inl x)] st w Q = zR 52 31 [l0, l1, some (.inl x)] (.inl x :: st) w Q := zR_go (zst zT_52_30 rfl)
theorem zT_52_31 : zT 52 31 = some (.iadd, 1, 0, []) := by decide +kernel
theorem zr_52_31 {l0 l1 l2 : Option zV} {x y : Int} {st : List zV} {w : zW} {Q : Option zV → zW → Prop}  : zR 52 31 [l0, l1, l2] (.inl y :: .inl x :: st) w Q = zR 52 32 [l0, l1, l2] (.inl (x + y) :: st) w Q := zR_go (zst zT_52_31 rfl)
theorem zT_52_32 : zT 52 32 = some (.iaload, 1, 0, []) := by decide +kernel
theorem zr_52_32 {l0 l1 l2 : Option zV} {j : Int} {h : Nat} {st : List zV} {w : zW} {Q : Option zV → zW → Prop} (hk : (zk w h = zNC ∨ zk w h = zNC + 2) ∧ 0 ≤ zN j ∧ zN j < zl w h) : zR 52 32 [l0, l1, l2] (.inl j :: .inr (some h) :: st) w Q = zR 52 33 [l0, l1, l2] (.inl (za w h (zN j).toNat) :: st) w Q := zR_go (zst zT_52_32 (if_pos hk))
theorem zT_52_33 : zT 52 33 = some (.invokevirtual 214, 3, 1, [(11, 47)]) := by decide +kernel
theorem zr_52_33 {l0 l1 l2 : Option zV} {a0 : zV} {h : Nat} {st : List zV} {w : zW} {Q : Option zV → zW → Prop} (hs : st.length ≤ 8) (hk : zk w h = 11) : zR 52 33 [l0, l1, l2] (a0 :: .inr (some h) :: st) w Q = zR 47 0 [some (.inr (some h)), some a0] [] w (fun r w2 => zR 52 36 [l0, l1, l2] (r.toList ++ st) w2 Q) := zR_call (zst zT_52_33 (zcall_v [a0] rfl hs hk rfl))
theorem zT_52_36 : zT 52 36 = some (.iinc 2 1, 3, 0, []) := by decide +kernel
theorem zr_52_36 {l0 l1 : Option zV} {x : Int} {st : List zV} {w : zW} {Q : Option zV → zW → Prop}  : zR 52 36 [l0, l1, some (.inl x)] st w Q = zR 52 39 [l0, l1, some (.inl (x + 1))] st w Q := zR_go (zst zT_52_36 rfl)
theorem zT_52_39 : zT 52 39 = some (.goto (-23), 3, 0, []) := by decide +kernel
theorem zr_52_39 {l0 l1 l2 : Option zV} {st : List zV} {w : zW} {Q : Option zV → zW → Prop}  : zR 52 39 [l0, l1, l2] st w Q = zR 52 16 [l0, l1, l2] st w Q := zR_go (zst zT_52_39 rfl)
theorem zT_52_42 : zT 52 42 = some (.iconst 0, 1, 0, []) := by decide +kernel
theorem zr_52_42 {l0 l1 l2 : Option zV} {st : List zV} {w : zW} {Q : Option zV → zW → Prop}  : zR 52 42 [l0, l1, l2] st w Q = zR 52 43 [l0, l1, l2] (.inl 0 :: st) w Q := zR_go (zst zT_52_42 rfl)
theorem zT_52_43 : zT 52 43 = some (.istore_n 2, 1, 0, []) := by decide +kernel
theorem zr_52_43 {l0 l1 l2 : Option zV} {x : Int} {st : List zV} {w : zW} {Q : Option zV → zW → Prop}  : zR 52 43 [l0, l1, l2] (.inl x :: st) w Q = zR 52 44 [l0, l1, some (.inl x)] st w Q := zR_go (zst zT_52_43 rfl)
theorem zT_52_44 : zT 52 44 = some (.iload_n 2, 1, 0, []) := by decide +kernel
theorem zr_52_44 {l0 l1 : Option zV} {x : Int} {st : List zV} {w : zW} {Q : Option zV → zW → Prop}  : zR 52 44 [l0, l1, some (.inl x)] st w Q = zR 52 45 [l0, l1, some (.inl x)] (.inl x :: st) w Q := zR_go (zst zT_52_44 rfl)
theorem zT_52_45 : zT 52 45 = some (.aload_n 0, 1, 0, []) := by decide +kernel
theorem zr_52_45 {l1 l2 : Option zV} {x : Option Nat} {st : List zV} {w : zW} {Q : Option zV → zW → Prop}  : zR 52 45 [some (.inr x), l1, l2] st w Q = zR 52 46 [some (.inr x), l1, l2] (.inr x :: st) w Q := zR_go (zst zT_52_45 rfl)
theorem zT_52_46 : zT 52 46 = some (.getfield 29, 3, 0, [(11, 7)]) := by decide +kernel
theorem zr_52_46 {l0 l1 l2 : Option zV} {h : Nat} {st : List zV} {w : zW} {Q : Option zV → zW → Prop} (hk : zk w h = 11) : zR 52 46 [l0, l1, l2] (.inr (some h) :: st) w Q = zR 52 49 [l0, l1, l2] (.inr (zp w 79 h) :: st) w Q := zR_go (zst zT_52_46 (zget_r hk rfl))
theorem zT_52_49 : zT 52 49 = some (.bipush 96, 2, 0, []) := by decide +kernel
theorem zr_52_49 {l0 l1 l2 : Option zV} {st : List zV} {w : zW} {Q : Option zV → zW → Prop}  : zR 52 49 [l0, l1, l2] st w Q = zR 52 51 [l0, l1, l2] (.inl 96 :: st) w Q := zR_go (zst zT_52_49 rfl)
theorem zT_52_51 : zT 52 51 = some (.iload_n 1, 1, 0, []) := by decide +kernel
theorem zr_52_51 {l0 l2 : Option zV} {x : Int} {st : List zV} {w : zW} {Q : Option zV → zW → Prop}  : zR 52 51 [l0, some (.inl x), l2] st w Q = zR 52 52 [l0, some (.inl x), l2] (.inl x :: st) w Q := zR_go (zst zT_52_51 rfl)
theorem zT_52_52 : zT 52 52 = some (.imul, 1, 0, []) := by decide +kernel
theorem zr_52_52 {l0 l1 l2 : Option zV} {x y : Int} {st : List zV} {w : zW} {Q : Option zV → zW → Prop}  : zR 52 52 [l0, l1, l2] (.inl y :: .inl x :: st) w Q = zR 52 53 [l0, l1, l2] (.inl (x * y) :: st) w Q := zR_go (zst zT_52_52 rfl)
theorem zT_52_53 : zT 52 53 = some (.iconst 3, 1, 0, []) := by decide +kernel
theorem zr_52_53 {l0 l1 l2 : Option zV} {st : List zV} {w : zW} {Q : Option zV → zW → Prop}  : zR 52 53 [l0, l1, l2] st w Q = zR 52 54 [l0, l1, l2] (.inl 3 :: st) w Q := zR_go (zst zT_52_53 rfl)
theorem zT_52_54 : zT 52 54 = some (.iadd, 1, 0, []) := by decide +kernel
theorem zr_52_54 {l0 l1 l2 : Option zV} {x y : Int} {st : List zV} {w : zW} {Q : Option zV → zW → Prop}  : zR 52 54 [l0, l1, l2] (.inl y :: .inl x :: st) w Q = zR 52 55 [l0, l1, l2] (.inl (x + y) :: st) w Q := zR_go (zst zT_52_54 rfl)
theorem zT_52_55 : zT 52 55 = some (.iaload, 1, 0, []) := by decide +kernel
theorem zr_52_55 {l0 l1 l2 : Option zV} {j : Int} {h : Nat} {st : List zV} {w : zW} {Q : Option zV → zW → Prop} (hk : (zk w h = zNC ∨ zk w h = zNC + 2) ∧ 0 ≤ zN j ∧ zN j < zl w h) : zR 52 55 [l0, l1, l2] (.inl j :: .inr (some h) :: st) w Q = zR 52 56 [l0, l1, l2] (.inl (za w h (zN j).toNat) :: st) w Q := zR_go (zst zT_52_55 (if_pos hk))
theorem zT_52_56 : zT 52 56 = some (.if_icmp .ge 26, 3, 0, []) := by decide +kernel
theorem zr_52_56 {l0 l1 l2 : Option zV} {x y : Int} {st : List zV} {w : zW} {Q : Option zV → zW → Prop}  : zR 52 56 [l0, l1, l2] (.inl y :: .inl x :: st) w Q = (if zN y ≤ zN x then zR 52 82 [l0, l1, l2] st w Q else zR 52 59 [l0, l1, l2] st w Q) := zR_if (zstB zT_52_56 rfl) (by simp [zcmp])
theorem zT_52_59 : zT 52 59 = some (.aload_n 0, 1, 0, []) := by decide +kernel
theorem zr_52_59 {l1 l2 : Option zV} {x : Option Nat} {st : List zV} {w : zW} {Q : Option zV → zW → Prop}  : zR 52 59 [some (.inr x), l1, l2] st w Q = zR 52 60 [some (.inr x), l1, l2] (.inr x :: st) w Q := zR_go (zst zT_52_59 rfl)
theorem zT_52_60 : zT 52 60 = some (.aload_n 0, 1, 0, []) := by decide +kernel
theorem zr_52_60 {l1 l2 : Option zV} {x : Option Nat} {st : List zV} {w : zW} {Q : Option zV → zW → Prop}  : zR 52 60 [some (.inr x), l1, l2] st w Q = zR 52 61 [some (.inr x), l1, l2] (.inr x :: st) w Q := zR_go (zst zT_52_60 rfl)
theorem zT_52_61 : zT 52 61 = some (.getfield 29, 3, 0, [(11, 7)]) := by decide +kernel
theorem zr_52_61 {l0 l1 l2 : Option zV} {h : Nat} {st : List zV} {w : zW} {Q : Option zV → zW → Prop} (hk : zk w h = 11) : zR 52 61 [l0, l1, l2] (.inr (some h) :: st) w Q = zR 52 64 [l0, l1, l2] (.inr (zp w 79 h) :: st) w Q := zR_go (zst zT_52_61 (zget_r hk rfl))
theorem zT_52_64 : zT 52 64 = some (.bipush 96, 2, 0, []) := by decide +kernel
theorem zr_52_64 {l0 l1 l2 : Option zV} {st : List zV} {w : zW} {Q : Option zV → zW → Prop}  : zR 52 64 [l0, l1, l2] st w Q = zR 52 66 [l0, l1, l2] (.inl 96 :: st) w Q := zR_go (zst zT_52_64 rfl)
theorem zT_52_66 : zT 52 66 = some (.iload_n 1, 1, 0, []) := by decide +kernel
theorem zr_52_66 {l0 l2 : Option zV} {x : Int} {st : List zV} {w : zW} {Q : Option zV → zW → Prop}  : zR 52 66 [l0, some (.inl x), l2] st w Q = zR 52 67 [l0, some (.inl x), l2] (.inl x :: st) w Q := zR_go (zst zT_52_66 rfl)
theorem zT_52_67 : zT 52 67 = some (.imul, 1, 0, []) := by decide +kernel
theorem zr_52_67 {l0 l1 l2 : Option zV} {x y : Int} {st : List zV} {w : zW} {Q : Option zV → zW → Prop}  : zR 52 67 [l0, l1, l2] (.inl y :: .inl x :: st) w Q = zR 52 68 [l0, l1, l2] (.inl (x * y) :: st) w Q := zR_go (zst zT_52_67 rfl)
theorem zT_52_68 : zT 52 68 = some (.iconst 4, 1, 0, []) := by decide +kernel
theorem zr_52_68 {l0 l1 l2 : Option zV} {st : List zV} {w : zW} {Q : Option zV → zW → Prop}  : zR 52 68 [l0, l1, l2] st w Q = zR 52 69 [l0, l1, l2] (.inl 4 :: st) w Q := zR_go (zst zT_52_68 rfl)
theorem zT_52_69 : zT 52 69 = some (.iadd, 1, 0, []) := by decide +kernel
theorem zr_52_69 {l0 l1 l2 : Option zV} {x y : Int} {st : List zV} {w : zW} {Q : Option zV → zW → Prop}  : zR 52 69 [l0, l1, l2] (.inl y :: .inl x :: st) w Q = zR 52 70 [l0, l1, l2] (.inl (x + y) :: st) w Q := zR_go (zst zT_52_69 rfl)
theorem zT_52_70 : zT 52 70 = some (.iload_n 2, 1, 0, []) := by decide +kernel
theorem zr_52_70 {l0 l1 : Option zV} {x : Int} {st : List zV} {w : zW} {Q : Option zV → zW → Prop}  : zR 52 70 [l0, l1, some (.inl x)] st w Q = zR 52 71 [l0, l1, some (.inl x)] (.inl x :: st) w Q := zR_go (zst zT_52_70 rfl)
theorem zT_52_71 : zT 52 71 = some (.iadd, 1, 0, []) := by decide +kernel
theorem zr_52_71 {l0 l1 l2 : Option zV} {x y : Int} {st : List zV} {w : zW} {Q : Option zV → zW → Prop}  : zR 52 71 [l0, l1, l2] (.inl y :: .inl x :: st) w Q = zR 52 72 [l0, l1, l2] (.inl (x + y) :: st) w Q := zR_go (zst zT_52_71 rfl)
theorem zT_52_72 : zT 52 72 = some (.iaload, 1, 0, []) := by decide +kernel
theorem zr_52_72 {l0 l1 l2 : Option zV} {j : Int} {h : Nat} {st : List zV} {w : zW} {Q : Option zV → zW → Prop} (hk : (zk w h = zNC ∨ zk w h = zNC + 2) ∧ 0 ≤ zN j ∧ zN j < zl w h) : zR 52 72 [l0, l1, l2] (.inl j :: .inr (some h) :: st) w Q = zR 52 73 [l0, l1, l2] (.inl (za w h (zN j).toNat) :: st) w Q := zR_go (zst zT_52_72 (if_pos hk))
theorem zT_52_73 : zT 52 73 = some (.invokevirtual 214, 3, 1, [(11, 47)]) := by decide +kernel
theorem zr_52_73 {l0 l1 l2 : Option zV} {a0 : zV} {h : Nat} {st : List zV} {w : zW} {Q : Option zV → zW → Prop} (hs : st.length ≤ 8) (hk : zk w h = 11) : zR 52 73 [l0, l1, l2] (a0 :: .inr (some h) :: st) w Q = zR 47 0 [some (.inr (some h)), some a0] [] w (fun r w2 => zR 52 76 [l0, l1, l2] (r.toList ++ st) w2 Q) := zR_call (zst zT_52_73 (zcall_v [a0] rfl hs hk rfl))
theorem zT_52_76 : zT 52 76 = some (.iinc 2 1, 3, 0, []) := by decide +kernel
theorem zr_52_76 {l0 l1 : Option zV} {x : Int} {st : List zV} {w : zW} {Q : Option zV → zW → Prop}  : zR 52 76 [l0, l1, some (.inl x)] st w Q = zR 52 79 [l0, l1, some (.inl (x + 1))] st w Q := zR_go (zst zT_52_76 rfl)
theorem zT_52_79 : zT 52 79 = some (.goto (-35), 3, 0, []) := by decide +kernel
theorem zr_52_79 {l0 l1 l2 : Option zV} {st : List zV} {w : zW} {Q : Option zV → zW → Prop}  : zR 52 79 [l0, l1, l2] st w Q = zR 52 44 [l0, l1, l2] st w Q := zR_go (zst zT_52_79 rfl)
theorem zT_52_82 : zT 52 82 = some (.aload_n 0, 1, 0, []) := by decide +kernel
theorem zr_52_82 {l1 l2 : Option zV} {x : Option Nat} {st : List zV} {w : zW} {Q : Option zV → zW → Prop}  : zR 52 82 [some (.inr x), l1, l2] st w Q = zR 52 83 [some (.inr x), l1, l2] (.inr x :: st) w Q := zR_go (zst zT_52_82 rfl)
theorem zT_52_83 : zT 52 83 = some (.invokevirtual 220, 3, 0, [(11, 50)]) := by decide +kernel
theorem zr_52_83 {l0 l1 l2 : Option zV} {h : Nat} {st : List zV} {w : zW} {Q : Option zV → zW → Prop} (hs : st.length ≤ 8) (hk : zk w h = 11) : zR 52 83 [l0, l1, l2] (.inr (some h) :: st) w Q = zR 50 0 [some (.inr (some h)), none] [] w (fun r w2 => zR 52 86 [l0, l1, l2] (r.toList ++ st) w2 Q) := zR_call (zst zT_52_83 (zcall_v [] rfl hs hk rfl))
theorem zT_52_86 : zT 52 86 = some (.return_, 1, 0, []) := by decide +kernel
theorem zr_52_86 {l0 l1 l2 : Option zV} {w : zW} {Q : Option zV → zW → Prop} : zR 52 86 [l0, l1, l2] [] w Q = Q none w := zR_ret (zst zT_52_86 rfl)
theorem zT_53_0 : zT 53 0 = some (.iconst 0, 1, 0, []) := by decide +kernel
theorem zr_53_0 {l0 l1 : Option zV} {st : List zV} {w : zW} {Q : Option zV → zW → Prop}  : zR 53 0 [l0, l1] st w Q = zR 53 1 [l0, l1] (.inl 0 :: st) w Q := zR_go (zst zT_53_0 rfl)
theorem zT_53_1 : zT 53 1 = some (.istore_n 1, 1, 0, []) := by decide +kernel
theorem zr_53_1 {l0 l1 : Option zV} {x : Int} {st : List zV} {w : zW} {Q : Option zV → zW → Prop}  : zR 53 1 [l0, l1] (.inl x :: st) w Q = zR 53 2 [l0, some (.inl x)] st w Q := zR_go (zst zT_53_1 rfl)
theorem zT_53_2 : zT 53 2 = some (.iload_n 1, 1, 0, []) := by decide +kernel
theorem zr_53_2 {l0 : Option zV} {x : Int} {st : List zV} {w : zW} {Q : Option zV → zW → Prop}  : zR 53 2 [l0, some (.inl x)] st w Q = zR 53 3 [l0, some (.inl x)] (.inl x :: st) w Q := zR_go (zst zT_53_2 rfl)
theorem zT_53_3 : zT 53 3 = some (.aload_n 0, 1, 0, []) := by decide +kernel
theorem zr_53_3 {l1 : Option zV} {x : Option Nat} {st : List zV} {w : zW} {Q : Option zV → zW → Prop}  : zR 53 3 [some (.inr x), l1] st w Q = zR 53 4 [some (.inr x), l1] (.inr x :: st) w Q := zR_go (zst zT_53_3 rfl)
theorem zT_53_4 : zT 53 4 = some (.getfield 205, 3, 0, [(11, 32)]) := by decide +kernel
theorem zr_53_4 {l0 l1 : Option zV} {h : Nat} {st : List zV} {w : zW} {Q : Option zV → zW → Prop} (hk : zk w h = 11) : zR 53 4 [l0, l1] (.inr (some h) :: st) w Q = zR 53 7 [l0, l1] (.inl (zf w 104 h) :: st) w Q := zR_go (zst zT_53_4 (zget_i hk (Or.inl rfl)))
theorem zT_53_7 : zT 53 7 = some (.if_icmp .ge 53, 3, 0, []) := by decide +kernel
theorem zr_53_7 {l0 l1 : Option zV} {x y : Int} {st : List zV} {w : zW} {Q : Option zV → zW → Prop}  : zR 53 7 [l0, l1] (.inl y :: .inl x :: st) w Q = (if zN y ≤ zN x then zR 53 60 [l0, l1] st w Q else zR 53 10 [l0, l1] st w Q) := zR_if (zstB zT_53_7 rfl) (by simp [zcmp])
theorem zT_53_10 : zT 53 10 = some (.iload_n 1, 1, 0, []) := by decide +kernel
theorem zr_53_10 {l0 : Option zV} {x : Int} {st : List zV} {w : zW} {Q : Option zV → zW → Prop}  : zR 53 10 [l0, some (.inl x)] st w Q = zR 53 11 [l0, some (.inl x)] (.inl x :: st) w Q := zR_go (zst zT_53_10 rfl)
theorem zT_53_11 : zT 53 11 = some (.aload_n 0, 1, 0, []) := by decide +kernel
theorem zr_53_11 {l1 : Option zV} {x : Option Nat} {st : List zV} {w : zW} {Q : Option zV → zW → Prop}  : zR 53 11 [some (.inr x), l1] st w Q = zR 53 12 [some (.inr x), l1] (.inr x :: st) w Q := zR_go (zst zT_53_11 rfl)
theorem zT_53_12 : zT 53 12 = some (.getfield 223, 3, 0, [(11, 34)]) := by decide +kernel
theorem zr_53_12 {l0 l1 : Option zV} {h : Nat} {st : List zV} {w : zW} {Q : Option zV → zW → Prop} (hk : zk w h = 11) : zR 53 12 [l0, l1] (.inr (some h) :: st) w Q = zR 53 15 [l0, l1] (.inl (zf w 106 h) :: st) w Q := zR_go (zst zT_53_12 (zget_i hk (Or.inl rfl)))
theorem zT_53_15 : zT 53 15 = some (.if_icmp .ge 45, 3, 0, []) := by decide +kernel
theorem zr_53_15 {l0 l1 : Option zV} {x y : Int} {st : List zV} {w : zW} {Q : Option zV → zW → Prop}  : zR 53 15 [l0, l1] (.inl y :: .inl x :: st) w Q = (if zN y ≤ zN x then zR 53 60 [l0, l1] st w Q else zR 53 18 [l0, l1] st w Q) := zR_if (zstB zT_53_15 rfl) (by simp [zcmp])
theorem zT_53_18 : zT 53 18 = some (.aload_n 0, 1, 0, []) := by decide +kernel
theorem zr_53_18 {l1 : Option zV} {x : Option Nat} {st : List zV} {w : zW} {Q : Option zV → zW → Prop}  : zR 53 18 [some (.inr x), l1] st w Q = zR 53 19 [some (.inr x), l1] (.inr x :: st) w Q := zR_go (zst zT_53_18 rfl)
theorem zT_53_19 : zT 53 19 = some (.getfield 98, 3, 0, [(11, 31)]) := by decide +kernel
theorem zr_53_19 {l0 l1 : Option zV} {h : Nat} {st : List zV} {w : zW} {Q : Option zV → zW → Prop} (hk : zk w h = 11) : zR 53 19 [l0, l1] (.inr (some h) :: st) w Q = zR 53 22 [l0, l1] (.inr (zp w 103 h) :: st) w Q := zR_go (zst zT_53_19 (zget_r hk rfl))
theorem zT_53_22 : zT 53 22 = some (.iload_n 1, 1, 0, []) := by decide +kernel
theorem zr_53_22 {l0 : Option zV} {x : Int} {st : List zV} {w : zW} {Q : Option zV → zW → Prop}  : zR 53 22 [l0, some (.inl x)] st w Q = zR 53 23 [l0, some (.inl x)] (.inl x :: st) w Q := zR_go (zst zT_53_22 rfl)
theorem zT_53_23 : zT 53 23 = some (.iaload, 1, 0, []) := by decide +kernel
theorem zr_53_23 {l0 l1 : Option zV} {j : Int} {h : Nat} {st : List zV} {w : zW} {Q : Option zV → zW → Prop} (hk : (zk w h = zNC ∨ zk w h = zNC + 2) ∧ 0 ≤ zN j ∧ zN j < zl w h) : zR 53 23 [l0, l1] (.inl j :: .inr (some h) :: st) w Q = zR 53 24 [l0, l1] (.inl (za w h (zN j).toNat) :: st) w Q := zR_go (zst zT_53_23 (if_pos hk))
theorem zT_53_24 : zT 53 24 = some (.aload_n 0, 1, 0, []) := by decide +kernel
theorem zr_53_24 {l1 : Option zV} {x : Option Nat} {st : List zV} {w : zW} {Q : Option zV → zW → Prop}  : zR 53 24 [some (.inr x), l1] st w Q = zR 53 25 [some (.inr x), l1] (.inr x :: st) w Q := zR_go (zst zT_53_24 rfl)
theorem zT_53_25 : zT 53 25 = some (.getfield 101, 3, 0, [(11, 33)]) := by decide +kernel
theorem zr_53_25 {l0 l1 : Option zV} {h : Nat} {st : List zV} {w : zW} {Q : Option zV → zW → Prop} (hk : zk w h = 11) : zR 53 25 [l0, l1] (.inr (some h) :: st) w Q = zR 53 28 [l0, l1] (.inr (zp w 105 h) :: st) w Q := zR_go (zst zT_53_25 (zget_r hk rfl))
theorem zT_53_28 : zT 53 28 = some (.iload_n 1, 1, 0, []) := by decide +kernel
theorem zr_53_28 {l0 : Option zV} {x : Int} {st : List zV} {w : zW} {Q : Option zV → zW → Prop}  : zR 53 28 [l0, some (.inl x)] st w Q = zR 53 29 [l0, some (.inl x)] (.inl x :: st) w Q := zR_go (zst zT_53_28 rfl)
theorem zT_53_29 : zT 53 29 = some (.iaload, 1, 0, []) := by decide +kernel
theorem zr_53_29 {l0 l1 : Option zV} {j : Int} {h : Nat} {st : List zV} {w : zW} {Q : Option zV → zW → Prop} (hk : (zk w h = zNC ∨ zk w h = zNC + 2) ∧ 0 ≤ zN j ∧ zN j < zl w h) : zR 53 29 [l0, l1] (.inl j :: .inr (some h) :: st) w Q = zR 53 30 [l0, l1] (.inl (za w h (zN j).toNat) :: st) w Q := zR_go (zst zT_53_29 (if_pos hk))
theorem zT_53_30 : zT 53 30 = some (.if_icmp .eq 24, 3, 0, []) := by decide +kernel
theorem zr_53_30 {l0 l1 : Option zV} {x y : Int} {st : List zV} {w : zW} {Q : Option zV → zW → Prop}  : zR 53 30 [l0, l1] (.inl y :: .inl x :: st) w Q = (if zN x = zN y then zR 53 54 [l0, l1] st w Q else zR 53 33 [l0, l1] st w Q) := zR_if (zstB zT_53_30 rfl) (by simp [zcmp])
theorem zT_53_33 : zT 53 33 = some (.aload_n 0, 1, 0, []) := by decide +kernel
theorem zr_53_33 {l1 : Option zV} {x : Option Nat} {st : List zV} {w : zW} {Q : Option zV → zW → Prop}  : zR 53 33 [some (.inr x), l1] st w Q = zR 53 34 [some (.inr x), l1] (.inr x :: st) w Q := zR_go (zst zT_53_33 rfl)
theorem zT_53_34 : zT 53 34 = some (.getfield 98, 3, 0, [(11, 31)]) := by decide +kernel
theorem zr_53_34 {l0 l1 : Option zV} {h : Nat} {st : List zV} {w : zW} {Q : Option zV → zW → Prop} (hk : zk w h = 11) : zR 53 34 [l0, l1] (.inr (some h) :: st) w Q = zR 53 37 [l0, l1] (.inr (zp w 103 h) :: st) w Q := zR_go (zst zT_53_34 (zget_r hk rfl))
theorem zT_53_37 : zT 53 37 = some (.iload_n 1, 1, 0, []) := by decide +kernel
theorem zr_53_37 {l0 : Option zV} {x : Int} {st : List zV} {w : zW} {Q : Option zV → zW → Prop}  : zR 53 37 [l0, some (.inl x)] st w Q = zR 53 38 [l0, some (.inl x)] (.inl x :: st) w Q := zR_go (zst zT_53_37 rfl)
theorem zT_53_38 : zT 53 38 = some (.iaload, 1, 0, []) := by decide +kernel
theorem zr_53_38 {l0 l1 : Option zV} {j : Int} {h : Nat} {st : List zV} {w : zW} {Q : Option zV → zW → Prop} (hk : (zk w h = zNC ∨ zk w h = zNC + 2) ∧ 0 ≤ zN j ∧ zN j < zl w h) : zR 53 38 [l0, l1] (.inl j :: .inr (some h) :: st) w Q = zR 53 39 [l0, l1] (.inl (za w h (zN j).toNat) :: st) w Q := zR_go (zst zT_53_38 (if_pos hk))
theorem zT_53_39 : zT 53 39 = some (.aload_n 0, 1, 0, []) := by decide +kernel
theorem zr_53_39 {l1 : Option zV} {x : Option Nat} {st : List zV} {w : zW} {Q : Option zV → zW → Prop}  : zR 53 39 [some (.inr x), l1] st w Q = zR 53 40 [some (.inr x), l1] (.inr x :: st) w Q := zR_go (zst zT_53_39 rfl)
theorem zT_53_40 : zT 53 40 = some (.getfield 101, 3, 0, [(11, 33)]) := by decide +kernel
theorem zr_53_40 {l0 l1 : Option zV} {h : Nat} {st : List zV} {w : zW} {Q : Option zV → zW → Prop} (hk : zk w h = 11) : zR 53 40 [l0, l1] (.inr (some h) :: st) w Q = zR 53 43 [l0, l1] (.inr (zp w 105 h) :: st) w Q := zR_go (zst zT_53_40 (zget_r hk rfl))
theorem zT_53_43 : zT 53 43 = some (.iload_n 1, 1, 0, []) := by decide +kernel
theorem zr_53_43 {l0 : Option zV} {x : Int} {st : List zV} {w : zW} {Q : Option zV → zW → Prop}  : zR 53 43 [l0, some (.inl x)] st w Q = zR 53 44 [l0, some (.inl x)] (.inl x :: st) w Q := zR_go (zst zT_53_43 rfl)
theorem zT_53_44 : zT 53 44 = some (.iaload, 1, 0, []) := by decide +kernel
theorem zr_53_44 {l0 l1 : Option zV} {j : Int} {h : Nat} {st : List zV} {w : zW} {Q : Option zV → zW → Prop} (hk : (zk w h = zNC ∨ zk w h = zNC + 2) ∧ 0 ≤ zN j ∧ zN j < zl w h) : zR 53 44 [l0, l1] (.inl j :: .inr (some h) :: st) w Q = zR 53 45 [l0, l1] (.inl (za w h (zN j).toNat) :: st) w Q := zR_go (zst zT_53_44 (if_pos hk))
theorem zT_53_45 : zT 53 45 = some (.if_icmp .ge 7, 3, 0, []) := by decide +kernel
theorem zr_53_45 {l0 l1 : Option zV} {x y : Int} {st : List zV} {w : zW} {Q : Option zV → zW → Prop}  : zR 53 45 [l0, l1] (.inl y :: .inl x :: st) w Q = (if zN y ≤ zN x then zR 53 52 [l0, l1] st w Q else zR 53 48 [l0, l1] st w Q) := zR_if (zstB zT_53_45 rfl) (by simp [zcmp])
theorem zT_53_48 : zT 53 48 = some (.iconst 1, 1, 0, []) := by decide +kernel
theorem zr_53_48 {l0 l1 : Option zV} {st : List zV} {w : zW} {Q : Option zV → zW → Prop}  : zR 53 48 [l0, l1] st w Q = zR 53 49 [l0, l1] (.inl 1 :: st) w Q := zR_go (zst zT_53_48 rfl)
theorem zT_53_49 : zT 53 49 = some (.goto 4, 3, 0, []) := by decide +kernel
theorem zr_53_49 {l0 l1 : Option zV} {st : List zV} {w : zW} {Q : Option zV → zW → Prop}  : zR 53 49 [l0, l1] st w Q = zR 53 53 [l0, l1] st w Q := zR_go (zst zT_53_49 rfl)
theorem zT_53_52 : zT 53 52 = some (.iconst 0, 1, 0, []) := by decide +kernel
theorem zr_53_52 {l0 l1 : Option zV} {st : List zV} {w : zW} {Q : Option zV → zW → Prop}  : zR 53 52 [l0, l1] st w Q = zR 53 53 [l0, l1] (.inl 0 :: st) w Q := zR_go (zst zT_53_52 rfl)
theorem zT_53_53 : zT 53 53 = some (.ireturn, 1, 0, []) := by decide +kernel
theorem zr_53_53 {l0 l1 : Option zV} {x : Int} {w : zW} {Q : Option zV → zW → Prop} (hx : zN x = 0 ∨ zN x = 1) : zR 53 53 [l0, l1] [.inl x] w Q = Q (some (.inl x)) w := zR_ret (zst zT_53_53 (if_pos (Or.inr ⟨rfl, hx⟩)))
theorem zT_53_54 : zT 53 54 = some (.iinc 1 1, 3, 0, []) := by decide +kernel
theorem zr_53_54 {l0 : Option zV} {x : Int} {st : List zV} {w : zW} {Q : Option zV → zW → Prop}  : zR 53 54 [l0, some (.inl x)] st w Q = zR 53 57 [l0, some (.inl (x + 1))] st w Q := zR_go (zst zT_53_54 rfl)
theorem zT_53_57 : zT 53 57 = some (.goto (-55), 3, 0, []) := by decide +kernel
theorem zr_53_57 {l0 l1 : Option zV} {st : List zV} {w : zW} {Q : Option zV → zW → Prop}  : zR 53 57 [l0, l1] st w Q = zR 53 2 [l0, l1] st w Q := zR_go (zst zT_53_57 rfl)
theorem zT_53_60 : zT 53 60 = some (.aload_n 0, 1, 0, []) := by decide +kernel
theorem zr_53_60 {l1 : Option zV} {x : Option Nat} {st : List zV} {w : zW} {Q : Option zV → zW → Prop}  : zR 53 60 [some (.inr x), l1] st w Q = zR 53 61 [some (.inr x), l1] (.inr x :: st) w Q := zR_go (zst zT_53_60 rfl)
theorem zT_53_61 : zT 53 61 = some (.getfield 205, 3, 0, [(11, 32)]) := by decide +kernel
theorem zr_53_61 {l0 l1 : Option zV} {h : Nat} {st : List zV} {w : zW} {Q : Option zV → zW → Prop} (hk : zk w h = 11) : zR 53 61 [l0, l1] (.inr (some h) :: st) w Q = zR 53 64 [l0, l1] (.inl (zf w 104 h) :: st) w Q := zR_go (zst zT_53_61 (zget_i hk (Or.inl rfl)))
theorem zT_53_64 : zT 53 64 = some (.aload_n 0, 1, 0, []) := by decide +kernel
theorem zr_53_64 {l1 : Option zV} {x : Option Nat} {st : List zV} {w : zW} {Q : Option zV → zW → Prop}  : zR 53 64 [some (.inr x), l1] st w Q = zR 53 65 [some (.inr x), l1] (.inr x :: st) w Q := zR_go (zst zT_53_64 rfl)
theorem zT_53_65 : zT 53 65 = some (.getfield 223, 3, 0, [(11, 34)]) := by decide +kernel
theorem zr_53_65 {l0 l1 : Option zV} {h : Nat} {st : List zV} {w : zW} {Q : Option zV → zW → Prop} (hk : zk w h = 11) : zR 53 65 [l0, l1] (.inr (some h) :: st) w Q = zR 53 68 [l0, l1] (.inl (zf w 106 h) :: st) w Q := zR_go (zst zT_53_65 (zget_i hk (Or.inl rfl)))
theorem zT_53_68 : zT 53 68 = some (.if_icmp .ge 7, 3, 0, []) := by decide +kernel
theorem zr_53_68 {l0 l1 : Option zV} {x y : Int} {st : List zV} {w : zW} {Q : Option zV → zW → Prop}  : zR 53 68 [l0, l1] (.inl y :: .inl x :: st) w Q = (if zN y ≤ zN x then zR 53 75 [l0, l1] st w Q else zR 53 71 [l0, l1] st w Q) := zR_if (zstB zT_53_68 rfl) (by simp [zcmp])
theorem zT_53_71 : zT 53 71 = some (.iconst 1, 1, 0, []) := by decide +kernel
theorem zr_53_71 {l0 l1 : Option zV} {st : List zV} {w : zW} {Q : Option zV → zW → Prop}  : zR 53 71 [l0, l1] st w Q = zR 53 72 [l0, l1] (.inl 1 :: st) w Q := zR_go (zst zT_53_71 rfl)
theorem zT_53_72 : zT 53 72 = some (.goto 4, 3, 0, []) := by decide +kernel
theorem zr_53_72 {l0 l1 : Option zV} {st : List zV} {w : zW} {Q : Option zV → zW → Prop}  : zR 53 72 [l0, l1] st w Q = zR 53 76 [l0, l1] st w Q := zR_go (zst zT_53_72 rfl)
theorem zT_53_75 : zT 53 75 = some (.iconst 0, 1, 0, []) := by decide +kernel
theorem zr_53_75 {l0 l1 : Option zV} {st : List zV} {w : zW} {Q : Option zV → zW → Prop}  : zR 53 75 [l0, l1] st w Q = zR 53 76 [l0, l1] (.inl 0 :: st) w Q := zR_go (zst zT_53_75 rfl)
theorem zT_53_76 : zT 53 76 = some (.ireturn, 1, 0, []) := by decide +kernel
theorem zr_53_76 {l0 l1 : Option zV} {x : Int} {w : zW} {Q : Option zV → zW → Prop} (hx : zN x = 0 ∨ zN x = 1) : zR 53 76 [l0, l1] [.inl x] w Q = Q (some (.inl x)) w := zR_ret (zst zT_53_76 (if_pos (Or.inr ⟨rfl, hx⟩)))
theorem zT_54_0 : zT 54 0 = some (.iconst (-1), 1, 0, []) := by decide +kernel
theorem zr_54_0 {l0 l1 l2 l3 l4 l5 l6 : Option zV} {st : List zV} {w : zW} {Q : Option zV → zW → Prop}  : zR 54 0 [l0, l1, l2, l3, l4, l5, l6] st w Q = zR 54 1 [l0, l1, l2, l3, l4, l5, l6] (.inl (-1) :: st) w Q := zR_go (zst zT_54_0 rfl)
theorem zT_54_1 : zT 54 1 = some (.istore_n 2, 1, 0, []) := by decide +kernel
theorem zr_54_1 {l0 l1 l2 l3 l4 l5 l6 : Option zV} {x : Int} {st : List zV} {w : zW} {Q : Option zV → zW → Prop}  : zR 54 1 [l0, l1, l2, l3, l4, l5, l6] (.inl x :: st) w Q = zR 54 2 [l0, l1, some (.inl x), l3, l4, l5, l6] st w Q := zR_go (zst zT_54_1 rfl)
theorem zT_54_2 : zT 54 2 = some (.iconst 0, 1, 0, []) := by decide +kernel
theorem zr_54_2 {l0 l1 l2 l3 l4 l5 l6 : Option zV} {st : List zV} {w : zW} {Q : Option zV → zW → Prop}  : zR 54 2 [l0, l1, l2, l3, l4, l5, l6] st w Q = zR 54 3 [l0, l1, l2, l3, l4, l5, l6] (.inl 0 :: st) w Q := zR_go (zst zT_54_2 rfl)
theorem zT_54_3 : zT 54 3 = some (.istore_n 3, 1, 0, []) := by decide +kernel
theorem zr_54_3 {l0 l1 l2 l3 l4 l5 l6 : Option zV} {x : Int} {st : List zV} {w : zW} {Q : Option zV → zW → Prop}  : zR 54 3 [l0, l1, l2, l3, l4, l5, l6] (.inl x :: st) w Q = zR 54 4 [l0, l1, l2, some (.inl x), l4, l5, l6] st w Q := zR_go (zst zT_54_3 rfl)
theorem zT_54_4 : zT 54 4 = some (.iload_n 3, 1, 0, []) := by decide +kernel
theorem zr_54_4 {l0 l1 l2 l4 l5 l6 : Option zV} {x : Int} {st : List zV} {w : zW} {Q : Option zV → zW → Prop}  : zR 54 4 [l0, l1, l2, some (.inl x), l4, l5, l6] st w Q = zR 54 5 [l0, l1, l2, some (.inl x), l4, l5, l6] (.inl x :: st) w Q := zR_go (zst zT_54_4 rfl)
theorem zT_54_5 : zT 54 5 = some (.bipush 8, 2, 0, []) := by decide +kernel
theorem zr_54_5 {l0 l1 l2 l3 l4 l5 l6 : Option zV} {st : List zV} {w : zW} {Q : Option zV → zW → Prop}  : zR 54 5 [l0, l1, l2, l3, l4, l5, l6] st w Q = zR 54 7 [l0, l1, l2, l3, l4, l5, l6] (.inl 8 :: st) w Q := zR_go (zst zT_54_5 rfl)
theorem zT_54_7 : zT 54 7 = some (.if_icmp .ge 133, 3, 0, []) := by decide +kernel
theorem zr_54_7 {l0 l1 l2 l3 l4 l5 l6 : Option zV} {x y : Int} {st : List zV} {w : zW} {Q : Option zV → zW → Prop}  : zR 54 7 [l0, l1, l2, l3, l4, l5, l6] (.inl y :: .inl x :: st) w Q = (if zN y ≤ zN x then zR 54 140 [l0, l1, l2, l3, l4, l5, l6] st w Q else zR 54 10 [l0, l1, l2, l3, l4, l5, l6] st w Q) := zR_if (zstB zT_54_7 rfl) (by simp [zcmp])
theorem zT_54_10 : zT 54 10 = some (.iload_n 3, 1, 0, []) := by decide +kernel
theorem zr_54_10 {l0 l1 l2 l4 l5 l6 : Option zV} {x : Int} {st : List zV} {w : zW} {Q : Option zV → zW → Prop}  : zR 54 10 [l0, l1, l2, some (.inl x), l4, l5, l6] st w Q = zR 54 11 [l0, l1, l2, some (.inl x), l4, l5, l6] (.inl x :: st) w Q := zR_go (zst zT_54_10 rfl)
theorem zT_54_11 : zT 54 11 = some (.iconst 2, 1, 0, []) := by decide +kernel
theorem zr_54_11 {l0 l1 l2 l3 l4 l5 l6 : Option zV} {st : List zV} {w : zW} {Q : Option zV → zW → Prop}  : zR 54 11 [l0, l1, l2, l3, l4, l5, l6] st w Q = zR 54 12 [l0, l1, l2, l3, l4, l5, l6] (.inl 2 :: st) w Q := zR_go (zst zT_54_11 rfl)
theorem zT_54_12 : zT 54 12 = some (.if_icmp .ge 7, 3, 0, []) := by decide +kernel
theorem zr_54_12 {l0 l1 l2 l3 l4 l5 l6 : Option zV} {x y : Int} {st : List zV} {w : zW} {Q : Option zV → zW → Prop}  : zR 54 12 [l0, l1, l2, l3, l4, l5, l6] (.inl y :: .inl x :: st) w Q = (if zN y ≤ zN x then zR 54 19 [l0, l1, l2, l3, l4, l5, l6] st w Q else zR 54 15 [l0, l1, l2, l3, l4, l5, l6] st w Q) := zR_if (zstB zT_54_12 rfl) (by simp [zcmp])
theorem zT_54_15 : zT 54 15 = some (.iload_n 3, 1, 0, []) := by decide +kernel
theorem zr_54_15 {l0 l1 l2 l4 l5 l6 : Option zV} {x : Int} {st : List zV} {w : zW} {Q : Option zV → zW → Prop}  : zR 54 15 [l0, l1, l2, some (.inl x), l4, l5, l6] st w Q = zR 54 16 [l0, l1, l2, some (.inl x), l4, l5, l6] (.inl x :: st) w Q := zR_go (zst zT_54_15 rfl)
theorem zT_54_16 : zT 54 16 = some (.goto 16, 3, 0, []) := by decide +kernel
theorem zr_54_16 {l0 l1 l2 l3 l4 l5 l6 : Option zV} {st : List zV} {w : zW} {Q : Option zV → zW → Prop}  : zR 54 16 [l0, l1, l2, l3, l4, l5, l6] st w Q = zR 54 32 [l0, l1, l2, l3, l4, l5, l6] st w Q := zR_go (zst zT_54_16 rfl)
theorem zT_54_19 : zT 54 19 = some (.iload_n 3, 1, 0, []) := by decide +kernel
theorem zr_54_19 {l0 l1 l2 l4 l5 l6 : Option zV} {x : Int} {st : List zV} {w : zW} {Q : Option zV → zW → Prop}  : zR 54 19 [l0, l1, l2, some (.inl x), l4, l5, l6] st w Q = zR 54 20 [l0, l1, l2, some (.inl x), l4, l5, l6] (.inl x :: st) w Q := zR_go (zst zT_54_19 rfl)
theorem zT_54_20 : zT 54 20 = some (.iconst 2, 1, 0, []) := by decide +kernel
theorem zr_54_20 {l0 l1 l2 l3 l4 l5 l6 : Option zV} {st : List zV} {w : zW} {Q : Option zV → zW → Prop}  : zR 54 20 [l0, l1, l2, l3, l4, l5, l6] st w Q = zR 54 21 [l0, l1, l2, l3, l4, l5, l6] (.inl 2 :: st) w Q := zR_go (zst zT_54_20 rfl)
theorem zT_54_21 : zT 54 21 = some (.if_icmp .ne 8, 3, 0, []) := by decide +kernel
theorem zr_54_21 {l0 l1 l2 l3 l4 l5 l6 : Option zV} {x y : Int} {st : List zV} {w : zW} {Q : Option zV → zW → Prop}  : zR 54 21 [l0, l1, l2, l3, l4, l5, l6] (.inl y :: .inl x :: st) w Q = (if zN x ≠ zN y then zR 54 29 [l0, l1, l2, l3, l4, l5, l6] st w Q else zR 54 24 [l0, l1, l2, l3, l4, l5, l6] st w Q) := zR_if (zstB zT_54_21 rfl) (by simp [zcmp])
theorem zT_54_24 : zT 54 24 = some (.bipush 7, 2, 0, []) := by decide +kernel
theorem zr_54_24 {l0 l1 l2 l3 l4 l5 l6 : Option zV} {st : List zV} {w : zW} {Q : Option zV → zW → Prop}  : zR 54 24 [l0, l1, l2, l3, l4, l5, l6] st w Q = zR 54 26 [l0, l1, l2, l3, l4, l5, l6] (.inl 7 :: st) w Q := zR_go (zst zT_54_24 rfl)
theorem zT_54_26 : zT 54 26 = some (.goto 6, 3, 0, []) := by decide +kernel
theorem zr_54_26 {l0 l1 l2 l3 l4 l5 l6 : Option zV} {st : List zV} {w : zW} {Q : Option zV → zW → Prop}  : zR 54 26 [l0, l1, l2, l3, l4, l5, l6] st w Q = zR 54 32 [l0, l1, l2, l3, l4, l5, l6] st w Q := zR_go (zst zT_54_26 rfl)
theorem zT_54_29 : zT 54 29 = some (.iload_n 3, 1, 0, []) := by decide +kernel
theorem zr_54_29 {l0 l1 l2 l4 l5 l6 : Option zV} {x : Int} {st : List zV} {w : zW} {Q : Option zV → zW → Prop}  : zR 54 29 [l0, l1, l2, some (.inl x), l4, l5, l6] st w Q = zR 54 30 [l0, l1, l2, some (.inl x), l4, l5, l6] (.inl x :: st) w Q := zR_go (zst zT_54_29 rfl)
theorem zT_54_30 : zT 54 30 = some (.iconst 1, 1, 0, []) := by decide +kernel
theorem zr_54_30 {l0 l1 l2 l3 l4 l5 l6 : Option zV} {st : List zV} {w : zW} {Q : Option zV → zW → Prop}  : zR 54 30 [l0, l1, l2, l3, l4, l5, l6] st w Q = zR 54 31 [l0, l1, l2, l3, l4, l5, l6] (.inl 1 :: st) w Q := zR_go (zst zT_54_30 rfl)
theorem zT_54_31 : zT 54 31 = some (.isub, 1, 0, []) := by decide +kernel
theorem zr_54_31 {l0 l1 l2 l3 l4 l5 l6 : Option zV} {x y : Int} {st : List zV} {w : zW} {Q : Option zV → zW → Prop}  : zR 54 31 [l0, l1, l2, l3, l4, l5, l6] (.inl y :: .inl x :: st) w Q = zR 54 32 [l0, l1, l2, l3, l4, l5, l6] (.inl (x - y) :: st) w Q := zR_go (zst zT_54_31 rfl)
theorem zT_54_32 : zT 54 32 = some (.istore 4, 2, 0, []) := by decide +kernel
theorem zr_54_32 {l0 l1 l2 l3 l4 l5 l6 : Option zV} {x : Int} {st : List zV} {w : zW} {Q : Option zV → zW → Prop}  : zR 54 32 [l0, l1, l2, l3, l4, l5, l6] (.inl x :: st) w Q = zR 54 34 [l0, l1, l2, l3, some (.inl x), l5, l6] st w Q := zR_go (zst zT_54_32 rfl)
theorem zT_54_34 : zT 54 34 = some (.aload_n 0, 1, 0, []) := by decide +kernel
theorem zr_54_34 {l1 l2 l3 l4 l5 l6 : Option zV} {x : Option Nat} {st : List zV} {w : zW} {Q : Option zV → zW → Prop}  : zR 54 34 [some (.inr x), l1, l2, l3, l4, l5, l6] st w Q = zR 54 35 [some (.inr x), l1, l2, l3, l4, l5, l6] (.inr x :: st) w Q := zR_go (zst zT_54_34 rfl)
theorem zT_54_35 : zT 54 35 = some (.getfield 7, 3, 0, [(11, 1)]) := by decide +kernel
theorem zr_54_35 {l0 l1 l2 l3 l4 l5 l6 : Option zV} {h : Nat} {st : List zV} {w : zW} {Q : Option zV → zW → Prop} (hk : zk w h = 11) : zR 54 35 [l0, l1, l2, l3, l4, l5, l6] (.inr (some h) :: st) w Q = zR 54 38 [l0, l1, l2, l3, l4, l5, l6] (.inr (zp w 73 h) :: st) w Q := zR_go (zst zT_54_35 (zget_r hk rfl))
theorem zT_54_38 : zT 54 38 = some (.iload 4, 2, 0, []) := by decide +kernel
theorem zr_54_38 {l0 l1 l2 l3 l5 l6 : Option zV} {x : Int} {st : List zV} {w : zW} {Q : Option zV → zW → Prop}  : zR 54 38 [l0, l1, l2, l3, some (.inl x), l5, l6] st w Q = zR 54 40 [l0, l1, l2, l3, some (.inl x), l5, l6] (.inl x :: st) w Q := zR_go (zst zT_54_38 rfl)
theorem zT_54_40 : zT 54 40 = some (.iaload, 1, 0, []) := by decide +kernel
theorem zr_54_40 {l0 l1 l2 l3 l4 l5 l6 : Option zV} {j : Int} {h : Nat} {st : List zV} {w : zW} {Q : Option zV → zW → Prop} (hk : (zk w h = zNC ∨ zk w h = zNC + 2) ∧ 0 ≤ zN j ∧ zN j < zl w h) : zR 54 40 [l0, l1, l2, l3, l4, l5, l6] (.inl j :: .inr (some h) :: st) w Q = zR 54 41 [l0, l1, l2, l3, l4, l5, l6] (.inl (za w h (zN j).toNat) :: st) w Q := zR_go (zst zT_54_40 (if_pos hk))
theorem zT_54_41 : zT 54 41 = some (.iload_n 1, 1, 0, []) := by decide +kernel
theorem zr_54_41 {l0 l2 l3 l4 l5 l6 : Option zV} {x : Int} {st : List zV} {w : zW} {Q : Option zV → zW → Prop}  : zR 54 41 [l0, some (.inl x), l2, l3, l4, l5, l6] st w Q = zR 54 42 [l0, some (.inl x), l2, l3, l4, l5, l6] (.inl x :: st) w Q := zR_go (zst zT_54_41 rfl)
theorem zT_54_42 : zT 54 42 = some (.if_icmp .ne 92, 3, 0, []) := by decide +kernel
theorem zr_54_42 {l0 l1 l2 l3 l4 l5 l6 : Option zV} {x y : Int} {st : List zV} {w : zW} {Q : Option zV → zW → Prop}  : zR 54 42 [l0, l1, l2, l3, l4, l5, l6] (.inl y :: .inl x :: st) w Q = (if zN x ≠ zN y then zR 54 134 [l0, l1, l2, l3, l4, l5, l6] st w Q else zR 54 45 [l0, l1, l2, l3, l4, l5, l6] st w Q) := zR_if (zstB zT_54_42 rfl) (by simp [zcmp])
theorem zT_54_45 : zT 54 45 = some (.aload_n 0, 1, 0, []) := by decide +kernel
theorem zr_54_45 {l1 l2 l3 l4 l5 l6 : Option zV} {x : Option Nat} {st : List zV} {w : zW} {Q : Option zV → zW → Prop}  : zR 54 45 [some (.inr x), l1, l2, l3, l4, l5, l6] st w Q = zR 54 46 [some (.inr x), l1, l2, l3, l4, l5, l6] (.inr x :: st) w Q := zR_go (zst zT_54_45 rfl)
theorem zT_54_46 : zT 54 46 = some (.getfield 26, 3, 0, [(11, 6)]) := by decide +kernel
theorem zr_54_46 {l0 l1 l2 l3 l4 l5 l6 : Option zV} {h : Nat} {st : List zV} {w : zW} {Q : Option zV → zW → Prop} (hk : zk w h = 11) : zR 54 46 [l0, l1, l2, l3, l4, l5, l6] (.inr (some h) :: st) w Q = zR 54 49 [l0, l1, l2, l3, l4, l5, l6] (.inr (zp w 78 h) :: st) w Q := zR_go (zst zT_54_46 (zget_r hk rfl))
theorem zT_54_49 : zT 54 49 = some (.iload 4, 2, 0, []) := by decide +kernel
theorem zr_54_49 {l0 l1 l2 l3 l5 l6 : Option zV} {x : Int} {st : List zV} {w : zW} {Q : Option zV → zW → Prop}  : zR 54 49 [l0, l1, l2, l3, some (.inl x), l5, l6] st w Q = zR 54 51 [l0, l1, l2, l3, some (.inl x), l5, l6] (.inl x :: st) w Q := zR_go (zst zT_54_49 rfl)
theorem zT_54_51 : zT 54 51 = some (.iaload, 1, 0, []) := by decide +kernel
theorem zr_54_51 {l0 l1 l2 l3 l4 l5 l6 : Option zV} {j : Int} {h : Nat} {st : List zV} {w : zW} {Q : Option zV → zW → Prop} (hk : (zk w h = zNC ∨ zk w h = zNC + 2) ∧ 0 ≤ zN j ∧ zN j < zl w h) : zR 54 51 [l0, l1, l2, l3, l4, l5, l6] (.inl j :: .inr (some h) :: st) w Q = zR 54 52 [l0, l1, l2, l3, l4, l5, l6] (.inl (za w h (zN j).toNat) :: st) w Q := zR_go (zst zT_54_51 (if_pos hk))
theorem zT_54_52 : zT 54 52 = some (.ifCond .le 82, 3, 0, []) := by decide +kernel
theorem zr_54_52 {l0 l1 l2 l3 l4 l5 l6 : Option zV} {x : Int} {st : List zV} {w : zW} {Q : Option zV → zW → Prop}  : zR 54 52 [l0, l1, l2, l3, l4, l5, l6] (.inl x :: st) w Q = (if zN x ≤ 0 then zR 54 134 [l0, l1, l2, l3, l4, l5, l6] st w Q else zR 54 55 [l0, l1, l2, l3, l4, l5, l6] st w Q) := zR_if (zstB zT_54_52 rfl) (by simp [zcmp])
theorem zT_54_55 : zT 54 55 = some (.aload_n 0, 1, 0, []) := by decide +kernel
theorem zr_54_55 {l1 l2 l3 l4 l5 l6 : Option zV} {x : Option Nat} {st : List zV} {w : zW} {Q : Option zV → zW → Prop}  : zR 54 55 [some (.inr x), l1, l2, l3, l4, l5, l6] st w Q = zR 54 56 [some (.inr x), l1, l2, l3, l4, l5, l6] (.inr x :: st) w Q := zR_go (zst zT_54_55 rfl)
theorem zT_54_56 : zT 54 56 = some (.getfield 16, 3, 0, [(11, 3)]) := by decide +kernel
theorem zr_54_56 {l0 l1 l2 l3 l4 l5 l6 : Option zV} {h : Nat} {st : List zV} {w : zW} {Q : Option zV → zW → Prop} (hk : zk w h = 11) : zR 54 56 [l0, l1, l2, l3, l4, l5, l6] (.inr (some h) :: st) w Q = zR 54 59 [l0, l1, l2, l3, l4, l5, l6] (.inr (zp w 75 h) :: st) w Q := zR_go (zst zT_54_56 (zget_r hk rfl))
theorem zT_54_59 : zT 54 59 = some (.iload 4, 2, 0, []) := by decide +kernel
theorem zr_54_59 {l0 l1 l2 l3 l5 l6 : Option zV} {x : Int} {st : List zV} {w : zW} {Q : Option zV → zW → Prop}  : zR 54 59 [l0, l1, l2, l3, some (.inl x), l5, l6] st w Q = zR 54 61 [l0, l1, l2, l3, some (.inl x), l5, l6] (.inl x :: st) w Q := zR_go (zst zT_54_59 rfl)
theorem zT_54_61 : zT 54 61 = some (.iaload, 1, 0, []) := by decide +kernel
theorem zr_54_61 {l0 l1 l2 l3 l4 l5 l6 : Option zV} {j : Int} {h : Nat} {st : List zV} {w : zW} {Q : Option zV → zW → Prop} (hk : (zk w h = zNC ∨ zk w h = zNC + 2) ∧ 0 ≤ zN j ∧ zN j < zl w h) : zR 54 61 [l0, l1, l2, l3, l4, l5, l6] (.inl j :: .inr (some h) :: st) w Q = zR 54 62 [l0, l1, l2, l3, l4, l5, l6] (.inl (za w h (zN j).toNat) :: st) w Q := zR_go (zst zT_54_61 (if_pos hk))
theorem zT_54_62 : zT 54 62 = some (.ifCond .le 72, 3, 0, []) := by decide +kernel
theorem zr_54_62 {l0 l1 l2 l3 l4 l5 l6 : Option zV} {x : Int} {st : List zV} {w : zW} {Q : Option zV → zW → Prop}  : zR 54 62 [l0, l1, l2, l3, l4, l5, l6] (.inl x :: st) w Q = (if zN x ≤ 0 then zR 54 134 [l0, l1, l2, l3, l4, l5, l6] st w Q else zR 54 65 [l0, l1, l2, l3, l4, l5, l6] st w Q) := zR_if (zstB zT_54_62 rfl) (by simp [zcmp])
theorem zT_54_65 : zT 54 65 = some (.aload_n 0, 1, 0, []) := by decide +kernel
theorem zr_54_65 {l1 l2 l3 l4 l5 l6 : Option zV} {x : Option Nat} {st : List zV} {w : zW} {Q : Option zV → zW → Prop}  : zR 54 65 [some (.inr x), l1, l2, l3, l4, l5, l6] st w Q = zR 54 66 [some (.inr x), l1, l2, l3, l4, l5, l6] (.inr x :: st) w Q := zR_go (zst zT_54_65 rfl)
theorem zT_54_66 : zT 54 66 = some (.iload 4, 2, 0, []) := by decide +kernel
theorem zr_54_66 {l0 l1 l2 l3 l5 l6 : Option zV} {x : Int} {st : List zV} {w : zW} {Q : Option zV → zW → Prop}  : zR 54 66 [l0, l1, l2, l3, some (.inl x), l5, l6] st w Q = zR 54 68 [l0, l1, l2, l3, some (.inl x), l5, l6] (.inl x :: st) w Q := zR_go (zst zT_54_66 rfl)
theorem zT_54_68 : zT 54 68 = some (.invokevirtual 217, 3, 1, [(11, 46)]) := by decide +kernel
theorem zr_54_68 {l0 l1 l2 l3 l4 l5 l6 : Option zV} {a0 : zV} {h : Nat} {st : List zV} {w : zW} {Q : Option zV → zW → Prop} (hs : st.length ≤ 8) (hk : zk w h = 11) : zR 54 68 [l0, l1, l2, l3, l4, l5, l6] (a0 :: .inr (some h) :: st) w Q = zR 46 0 [some (.inr (some h)), some a0, none] [] w (fun r w2 => zR 54 71 [l0, l1, l2, l3, l4, l5, l6] (r.toList ++ st) w2 Q) := zR_call (zst zT_54_68 (zcall_v [a0] rfl hs hk rfl))
theorem zT_54_71 : zT 54 71 = some (.ifCond .le 63, 3, 0, []) := by decide +kernel
theorem zr_54_71 {l0 l1 l2 l3 l4 l5 l6 : Option zV} {x : Int} {st : List zV} {w : zW} {Q : Option zV → zW → Prop}  : zR 54 71 [l0, l1, l2, l3, l4, l5, l6] (.inl x :: st) w Q = (if zN x ≤ 0 then zR 54 134 [l0, l1, l2, l3, l4, l5, l6] st w Q else zR 54 74 [l0, l1, l2, l3, l4, l5, l6] st w Q) := zR_if (zstB zT_54_71 rfl) (by simp [zcmp])
theorem zT_54_74 : zT 54 74 = some (.aload_n 0, 1, 0, []) := by decide +kernel
theorem zr_54_74 {l1 l2 l3 l4 l5 l6 : Option zV} {x : Option Nat} {st : List zV} {w : zW} {Q : Option zV → zW → Prop}  : zR 54 74 [some (.inr x), l1, l2, l3, l4, l5, l6] st w Q = zR 54 75 [some (.inr x), l1, l2, l3, l4, l5, l6] (.inr x :: st) w Q := zR_go (zst zT_54_74 rfl)
theorem zT_54_75 : zT 54 75 = some (.iload 4, 2, 0, []) := by decide +kernel
theorem zr_54_75 {l0 l1 l2 l3 l5 l6 : Option zV} {x : Int} {st : List zV} {w : zW} {Q : Option zV → zW → Prop}  : zR 54 75 [l0, l1, l2, l3, some (.inl x), l5, l6] st w Q = zR 54 77 [l0, l1, l2, l3, some (.inl x), l5, l6] (.inl x :: st) w Q := zR_go (zst zT_54_75 rfl)
theorem zT_54_77 : zT 54 77 = some (.invokevirtual 226, 3, 1, [(11, 52)]) := by decide +kernel
theorem zr_54_77 {l0 l1 l2 l3 l4 l5 l6 : Option zV} {a0 : zV} {h : Nat} {st : List zV} {w : zW} {Q : Option zV → zW → Prop} (hs : st.length ≤ 8) (hk : zk w h = 11) : zR 54 77 [l0, l1, l2, l3, l4, l5, l6] (a0 :: .inr (some h) :: st) w Q = zR 52 0 [some (.inr (some h)), some a0, none] [] w (fun r w2 => zR 54 80 [l0, l1, l2, l3, l4, l5, l6] (r.toList ++ st) w2 Q) := zR_call (zst zT_54_77 (zcall_v [a0] rfl hs hk rfl))
theorem zT_54_80 : zT 54 80 = some (.iload_n 2, 1, 0, []) := by decide +kernel
theorem zr_54_80 {l0 l1 l3 l4 l5 l6 : Option zV} {x : Int} {st : List zV} {w : zW} {Q : Option zV → zW → Prop}  : zR 54 80 [l0, l1, some (.inl x), l3, l4, l5, l6] st w Q = zR 54 81 [l0, l1, some (.inl x), l3, l4, l5, l6] (.inl x :: st) w Q := zR_go (zst zT_54_80 rfl)
theorem zT_54_81 : zT 54 81 = some (.ifCond .lt 10, 3, 0, []) := by decide +kernel
theorem zr_54_81 {l0 l1 l2 l3 l4 l5 l6 : Option zV} {x : Int} {st : List zV} {w : zW} {Q : Option zV → zW → Prop}  : zR 54 81 [l0, l1, l2, l3, l4, l5, l6] (.inl x :: st) w Q = (if zN x < 0 then zR 54 91 [l0, l1, l2, l3, l4, l5, l6] st w Q else zR 54 84 [l0, l1, l2, l3, l4, l5, l6] st w Q) := zR_if (zstB zT_54_81 rfl) (by simp [zcmp])
theorem zT_54_84 : zT 54 84 = some (.aload_n 0, 1, 0, []) := by decide +kernel
theorem zr_54_84 {l1 l2 l3 l4 l5 l6 : Option zV} {x : Option Nat} {st : List zV} {w : zW} {Q : Option zV → zW → Prop}  : zR 54 84 [some (.inr x), l1, l2, l3, l4, l5, l6] st w Q = zR 54 85 [some (.inr x), l1, l2, l3, l4, l5, l6] (.inr x :: st) w Q := zR_go (zst zT_54_84 rfl)
theorem zT_54_85 : zT 54 85 = some (.invokevirtual 229, 3, 0, [(11, 53)]) := by decide +kernel
theorem zr_54_85 {l0 l1 l2 l3 l4 l5 l6 : Option zV} {h : Nat} {st : List zV} {w : zW} {Q : Option zV → zW → Prop} (hs : st.length ≤ 8) (hk : zk w h = 11) : zR 54 85 [l0, l1, l2, l3, l4, l5, l6] (.inr (some h) :: st) w Q = zR 53 0 [some (.inr (some h)), none] [] w (fun r w2 => zR 54 88 [l0, l1, l2, l3, l4, l5, l6] (r.toList ++ st) w2 Q) := zR_call (zst zT_54_85 (zcall_v [] rfl hs hk rfl))
theorem zT_54_88 : zT 54 88 = some (.ifCond .eq 46, 3, 0, []) := by decide +kernel
theorem zr_54_88 {l0 l1 l2 l3 l4 l5 l6 : Option zV} {x : Int} {st : List zV} {w : zW} {Q : Option zV → zW → Prop}  : zR 54 88 [l0, l1, l2, l3, l4, l5, l6] (.inl x :: st) w Q = (if zN x = 0 then zR 54 134 [l0, l1, l2, l3, l4, l5, l6] st w Q else zR 54 91 [l0, l1, l2, l3, l4, l5, l6] st w Q) := zR_if (zstB zT_54_88 rfl) (by simp [zcmp])
theorem zT_54_91 : zT 54 91 = some (.iload 4, 2, 0, []) := by decide +kernel
theorem zr_54_91 {l0 l1 l2 l3 l5 l6 : Option zV} {x : Int} {st : List zV} {w : zW} {Q : Option zV → zW → Prop}  : zR 54 91 [l0, l1, l2, l3, some (.inl x), l5, l6] st w Q = zR 54 93 [l0, l1, l2, l3, some (.inl x), l5, l6] (.inl x :: st) w Q := zR_go (zst zT_54_91 rfl)
theorem zT_54_93 : zT 54 93 = some (.istore_n 2, 1, 0, []) := by decide +kernel
theorem zr_54_93 {l0 l1 l2 l3 l4 l5 l6 : Option zV} {x : Int} {st : List zV} {w : zW} {Q : Option zV → zW → Prop}  : zR 54 93 [l0, l1, l2, l3, l4, l5, l6] (.inl x :: st) w Q = zR 54 94 [l0, l1, some (.inl x), l3, l4, l5, l6] st w Q := zR_go (zst zT_54_93 rfl)
theorem zT_54_94 : zT 54 94 = some (.aload_n 0, 1, 0, []) := by decide +kernel
theorem zr_54_94 {l1 l2 l3 l4 l5 l6 : Option zV} {x : Option Nat} {st : List zV} {w : zW} {Q : Option zV → zW → Prop}  : zR 54 94 [some (.inr x), l1, l2, l3, l4, l5, l6] st w Q = zR 54 95 [some (.inr x), l1, l2, l3, l4, l5, l6] (.inr x :: st) w Q := zR_go (zst zT_54_94 rfl)
theorem zT_54_95 : zT 54 95 = some (.aload_n 0, 1, 0, []) := by decide +kernel
theorem zr_54_95 {l1 l2 l3 l4 l5 l6 : Option zV} {x : Option Nat} {st : List zV} {w : zW} {Q : Option zV → zW → Prop}  : zR 54 95 [some (.inr x), l1, l2, l3, l4, l5, l6] st w Q = zR 54 96 [some (.inr x), l1, l2, l3, l4, l5, l6] (.inr x :: st) w Q := zR_go (zst zT_54_95 rfl)
theorem zT_54_96 : zT 54 96 = some (.getfield 205, 3, 0, [(11, 32)]) := by decide +kernel
theorem zr_54_96 {l0 l1 l2 l3 l4 l5 l6 : Option zV} {h : Nat} {st : List zV} {w : zW} {Q : Option zV → zW → Prop} (hk : zk w h = 11) : zR 54 96 [l0, l1, l2, l3, l4, l5, l6] (.inr (some h) :: st) w Q = zR 54 99 [l0, l1, l2, l3, l4, l5, l6] (.inl (zf w 104 h) :: st) w Q := zR_go (zst zT_54_96 (zget_i hk (Or.inl rfl)))
theorem zT_54_99 : zT 54 99 = some (.putfield 223, 3, 0, [(11, 34)]) := by decide +kernel
theorem zr_54_99 {l0 l1 l2 l3 l4 l5 l6 : Option zV} {h : Nat} {x : Int} {st : List zV} {w : zW} {Q : Option zV → zW → Prop} (hk : zk w h = 11) : zR 54 99 [l0, l1, l2, l3, l4, l5, l6] (.inl x :: .inr (some h) :: st) w Q = zR 54 102 [l0, l1, l2, l3, l4, l5, l6] st (zsf w 106 h x) Q := zR_go (zst zT_54_99 (zput_i hk rfl))
theorem zT_54_102 : zT 54 102 = some (.iconst 0, 1, 0, []) := by decide +kernel
theorem zr_54_102 {l0 l1 l2 l3 l4 l5 l6 : Option zV} {st : List zV} {w : zW} {Q : Option zV → zW → Prop}  : zR 54 102 [l0, l1, l2, l3, l4, l5, l6] st w Q = zR 54 103 [l0, l1, l2, l3, l4, l5, l6] (.inl 0 :: st) w Q := zR_go (zst zT_54_102 rfl)
theorem zT_54_103 : zT 54 103 = some (.istore 5, 2, 0, []) := by decide +kernel
theorem zr_54_103 {l0 l1 l2 l3 l4 l5 l6 : Option zV} {x : Int} {st : List zV} {w : zW} {Q : Option zV → zW → Prop}  : zR 54 103 [l0, l1, l2, l3, l4, l5, l6] (.inl x :: st) w Q = zR 54 105 [l0, l1, l2, l3, l4, some (.inl x), l6] st w Q := zR_go (zst zT_54_103 rfl)
theorem zT_54_105 : zT 54 105 = some (.iload 5, 2, 0, []) := by decide +kernel
theorem zr_54_105 {l0 l1 l2 l3 l4 l6 : Option zV} {x : Int} {st : List zV} {w : zW} {Q : Option zV → zW → Prop}  : zR 54 105 [l0, l1, l2, l3, l4, some (.inl x), l6] st w Q = zR 54 107 [l0, l1, l2, l3, l4, some (.inl x), l6] (.inl x :: st) w Q := zR_go (zst zT_54_105 rfl)
theorem zT_54_107 : zT 54 107 = some (.aload_n 0, 1, 0, []) := by decide +kernel
theorem zr_54_107 {l1 l2 l3 l4 l5 l6 : Option zV} {x : Option Nat} {st : List zV} {w : zW} {Q : Option zV → zW → Prop}  : zR 54 107 [some (.inr x), l1, l2, l3, l4, l5, l6] st w Q = zR 54 108 [some (.inr x), l1, l2, l3, l4, l5, l6] (.inr x :: st) w Q := zR_go (zst zT_54_107 rfl)
theorem zT_54_108 : zT 54 108 = some (.getfield 205, 3, 0, [(11, 32)]) := by decide +kernel
theorem zr_54_108 {l0 l1 l2 l3 l4 l5 l6 : Option zV} {h : Nat} {st : List zV} {w : zW} {Q : Option zV → zW → Prop} (hk : zk w h = 11) : zR 54 108 [l0, l1, l2, l3, l4, l5, l6] (.inr (some h) :: st) w Q = zR 54 111 [l0, l1, l2, l3, l4, l5, l6] (.inl (zf w 104 h) :: st) w Q := zR_go (zst zT_54_108 (zget_i hk (Or.inl rfl)))
theorem zT_54_111 : zT 54 111 = some (.if_icmp .ge 23, 3, 0, []) := by decide +kernel
theorem zr_54_111 {l0 l1 l2 l3 l4 l5 l6 : Option zV} {x y : Int} {st : List zV} {w : zW} {Q : Option zV → zW → Prop}  : zR 54 111 [l0, l1, l2, l3, l4, l5, l6] (.inl y :: .inl x :: st) w Q = (if zN y ≤ zN x then zR 54 134 [l0, l1, l2, l3, l4, l5, l6] st w Q else zR 54 114 [l0, l1, l2, l3, l4, l5, l6] st w Q) := zR_if (zstB zT_54_111 rfl) (by simp [zcmp])
theorem zT_54_114 : zT 54 114 = some (.aload_n 0, 1, 0, []) := by decide +kernel
theorem zr_54_114 {l1 l2 l3 l4 l5 l6 : Option zV} {x : Option Nat} {st : List zV} {w : zW} {Q : Option zV → zW → Prop}  : zR 54 114 [some (.inr x), l1, l2, l3, l4, l5, l6] st w Q = zR 54 115 [some (.inr x), l1, l2, l3, l4, l5, l6] (.inr x :: st) w Q := zR_go (zst zT_54_114 rfl)
theorem zT_54_115 : zT 54 115 = some (.getfield 101, 3, 0, [(11, 33)]) := by decide +kernel
theorem zr_54_115 {l0 l1 l2 l3 l4 l5 l6 : Option zV} {h : Nat} {st : List zV} {w : zW} {Q : Option zV → zW → Prop} (hk : zk w h = 11) : zR 54 115 [l0, l1, l2, l3, l4, l5, l6] (.inr (some h) :: st) w Q = zR 54 118 [l0, l1, l2, l3, l4, l5, l6] (.inr (zp w 105 h) :: st) w Q := zR_go (zst zT_54_115 (zget_r hk rfl))
theorem zT_54_118 : zT 54 118 = some (.iload 5, 2, 0, []) := by decide +kernel
theorem zr_54_118 {l0 l1 l2 l3 l4 l6 : Option zV} {x : Int} {st : List zV} {w : zW} {Q : Option zV → zW → Prop}  : zR 54 118 [l0, l1, l2, l3, l4, some (.inl x), l6] st w Q = zR 54 120 [l0, l1, l2, l3, l4, some (.inl x), l6] (.inl x :: st) w Q := zR_go (zst zT_54_118 rfl)
theorem zT_54_120 : zT 54 120 = some (.aload_n 0, 1, 0, []) := by decide +kernel
theorem zr_54_120 {l1 l2 l3 l4 l5 l6 : Option zV} {x : Option Nat} {st : List zV} {w : zW} {Q : Option zV → zW → Prop}  : zR 54 120 [some (.inr x), l1, l2, l3, l4, l5, l6] st w Q = zR 54 121 [some (.inr x), l1, l2, l3, l4, l5, l6] (.inr x :: st) w Q := zR_go (zst zT_54_120 rfl)
theorem zT_54_121 : zT 54 121 = some (.getfield 98, 3, 0, [(11, 31)]) := by decide +kernel
theorem zr_54_121 {l0 l1 l2 l3 l4 l5 l6 : Option zV} {h : Nat} {st : List zV} {w : zW} {Q : Option zV → zW → Prop} (hk : zk w h = 11) : zR 54 121 [l0, l1, l2, l3, l4, l5, l6] (.inr (some h) :: st) w Q = zR 54 124 [l0, l1, l2, l3, l4, l5, l6] (.inr (zp w 103 h) :: st) w Q := zR_go (zst zT_54_121 (zget_r hk rfl))
theorem zT_54_124 : zT 54 124 = some (.iload 5, 2, 0, []) := by decide +kernel
theorem zr_54_124 {l0 l1 l2 l3 l4 l6 : Option zV} {x : Int} {st : List zV} {w : zW} {Q : Option zV → zW → Prop}  : zR 54 124 [l0, l1, l2, l3, l4, some (.inl x), l6] st w Q = zR 54 126 [l0, l1, l2, l3, l4, some (.inl x), l6] (.inl x :: st) w Q := zR_go (zst zT_54_124 rfl)
theorem zT_54_126 : zT 54 126 = some (.iaload, 1, 0, []) := by decide +kernel
theorem zr_54_126 {l0 l1 l2 l3 l4 l5 l6 : Option zV} {j : Int} {h : Nat} {st : List zV} {w : zW} {Q : Option zV → zW → Prop} (hk : (zk w h = zNC ∨ zk w h = zNC + 2) ∧ 0 ≤ zN j ∧ zN j < zl w h) : zR 54 126 [l0, l1, l2, l3, l4, l5, l6] (.inl j :: .inr (some h) :: st) w Q = zR 54 127 [l0, l1, l2, l3, l4, l5, l6] (.inl (za w h (zN j).toNat) :: st) w Q := zR_go (zst zT_54_126 (if_pos hk))
theorem zT_54_127 : zT 54 127 = some (.iastore, 1, 0, []) := by decide +kernel
theorem zr_54_127 {l0 l1 l2 l3 l4 l5 l6 : Option zV} {j x : Int} {h : Nat} {st : List zV} {w : zW} {Q : Option zV → zW → Prop} (hk : zk w h = zNC ∧ 0 ≤ zN j ∧ zN j < zl w h) : zR 54 127 [l0, l1, l2, l3, l4, l5, l6] (.inl x :: .inl j :: .inr (some h) :: st) w Q = zR 54 128 [l0, l1, l2, l3, l4, l5, l6] st (zsa w h (zN j).toNat x) Q := zR_go (zst zT_54_127 (if_pos hk))
theorem zT_54_128 : zT 54 128 = some (.iinc 5 1, 3, 0, []) := by decide +kernel
theorem zr_54_128 {l0 l1 l2 l3 l4 l6 : Option zV} {x : Int} {st : List zV} {w : zW} {Q : Option zV → zW → Prop}  : zR 54 128 [l0, l1, l2, l3, l4, some (.inl x), l6] st w Q = zR 54 131 [l0, l1, l2, l3, l4, some (.inl (x + 1)), l6] st w Q := zR_go (zst zT_54_128 rfl)
theorem zT_54_131 : zT 54 131 = some (.goto (-26), 3, 0, []) := by decide +kernel
theorem zr_54_131 {l0 l1 l2 l3 l4 l5 l6 : Option zV} {st : List zV} {w : zW} {Q : Option zV → zW → Prop}  : zR 54 131 [l0, l1, l2, l3, l4, l5, l6] st w Q = zR 54 105 [l0, l1, l2, l3, l4, l5, l6] st w Q := zR_go (zst zT_54_131 rfl)
theorem zT_54_134 : zT 54 134 = some (.iinc 3 1, 3, 0, []) := by decide +kernel
theorem zr_54_134 {l0 l1 l2 l4 l5 l6 : Option zV} {x : Int} {st : List zV} {w : zW} {Q : Option zV → zW → Prop}  : zR 54 134 [l0, l1, l2, some (.inl x), l4, l5, l6] st w Q = zR 54 137 [l0, l1, l2, some (.inl (x + 1)), l4, l5, l6] st w Q := zR_go (zst zT_54_134 rfl)
theorem zT_54_137 : zT 54 137 = some (.goto (-133), 3, 0, []) := by decide +kernel
theorem zr_54_137 {l0 l1 l2 l3 l4 l5 l6 : Option zV} {st : List zV} {w : zW} {Q : Option zV → zW → Prop}  : zR 54 137 [l0, l1, l2, l3, l4, l5, l6] st w Q = zR 54 4 [l0, l1, l2, l3, l4, l5, l6] st w Q := zR_go (zst zT_54_137 rfl)
theorem zT_54_140 : zT 54 140 = some (.iload_n 2, 1, 0, []) := by decide +kernel
theorem zr_54_140 {l0 l1 l3 l4 l5 l6 : Option zV} {x : Int} {st : List zV} {w : zW} {Q : Option zV → zW → Prop}  : zR 54 140 [l0, l1, some (.inl x), l3, l4, l5, l6] st w Q = zR 54 141 [l0, l1, some (.inl x), l3, l4, l5, l6] (.inl x :: st) w Q := zR_go (zst zT_54_140 rfl)
theorem zT_54_141 : zT 54 141 = some (.ifCond .ge 4, 3, 0, []) := by decide +kernel
theorem zr_54_141 {l0 l1 l2 l3 l4 l5 l6 : Option zV} {x : Int} {st : List zV} {w : zW} {Q : Option zV → zW → Prop}  : zR 54 141 [l0, l1, l2, l3, l4, l5, l6] (.inl x :: st) w Q = (if 0 ≤ zN x then zR 54 145 [l0, l1, l2, l3, l4, l5, l6] st w Q else zR 54 144 [l0, l1, l2, l3, l4, l5, l6] st w Q) := zR_if (zstB zT_54_141 rfl) (by simp [zcmp])
theorem zT_54_144 : zT 54 144 = some (.return_, 1, 0, []) := by decide +kernel
theorem zr_54_144 {l0 l1 l2 l3 l4 l5 l6 : Option zV} {w : zW} {Q : Option zV → zW → Prop} : zR 54 144 [l0, l1, l2, l3, l4, l5, l6] [] w Q = Q none w := zR_ret (zst zT_54_144 rfl)
theorem zT_54_145 : zT 54 145 = some (.aload_n 0, 1, 0, []) := by decide +kernel
theorem zr_54_145 {l1 l2 l3 l4 l5 l6 : Option zV} {x : Option Nat} {st : List zV} {w : zW} {Q : Option zV → zW → Prop}  : zR 54 145 [some (.inr x), l1, l2, l3, l4, l5, l6] st w Q = zR 54 146 [some (.inr x), l1, l2, l3, l4, l5, l6] (.inr x :: st) w Q := zR_go (zst zT_54_145 rfl)
theorem zT_54_146 : zT 54 146 = some (.aload_n 0, 1, 0, []) := by decide +kernel
theorem zr_54_146 {l1 l2 l3 l4 l5 l6 : Option zV} {x : Option Nat} {st : List zV} {w : zW} {Q : Option zV → zW → Prop}  : zR 54 146 [some (.inr x), l1, l2, l3, l4, l5, l6] st w Q = zR 54 147 [some (.inr x), l1, l2, l3, l4, l5, l6] (.inr x :: st) w Q := zR_go (zst zT_54_146 rfl)
theorem zT_54_147 : zT 54 147 = some (.getfield 223, 3, 0, [(11, 34)]) := by decide +kernel
theorem zr_54_147 {l0 l1 l2 l3 l4 l5 l6 : Option zV} {h : Nat} {st : List zV} {w : zW} {Q : Option zV → zW → Prop} (hk : zk w h = 11) : zR 54 147 [l0, l1, l2, l3, l4, l5, l6] (.inr (some h) :: st) w Q = zR 54 150 [l0, l1, l2, l3, l4, l5, l6] (.inl (zf w 106 h) :: st) w Q := zR_go (zst zT_54_147 (zget_i hk (Or.inl rfl)))
theorem zT_54_150 : zT 54 150 = some (.putfield 205, 3, 0, [(11, 32)]) := by decide +kernel
theorem zr_54_150 {l0 l1 l2 l3 l4 l5 l6 : Option zV} {h : Nat} {x : Int} {st : List zV} {w : zW} {Q : Option zV → zW → Prop} (hk : zk w h = 11) : zR 54 150 [l0, l1, l2, l3, l4, l5, l6] (.inl x :: .inr (some h) :: st) w Q = zR 54 153 [l0, l1, l2, l3, l4, l5, l6] st (zsf w 104 h x) Q := zR_go (zst zT_54_150 (zput_i hk rfl))
theorem zT_54_153 : zT 54 153 = some (.iconst 0, 1, 0, []) := by decide +kernel
theorem zr_54_153 {l0 l1 l2 l3 l4 l5 l6 : Option zV} {st : List zV} {w : zW} {Q : Option zV → zW → Prop}  : zR 54 153 [l0, l1, l2, l3, l4, l5, l6] st w Q = zR 54 154 [l0, l1, l2, l3, l4, l5, l6] (.inl 0 :: st) w Q := zR_go (zst zT_54_153 rfl)
theorem zT_54_154 : zT 54 154 = some (.istore_n 3, 1, 0, []) := by decide +kernel
theorem zr_54_154 {l0 l1 l2 l3 l4 l5 l6 : Option zV} {x : Int} {st : List zV} {w : zW} {Q : Option zV → zW → Prop}  : zR 54 154 [l0, l1, l2, l3, l4, l5, l6] (.inl x :: st) w Q = zR 54 155 [l0, l1, l2, some (.inl x), l4, l5, l6] st w Q := zR_go (zst zT_54_154 rfl)
theorem zT_54_155 : zT 54 155 = some (.iload_n 3, 1, 0, []) := by decide +kernel
theorem zr_54_155 {l0 l1 l2 l4 l5 l6 : Option zV} {x : Int} {st : List zV} {w : zW} {Q : Option zV → zW → Prop}  : zR 54 155 [l0, l1, l2, some (.inl x), l4, l5, l6] st w Q = zR 54 156 [l0, l1, l2, some (.inl x), l4, l5, l6] (.inl x :: st) w Q := zR_go (zst zT_54_155 rfl)
theorem zT_54_156 : zT 54 156 = some (.aload_n 0, 1, 0, []) := by decide +kernel
theorem zr_54_156 {l1 l2 l3 l4 l5 l6 : Option zV} {x : Option Nat} {st : List zV} {w : zW} {Q : Option zV → zW → Prop}  : zR 54 156 [some (.inr x), l1, l2, l3, l4, l5, l6] st w Q = zR 54 157 [some (.inr x), l1, l2, l3, l4, l5, l6] (.inr x :: st) w Q := zR_go (zst zT_54_156 rfl)
theorem zT_54_157 : zT 54 157 = some (.getfield 205, 3, 0, [(11, 32)]) := by decide +kernel
theorem zr_54_157 {l0 l1 l2 l3 l4 l5 l6 : Option zV} {h : Nat} {st : List zV} {w : zW} {Q : Option zV → zW → Prop} (hk : zk w h = 11) : zR 54 157 [l0, l1, l2, l3, l4, l5, l6] (.inr (some h) :: st) w Q = zR 54 160 [l0, l1, l2, l3, l4, l5, l6] (.inl (zf w 104 h) :: st) w Q := zR_go (zst zT_54_157 (zget_i hk (Or.inl rfl)))
theorem zT_54_160 : zT 54 160 = some (.if_icmp .ge 21, 3, 0, []) := by decide +kernel
theorem zr_54_160 {l0 l1 l2 l3 l4 l5 l6 : Option zV} {x y : Int} {st : List zV} {w : zW} {Q : Option zV → zW → Prop}  : zR 54 160 [l0, l1, l2, l3, l4, l5, l6] (.inl y :: .inl x :: st) w Q = (if zN y ≤ zN x then zR 54 181 [l0, l1, l2, l3, l4, l5, l6] st w Q else zR 54 163 [l0, l1, l2, l3, l4, l5, l6] st w Q) := zR_if (zstB zT_54_160 rfl) (by simp [zcmp])
theorem zT_54_163 : zT 54 163 = some (.aload_n 0, 1, 0, []) := by decide +kernel
theorem zr_54_163 {l1 l2 l3 l4 l5 l6 : Option zV} {x : Option Nat} {st : List zV} {w : zW} {Q : Option zV → zW → Prop}  : zR 54 163 [some (.inr x), l1, l2, l3, l4, l5, l6] st w Q = zR 54 164 [some (.inr x), l1, l2, l3, l4, l5, l6] (.inr x :: st) w Q := zR_go (zst zT_54_163 rfl)
theorem zT_54_164 : zT 54 164 = some (.getfield 98, 3, 0, [(11, 31)]) := by decide +kernel
theorem zr_54_164 {l0 l1 l2 l3 l4 l5 l6 : Option zV} {h : Nat} {st : List zV} {w : zW} {Q : Option zV → zW → Prop} (hk : zk w h = 11) : zR 54 164 [l0, l1, l2, l3, l4, l5, l6] (.inr (some h) :: st) w Q = zR 54 167 [l0, l1, l2, l3, l4, l5, l6] (.inr (zp w 103 h) :: st) w Q := zR_go (zst zT_54_164 (zget_r hk rfl))
theorem zT_54_167 : zT 54 167 = some (.iload_n 3, 1, 0, []) := by decide +kernel
theorem zr_54_167 {l0 l1 l2 l4 l5 l6 : Option zV} {x : Int} {st : List zV} {w : zW} {Q : Option zV → zW → Prop}  : zR 54 167 [l0, l1, l2, some (.inl x), l4, l5, l6] st w Q = zR 54 168 [l0, l1, l2, some (.inl x), l4, l5, l6] (.inl x :: st) w Q := zR_go (zst zT_54_167 rfl)
theorem zT_54_168 : zT 54 168 = some (.aload_n 0, 1, 0, []) := by decide +kernel
theorem zr_54_168 {l1 l2 l3 l4 l5 l6 : Option zV} {x : Option Nat} {st : List zV} {w : zW} {Q : Option zV → zW → Prop}  : zR 54 168 [some (.inr x), l1, l2, l3, l4, l5, l6] st w Q = zR 54 169 [some (.inr x), l1, l2, l3, l4, l5, l6] (.inr x :: st) w Q := zR_go (zst zT_54_168 rfl)
theorem zT_54_169 : zT 54 169 = some (.getfield 101, 3, 0, [(11, 33)]) := by decide +kernel
theorem zr_54_169 {l0 l1 l2 l3 l4 l5 l6 : Option zV} {h : Nat} {st : List zV} {w : zW} {Q : Option zV → zW → Prop} (hk : zk w h = 11) : zR 54 169 [l0, l1, l2, l3, l4, l5, l6] (.inr (some h) :: st) w Q = zR 54 172 [l0, l1, l2, l3, l4, l5, l6] (.inr (zp w 105 h) :: st) w Q := zR_go (zst zT_54_169 (zget_r hk rfl))
theorem zT_54_172 : zT 54 172 = some (.iload_n 3, 1, 0, []) := by decide +kernel
theorem zr_54_172 {l0 l1 l2 l4 l5 l6 : Option zV} {x : Int} {st : List zV} {w : zW} {Q : Option zV → zW → Prop}  : zR 54 172 [l0, l1, l2, some (.inl x), l4, l5, l6] st w Q = zR 54 173 [l0, l1, l2, some (.inl x), l4, l5, l6] (.inl x :: st) w Q := zR_go (zst zT_54_172 rfl)
theorem zT_54_173 : zT 54 173 = some (.iaload, 1, 0, []) := by decide +kernel
theorem zr_54_173 {l0 l1 l2 l3 l4 l5 l6 : Option zV} {j : Int} {h : Nat} {st : List zV} {w : zW} {Q : Option zV → zW → Prop} (hk : (zk w h = zNC ∨ zk w h = zNC + 2) ∧ 0 ≤ zN j ∧ zN j < zl w h) : zR 54 173 [l0, l1, l2, l3, l4, l5, l6] (.inl j :: .inr (some h) :: st) w Q = zR 54 174 [l0, l1, l2, l3, l4, l5, l6] (.inl (za w h (zN j).toNat) :: st) w Q := zR_go (zst zT_54_173 (if_pos hk))
theorem zT_54_174 : zT 54 174 = some (.iastore, 1, 0, []) := by decide +kernel
theorem zr_54_174 {l0 l1 l2 l3 l4 l5 l6 : Option zV} {j x : Int} {h : Nat} {st : List zV} {w : zW} {Q : Option zV → zW → Prop} (hk : zk w h = zNC ∧ 0 ≤ zN j ∧ zN j < zl w h) : zR 54 174 [l0, l1, l2, l3, l4, l5, l6] (.inl x :: .inl j :: .inr (some h) :: st) w Q = zR 54 175 [l0, l1, l2, l3, l4, l5, l6] st (zsa w h (zN j).toNat x) Q := zR_go (zst zT_54_174 (if_pos hk))
theorem zT_54_175 : zT 54 175 = some (.iinc 3 1, 3, 0, []) := by decide +kernel
theorem zr_54_175 {l0 l1 l2 l4 l5 l6 : Option zV} {x : Int} {st : List zV} {w : zW} {Q : Option zV → zW → Prop}  : zR 54 175 [l0, l1, l2, some (.inl x), l4, l5, l6] st w Q = zR 54 178 [l0, l1, l2, some (.inl (x + 1)), l4, l5, l6] st w Q := zR_go (zst zT_54_175 rfl)
theorem zT_54_178 : zT 54 178 = some (.goto (-23), 3, 0, []) := by decide +kernel
theorem zr_54_178 {l0 l1 l2 l3 l4 l5 l6 : Option zV} {st : List zV} {w : zW} {Q : Option zV → zW → Prop}  : zR 54 178 [l0, l1, l2, l3, l4, l5, l6] st w Q = zR 54 155 [l0, l1, l2, l3, l4, l5, l6] st w Q := zR_go (zst zT_54_178 rfl)
theorem zT_54_181 : zT 54 181 = some (.aload_n 0, 1, 0, []) := by decide +kernel
theorem zr_54_181 {l1 l2 l3 l4 l5 l6 : Option zV} {x : Option Nat} {st : List zV} {w : zW} {Q : Option zV → zW → Prop}  : zR 54 181 [some (.inr x), l1, l2, l3, l4, l5, l6] st w Q = zR 54 182 [some (.inr x), l1, l2, l3, l4, l5, l6] (.inr x :: st) w Q := zR_go (zst zT_54_181 rfl)
theorem zT_54_182 : zT 54 182 = some (.iload_n 1, 1, 0, []) := by decide +kernel
theorem zr_54_182 {l0 l2 l3 l4 l5 l6 : Option zV} {x : Int} {st : List zV} {w : zW} {Q : Option zV → zW → Prop}  : zR 54 182 [l0, some (.inl x), l2, l3, l4, l5, l6] st w Q = zR 54 183 [l0, some (.inl x), l2, l3, l4, l5, l6] (.inl x :: st) w Q := zR_go (zst zT_54_182 rfl)
theorem zT_54_183 : zT 54 183 = some (.invokevirtual 233, 3, 1, [(11, 51)]) := by decide +kernel
theorem zr_54_183 {l0 l1 l2 l3 l4 l5 l6 : Option zV} {a0 : zV} {h : Nat} {st : List zV} {w : zW} {Q : Option zV → zW → Prop} (hs : st.length ≤ 8) (hk : zk w h = 11) : zR 54 183 [l0, l1, l2, l3, l4, l5, l6] (a0 :: .inr (some h) :: st) w Q = zR 51 0 [some (.inr (some h)), some a0, none] [] w (fun r w2 => zR 54 186 [l0, l1, l2, l3, l4, l5, l6] (r.toList ++ st) w2 Q) := zR_call (zst zT_54_183 (zcall_v [a0] rfl hs hk rfl))
theorem zT_54_186 : zT 54 186 = some (.istore_n 3, 1, 0, []) := by decide +kernel
theorem zr_54_186 {l0 l1 l2 l3 l4 l5 l6 : Option zV} {x : Int} {st : List zV} {w : zW} {Q : Option zV → zW → Prop}  : zR 54 186 [l0, l1, l2, l3, l4, l5, l6] (.inl x :: st) w Q = zR 54 187 [l0, l1, l2, some (.inl x), l4, l5, l6] st w Q := zR_go (zst zT_54_186 rfl)
theorem zT_54_187 : zT 54 187 = some (.aload_n 0, 1, 0, []) := by decide +kernel
theorem zr_54_187 {l1 l2 l3 l4 l5 l6 : Option zV} {x : Option Nat} {st : List zV} {w : zW} {Q : Option zV → zW → Prop}  : zR 54 187 [some (.inr x), l1, l2, l3, l4, l5, l6] st w Q = zR 54 188 [some (.inr x), l1, l2, l3, l4, l5, l6] (.inr x :: st) w Q := zR_go (zst zT_54_187 rfl)
theorem zT_54_188 : zT 54 188 = some (.getfield 98, 3, 0, [(11, 31)]) := by decide +kernel
theorem zr_54_188 {l0 l1 l2 l3 l4 l5 l6 : Option zV} {h : Nat} {st : List zV} {w : zW} {Q : Option zV → zW → Prop} (hk : zk w h = 11) : zR 54 188 [l0, l1, l2, l3, l4, l5, l6] (.inr (some h) :: st) w Q = zR 54 191 [l0, l1, l2, l3, l4, l5, l6] (.inr (zp w 103 h) :: st) w Q := zR_go (zst zT_54_188 (zget_r hk rfl))
theorem zT_54_191 : zT 54 191 = some (.iconst 0, 1, 0, []) := by decide +kernel
theorem zr_54_191 {l0 l1 l2 l3 l4 l5 l6 : Option zV} {st : List zV} {w : zW} {Q : Option zV → zW → Prop}  : zR 54 191 [l0, l1, l2, l3, l4, l5, l6] st w Q = zR 54 192 [l0, l1, l2, l3, l4, l5, l6] (.inl 0 :: st) w Q := zR_go (zst zT_54_191 rfl)
theorem zT_54_192 : zT 54 192 = some (.iaload, 1, 0, []) := by decide +kernel
theorem zr_54_192 {l0 l1 l2 l3 l4 l5 l6 : Option zV} {j : Int} {h : Nat} {st : List zV} {w : zW} {Q : Option zV → zW → Prop} (hk : (zk w h = zNC ∨ zk w h = zNC + 2) ∧ 0 ≤ zN j ∧ zN j < zl w h) : zR 54 192 [l0, l1, l2, l3, l4, l5, l6] (.inl j :: .inr (some h) :: st) w Q = zR 54 193 [l0, l1, l2, l3, l4, l5, l6] (.inl (za w h (zN j).toNat) :: st) w Q := zR_go (zst zT_54_192 (if_pos hk))
theorem zT_54_193 : zT 54 193 = some (.istore 4, 2, 0, []) := by decide +kernel
theorem zr_54_193 {l0 l1 l2 l3 l4 l5 l6 : Option zV} {x : Int} {st : List zV} {w : zW} {Q : Option zV → zW → Prop}  : zR 54 193 [l0, l1, l2, l3, l4, l5, l6] (.inl x :: st) w Q = zR 54 195 [l0, l1, l2, l3, some (.inl x), l5, l6] st w Q := zR_go (zst zT_54_193 rfl)
theorem zT_54_195 : zT 54 195 = some (.iconst 0, 1, 0, []) := by decide +kernel
theorem zr_54_195 {l0 l1 l2 l3 l4 l5 l6 : Option zV} {st : List zV} {w : zW} {Q : Option zV → zW → Prop}  : zR 54 195 [l0, l1, l2, l3, l4, l5, l6] st w Q = zR 54 196 [l0, l1, l2, l3, l4, l5, l6] (.inl 0 :: st) w Q := zR_go (zst zT_54_195 rfl)
theorem zT_54_196 : zT 54 196 = some (.istore 5, 2, 0, []) := by decide +kernel
theorem zr_54_196 {l0 l1 l2 l3 l4 l5 l6 : Option zV} {x : Int} {st : List zV} {w : zW} {Q : Option zV → zW → Prop}  : zR 54 196 [l0, l1, l2, l3, l4, l5, l6] (.inl x :: st) w Q = zR 54 198 [l0, l1, l2, l3, l4, some (.inl x), l6] st w Q := zR_go (zst zT_54_196 rfl)
theorem zT_54_198 : zT 54 198 = some (.iconst 0, 1, 0, []) := by decide +kernel
theorem zr_54_198 {l0 l1 l2 l3 l4 l5 l6 : Option zV} {st : List zV} {w : zW} {Q : Option zV → zW → Prop}  : zR 54 198 [l0, l1, l2, l3, l4, l5, l6] st w Q = zR 54 199 [l0, l1, l2, l3, l4, l5, l6] (.inl 0 :: st) w Q := zR_go (zst zT_54_198 rfl)
theorem zT_54_199 : zT 54 199 = some (.istore 6, 2, 0, []) := by decide +kernel
theorem zr_54_199 {l0 l1 l2 l3 l4 l5 l6 : Option zV} {x : Int} {st : List zV} {w : zW} {Q : Option zV → zW → Prop}  : zR 54 199 [l0, l1, l2, l3, l4, l5, l6] (.inl x :: st) w Q = zR 54 201 [l0, l1, l2, l3, l4, l5, some (.inl x)] st w Q := zR_go (zst zT_54_199 rfl)
theorem zT_54_201 : zT 54 201 = some (.iload 6, 2, 0, []) := by decide +kernel
theorem zr_54_201 {l0 l1 l2 l3 l4 l5 : Option zV} {x : Int} {st : List zV} {w : zW} {Q : Option zV → zW → Prop}  : zR 54 201 [l0, l1, l2, l3, l4, l5, some (.inl x)] st w Q = zR 54 203 [l0, l1, l2, l3, l4, l5, some (.inl x)] (.inl x :: st) w Q := zR_go (zst zT_54_201 rfl)
theorem zT_54_203 : zT 54 203 = some (.bipush 8, 2, 0, []) := by decide +kernel
theorem zr_54_203 {l0 l1 l2 l3 l4 l5 l6 : Option zV} {st : List zV} {w : zW} {Q : Option zV → zW → Prop}  : zR 54 203 [l0, l1, l2, l3, l4, l5, l6] st w Q = zR 54 205 [l0, l1, l2, l3, l4, l5, l6] (.inl 8 :: st) w Q := zR_go (zst zT_54_203 rfl)
theorem zT_54_205 : zT 54 205 = some (.if_icmp .ge 48, 3, 0, []) := by decide +kernel
theorem zr_54_205 {l0 l1 l2 l3 l4 l5 l6 : Option zV} {x y : Int} {st : List zV} {w : zW} {Q : Option zV → zW → Prop}  : zR 54 205 [l0, l1, l2, l3, l4, l5, l6] (.inl y :: .inl x :: st) w Q = (if zN y ≤ zN x then zR 54 253 [l0, l1, l2, l3, l4, l5, l6] st w Q else zR 54 208 [l0, l1, l2, l3, l4, l5, l6] st w Q) := zR_if (zstB zT_54_205 rfl) (by simp [zcmp])
theorem zT_54_208 : zT 54 208 = some (.iload 5, 2, 0, []) := by decide +kernel
theorem zr_54_208 {l0 l1 l2 l3 l4 l6 : Option zV} {x : Int} {st : List zV} {w : zW} {Q : Option zV → zW → Prop}  : zR 54 208 [l0, l1, l2, l3, l4, some (.inl x), l6] st w Q = zR 54 210 [l0, l1, l2, l3, l4, some (.inl x), l6] (.inl x :: st) w Q := zR_go (zst zT_54_208 rfl)
theorem zT_54_210 : zT 54 210 = some (.iload 6, 2, 0, []) := by decide +kernel
theorem zr_54_210 {l0 l1 l2 l3 l4 l5 : Option zV} {x : Int} {st : List zV} {w : zW} {Q : Option zV → zW → Prop}  : zR 54 210 [l0, l1, l2, l3, l4, l5, some (.inl x)] st w Q = zR 54 212 [l0, l1, l2, l3, l4, l5, some (.inl x)] (.inl x :: st) w Q := zR_go (zst zT_54_210 rfl)
theorem zT_54_212 : zT 54 212 = some (.iload_n 2, 1, 0, []) := by decide +kernel
theorem zr_54_212 {l0 l1 l3 l4 l5 l6 : Option zV} {x : Int} {st : List zV} {w : zW} {Q : Option zV → zW → Prop}  : zR 54 212 [l0, l1, some (.inl x), l3, l4, l5, l6] st w Q = zR 54 213 [l0, l1, some (.inl x), l3, l4, l5, l6] (.inl x :: st) w Q := zR_go (zst zT_54_212 rfl)
theorem zT_54_213 : zT 54 213 = some (.if_icmp .eq 30, 3, 0, []) := by decide +kernel
theorem zr_54_213 {l0 l1 l2 l3 l4 l5 l6 : Option zV} {x y : Int} {st : List zV} {w : zW} {Q : Option zV → zW → Prop}  : zR 54 213 [l0, l1, l2, l3, l4, l5, l6] (.inl y :: .inl x :: st) w Q = (if zN x = zN y then zR 54 243 [l0, l1, l2, l3, l4, l5, l6] st w Q else zR 54 216 [l0, l1, l2, l3, l4, l5, l6] st w Q) := zR_if (zstB zT_54_213 rfl) (by simp [zcmp])
theorem zT_54_216 : zT 54 216 = some (.aload_n 0, 1, 0, []) := by decide +kernel
theorem zr_54_216 {l1 l2 l3 l4 l5 l6 : Option zV} {x : Option Nat} {st : List zV} {w : zW} {Q : Option zV → zW → Prop}  : zR 54 216 [some (.inr x), l1, l2, l3, l4, l5, l6] st w Q = zR 54 217 [some (.inr x), l1, l2, l3, l4, l5, l6] (.inr x :: st) w Q := zR_go (zst zT_54_216 rfl)
theorem zT_54_217 : zT 54 217 = some (.getfield 7, 3, 0, [(11, 1)]) := by decide +kernel
theorem zr_54_217 {l0 l1 l2 l3 l4 l5 l6 : Option zV} {h : Nat} {st : List zV} {w : zW} {Q : Option zV → zW → Prop} (hk : zk w h = 11) : zR 54 217 [l0, l1, l2, l3, l4, l5, l6] (.inr (some h) :: st) w Q = zR 54 220 [l0, l1, l2, l3, l4, l5, l6] (.inr (zp w 73 h) :: st) w Q := zR_go (zst zT_54_217 (zget_r hk rfl))
theorem zT_54_220 : zT 54 220 = some (.iload 6, 2, 0, []) := by decide +kernel
theorem zr_54_220 {l0 l1 l2 l3 l4 l5 : Option zV} {x : Int} {st : List zV} {w : zW} {Q : Option zV → zW → Prop}  : zR 54 220 [l0, l1, l2, l3, l4, l5, some (.inl x)] st w Q = zR 54 222 [l0, l1, l2, l3, l4, l5, some (.inl x)] (.inl x :: st) w Q := zR_go (zst zT_54_220 rfl)
theorem zT_54_222 : zT 54 222 = some (.iaload, 1, 0, []) := by decide +kernel
theorem zr_54_222 {l0 l1 l2 l3 l4 l5 l6 : Option zV} {j : Int} {h : Nat} {st : List zV} {w : zW} {Q : Option zV → zW → Prop} (hk : (zk w h = zNC ∨ zk w h = zNC + 2) ∧ 0 ≤ zN j ∧ zN j < zl w h) : zR 54 222 [l0, l1, l2, l3, l4, l5, l6] (.inl j :: .inr (some h) :: st) w Q = zR 54 223 [l0, l1, l2, l3, l4, l5, l6] (.inl (za w h (zN j).toNat) :: st) w Q := zR_go (zst zT_54_222 (if_pos hk))
theorem zT_54_223 : zT 54 223 = some (.iload_n 1, 1, 0, []) := by decide +kernel
theorem zr_54_223 {l0 l2 l3 l4 l5 l6 : Option zV} {x : Int} {st : List zV} {w : zW} {Q : Option zV → zW → Prop}  : zR 54 223 [l0, some (.inl x), l2, l3, l4, l5, l6] st w Q = zR 54 224 [l0, some (.inl x), l2, l3, l4, l5, l6] (.inl x :: st) w Q := zR_go (zst zT_54_223 rfl)
theorem zT_54_224 : zT 54 224 = some (.if_icmp .ne 19, 3, 0, []) := by decide +kernel
theorem zr_54_224 {l0 l1 l2 l3 l4 l5 l6 : Option zV} {x y : Int} {st : List zV} {w : zW} {Q : Option zV → zW → Prop}  : zR 54 224 [l0, l1, l2, l3, l4, l5, l6] (.inl y :: .inl x :: st) w Q = (if zN x ≠ zN y then zR 54 243 [l0, l1, l2, l3, l4, l5, l6] st w Q else zR 54 227 [l0, l1, l2, l3, l4, l5, l6] st w Q) := zR_if (zstB zT_54_224 rfl) (by simp [zcmp])
theorem zT_54_227 : zT 54 227 = some (.aload_n 0, 1, 0, []) := by decide +kernel
theorem zr_54_227 {l1 l2 l3 l4 l5 l6 : Option zV} {x : Option Nat} {st : List zV} {w : zW} {Q : Option zV → zW → Prop}  : zR 54 227 [some (.inr x), l1, l2, l3, l4, l5, l6] st w Q = zR 54 228 [some (.inr x), l1, l2, l3, l4, l5, l6] (.inr x :: st) w Q := zR_go (zst zT_54_227 rfl)
theorem zT_54_228 : zT 54 228 = some (.getfield 16, 3, 0, [(11, 3)]) := by decide +kernel
theorem zr_54_228 {l0 l1 l2 l3 l4 l5 l6 : Option zV} {h : Nat} {st : List zV} {w : zW} {Q : Option zV → zW → Prop} (hk : zk w h = 11) : zR 54 228 [l0, l1, l2, l3, l4, l5, l6] (.inr (some h) :: st) w Q = zR 54 231 [l0, l1, l2, l3, l4, l5, l6] (.inr (zp w 75 h) :: st) w Q := zR_go (zst zT_54_228 (zget_r hk rfl))
theorem zT_54_231 : zT 54 231 = some (.iload 6, 2, 0, []) := by decide +kernel
theorem zr_54_231 {l0 l1 l2 l3 l4 l5 : Option zV} {x : Int} {st : List zV} {w : zW} {Q : Option zV → zW → Prop}  : zR 54 231 [l0, l1, l2, l3, l4, l5, some (.inl x)] st w Q = zR 54 233 [l0, l1, l2, l3, l4, l5, some (.inl x)] (.inl x :: st) w Q := zR_go (zst zT_54_231 rfl)
theorem zT_54_233 : zT 54 233 = some (.iaload, 1, 0, []) := by decide +kernel
theorem zr_54_233 {l0 l1 l2 l3 l4 l5 l6 : Option zV} {j : Int} {h : Nat} {st : List zV} {w : zW} {Q : Option zV → zW → Prop} (hk : (zk w h = zNC ∨ zk w h = zNC + 2) ∧ 0 ≤ zN j ∧ zN j < zl w h) : zR 54 233 [l0, l1, l2, l3, l4, l5, l6] (.inl j :: .inr (some h) :: st) w Q = zR 54 234 [l0, l1, l2, l3, l4, l5, l6] (.inl (za w h (zN j).toNat) :: st) w Q := zR_go (zst zT_54_233 (if_pos hk))
theorem zT_54_234 : zT 54 234 = some (.iload 4, 2, 0, []) := by decide +kernel
theorem zr_54_234 {l0 l1 l2 l3 l5 l6 : Option zV} {x : Int} {st : List zV} {w : zW} {Q : Option zV → zW → Prop}  : zR 54 234 [l0, l1, l2, l3, some (.inl x), l5, l6] st w Q = zR 54 236 [l0, l1, l2, l3, some (.inl x), l5, l6] (.inl x :: st) w Q := zR_go (zst zT_54_234 rfl)
theorem zT_54_236 : zT 54 236 = some (.if_icmp .ne 7, 3, 0, []) := by decide +kernel
theorem zr_54_236 {l0 l1 l2 l3 l4 l5 l6 : Option zV} {x y : Int} {st : List zV} {w : zW} {Q : Option zV → zW → Prop}  : zR 54 236 [l0, l1, l2, l3, l4, l5, l6] (.inl y :: .inl x :: st) w Q = (if zN x ≠ zN y then zR 54 243 [l0, l1, l2, l3, l4, l5, l6] st w Q else zR 54 239 [l0, l1, l2, l3, l4, l5, l6] st w Q) := zR_if (zstB zT_54_236 rfl) (by simp [zcmp])
theorem zT_54_239 : zT 54 239 = some (.iconst 1, 1, 0, []) := by decide +kernel
theorem zr_54_239 {l0 l1 l2 l3 l4 l5 l6 : Option zV} {st : List zV} {w : zW} {Q : Option zV → zW → Prop}  : zR 54 239 [l0, l1, l2, l3, l4, l5, l6] st w Q = zR 54 240 [l0, l1, l2, l3, l4, l5, l6] (.inl 1 :: st) w Q := zR_go (zst zT_54_239 rfl)
theorem zT_54_240 : zT 54 240 = some (.goto 4, 3, 0, []) := by decide +kernel
theorem zr_54_240 {l0 l1 l2 l3 l4 l5 l6 : Option zV} {st : List zV} {w : zW} {Q : Option zV → zW → Prop}  : zR 54 240 [l0, l1, l2, l3, l4, l5, l6] st w Q = zR 54 244 [l0, l1, l2, l3, l4, l5, l6] st w Q := zR_go (zst zT_54_240 rfl)
theorem zT_54_243 : zT 54 243 = some (.iconst 0, 1, 0, []) := by decide +kernel
theorem zr_54_243 {l0 l1 l2 l3 l4 l5 l6 : Option zV} {st : List zV} {w : zW} {Q : Option zV → zW → Prop}  : zR 54 243 [l0, l1, l2, l3, l4, l5, l6] st w Q = zR 54 244 [l0, l1, l2, l3, l4, l5, l6] (.inl 0 :: st) w Q := zR_go (zst zT_54_243 rfl)
theorem zT_54_244 : zT 54 244 = some (.iadd, 1, 0, []) := by decide +kernel
theorem zr_54_244 {l0 l1 l2 l3 l4 l5 l6 : Option zV} {x y : Int} {st : List zV} {w : zW} {Q : Option zV → zW → Prop}  : zR 54 244 [l0, l1, l2, l3, l4, l5, l6] (.inl y :: .inl x :: st) w Q = zR 54 245 [l0, l1, l2, l3, l4, l5, l6] (.inl (x + y) :: st) w Q := zR_go (zst zT_54_244 rfl)
theorem zT_54_245 : zT 54 245 = some (.istore 5, 2, 0, []) := by decide +kernel
theorem zr_54_245 {l0 l1 l2 l3 l4 l5 l6 : Option zV} {x : Int} {st : List zV} {w : zW} {Q : Option zV → zW → Prop}  : zR 54 245 [l0, l1, l2, l3, l4, l5, l6] (.inl x :: st) w Q = zR 54 247 [l0, l1, l2, l3, l4, some (.inl x), l6] st w Q := zR_go (zst zT_54_245 rfl)
theorem zT_54_247 : zT 54 247 = some (.iinc 6 1, 3, 0, []) := by decide +kernel
theorem zr_54_247 {l0 l1 l2 l3 l4 l5 : Option zV} {x : Int} {st : List zV} {w : zW} {Q : Option zV → zW → Prop}  : zR 54 247 [l0, l1, l2, l3, l4, l5, some (.inl x)] st w Q = zR 54 250 [l0, l1, l2, l3, l4, l5, some (.inl (x + 1))] st w Q := zR_go (zst zT_54_247 rfl)
theorem zT_54_250 : zT 54 250 = some (.goto (-49), 3, 0, []) := by decide +kernel
theorem zr_54_250 {l0 l1 l2 l3 l4 l5 l6 : Option zV} {st : List zV} {w : zW} {Q : Option zV → zW → Prop}  : zR 54 250 [l0, l1, l2, l3, l4, l5, l6] st w Q = zR 54 201 [l0, l1, l2, l3, l4, l5, l6] st w Q := zR_go (zst zT_54_250 rfl)
theorem zT_54_253 : zT 54 253 = some (.iload_n 3, 1, 0, []) := by decide +kernel
theorem zr_54_253 {l0 l1 l2 l4 l5 l6 : Option zV} {x : Int} {st : List zV} {w : zW} {Q : Option zV → zW → Prop}  : zR 54 253 [l0, l1, l2, some (.inl x), l4, l5, l6] st w Q = zR 54 254 [l0, l1, l2, some (.inl x), l4, l5, l6] (.inl x :: st) w Q := zR_go (zst zT_54_253 rfl)
theorem zT_54_254 : zT 54 254 = some (.ifCond .eq 8, 3, 0, []) := by decide +kernel
theorem zr_54_254 {l0 l1 l2 l3 l4 l5 l6 : Option zV} {x : Int} {st : List zV} {w : zW} {Q : Option zV → zW → Prop}  : zR 54 254 [l0, l1, l2, l3, l4, l5, l6] (.inl x :: st) w Q = (if zN x = 0 then zR 54 262 [l0, l1, l2, l3, l4, l5, l6] st w Q else zR 54 257 [l0, l1, l2, l3, l4, l5, l6] st w Q) := zR_if (zstB zT_54_254 rfl) (by simp [zcmp])
theorem zT_54_257 : zT 54 257 = some (.iload 5, 2, 0, []) := by decide +kernel
theorem zr_54_257 {l0 l1 l2 l3 l4 l6 : Option zV} {x : Int} {st : List zV} {w : zW} {Q : Option zV → zW → Prop}  : zR 54 257 [l0, l1, l2, l3, l4, some (.inl x), l6] st w Q = zR 54 259 [l0, l1, l2, l3, l4, some (.inl x), l6] (.inl x :: st) w Q := zR_go (zst zT_54_257 rfl)
theorem zT_54_259 : zT 54 259 = some (.ifCond .ne 29, 3, 0, []) := by decide +kernel
theorem zr_54_259 {l0 l1 l2 l3 l4 l5 l6 : Option zV} {x : Int} {st : List zV} {w : zW} {Q : Option zV → zW → Prop}  : zR 54 259 [l0, l1, l2, l3, l4, l5, l6] (.inl x :: st) w Q = (if zN x ≠ 0 then zR 54 288 [l0, l1, l2, l3, l4, l5, l6] st w Q else zR 54 262 [l0, l1, l2, l3, l4, l5, l6] st w Q) := zR_if (zstB zT_54_259 rfl) (by simp [zcmp])
theorem zT_54_262 : zT 54 262 = some (.aload_n 0, 1, 0, []) := by decide +kernel
theorem zr_54_262 {l1 l2 l3 l4 l5 l6 : Option zV} {x : Option Nat} {st : List zV} {w : zW} {Q : Option zV → zW → Prop}  : zR 54 262 [some (.inr x), l1, l2, l3, l4, l5, l6] st w Q = zR 54 263 [some (.inr x), l1, l2, l3, l4, l5, l6] (.inr x :: st) w Q := zR_go (zst zT_54_262 rfl)
theorem zT_54_263 : zT 54 263 = some (.getfield 23, 3, 0, [(11, 5)]) := by decide +kernel
theorem zr_54_263 {l0 l1 l2 l3 l4 l5 l6 : Option zV} {h : Nat} {st : List zV} {w : zW} {Q : Option zV → zW → Prop} (hk : zk w h = 11) : zR 54 263 [l0, l1, l2, l3, l4, l5, l6] (.inr (some h) :: st) w Q = zR 54 266 [l0, l1, l2, l3, l4, l5, l6] (.inr (zp w 77 h) :: st) w Q := zR_go (zst zT_54_263 (zget_r hk rfl))
theorem zT_54_266 : zT 54 266 = some (.iload_n 2, 1, 0, []) := by decide +kernel
theorem zr_54_266 {l0 l1 l3 l4 l5 l6 : Option zV} {x : Int} {st : List zV} {w : zW} {Q : Option zV → zW → Prop}  : zR 54 266 [l0, l1, some (.inl x), l3, l4, l5, l6] st w Q = zR 54 267 [l0, l1, some (.inl x), l3, l4, l5, l6] (.inl x :: st) w Q := zR_go (zst zT_54_266 rfl)
theorem zT_54_267 : zT 54 267 = some (.dup2, 1, 0, []) := by decide +kernel
theorem zr_54_267 {l0 l1 l2 l3 l4 l5 l6 : Option zV} {u v : zV} {st : List zV} {w : zW} {Q : Option zV → zW → Prop}  : zR 54 267 [l0, l1, l2, l3, l4, l5, l6] (v :: u :: st) w Q = zR 54 268 [l0, l1, l2, l3, l4, l5, l6] (v :: u :: v :: u :: st) w Q := zR_go (zst zT_54_267 rfl)
theorem zT_54_268 : zT 54 268 = some (.iaload, 1, 0, []) := by decide +kernel
theorem zr_54_268 {l0 l1 l2 l3 l4 l5 l6 : Option zV} {j : Int} {h : Nat} {st : List zV} {w : zW} {Q : Option zV → zW → Prop} (hk : (zk w h = zNC ∨ zk w h = zNC + 2) ∧ 0 ≤ zN j ∧ zN j < zl w h) : zR 54 268 [l0, l1, l2, l3, l4, l5, l6] (.inl j :: .inr (some h) :: st) w Q = zR 54 269 [l0, l1, l2, l3, l4, l5, l6] (.inl (za w h (zN j).toNat) :: st) w Q := zR_go (zst zT_54_268 (if_pos hk))
theorem zT_54_269 : zT 54 269 = some (.iconst 1, 1, 0, []) := by decide +kernel
theorem zr_54_269 {l0 l1 l2 l3 l4 l5 l6 : Option zV} {st : List zV} {w : zW} {Q : Option zV → zW → Prop}  : zR 54 269 [l0, l1, l2, l3, l4, l5, l6] st w Q = zR 54 270 [l0, l1, l2, l3, l4, l5, l6] (.inl 1 :: st) w Q := zR_go (zst zT_54_269 rfl)
theorem zT_54_270 : zT 54 270 = some (.iadd, 1, 0, []) := by decide +kernel
theorem zr_54_270 {l0 l1 l2 l3 l4 l5 l6 : Option zV} {x y : Int} {st : List zV} {w : zW} {Q : Option zV → zW → Prop}  : zR 54 270 [l0, l1, l2, l3, l4, l5, l6] (.inl y :: .inl x :: st) w Q = zR 54 271 [l0, l1, l2, l3, l4, l5, l6] (.inl (x + y) :: st) w Q := zR_go (zst zT_54_270 rfl)
theorem zT_54_271 : zT 54 271 = some (.iastore, 1, 0, []) := by decide +kernel
theorem zr_54_271 {l0 l1 l2 l3 l4 l5 l6 : Option zV} {j x : Int} {h : Nat} {st : List zV} {w : zW} {Q : Option zV → zW → Prop} (hk : zk w h = zNC ∧ 0 ≤ zN j ∧ zN j < zl w h) : zR 54 271 [l0, l1, l2, l3, l4, l5, l6] (.inl x :: .inl j :: .inr (some h) :: st) w Q = zR 54 272 [l0, l1, l2, l3, l4, l5, l6] st (zsa w h (zN j).toNat x) Q := zR_go (zst zT_54_271 (if_pos hk))
theorem zT_54_272 : zT 54 272 = some (.aload_n 0, 1, 0, []) := by decide +kernel
theorem zr_54_272 {l1 l2 l3 l4 l5 l6 : Option zV} {x : Option Nat} {st : List zV} {w : zW} {Q : Option zV → zW → Prop}  : zR 54 272 [some (.inr x), l1, l2, l3, l4, l5, l6] st w Q = zR 54 273 [some (.inr x), l1, l2, l3, l4, l5, l6] (.inr x :: st) w Q := zR_go (zst zT_54_272 rfl)
theorem zT_54_273 : zT 54 273 = some (.getfield 23, 3, 0, [(11, 5)]) := by decide +kernel
theorem zr_54_273 {l0 l1 l2 l3 l4 l5 l6 : Option zV} {h : Nat} {st : List zV} {w : zW} {Q : Option zV → zW → Prop} (hk : zk w h = 11) : zR 54 273 [l0, l1, l2, l3, l4, l5, l6] (.inr (some h) :: st) w Q = zR 54 276 [l0, l1, l2, l3, l4, l5, l6] (.inr (zp w 77 h) :: st) w Q := zR_go (zst zT_54_273 (zget_r hk rfl))
theorem zT_54_276 : zT 54 276 = some (.iload_n 2, 1, 0, []) := by decide +kernel
theorem zr_54_276 {l0 l1 l3 l4 l5 l6 : Option zV} {x : Int} {st : List zV} {w : zW} {Q : Option zV → zW → Prop}  : zR 54 276 [l0, l1, some (.inl x), l3, l4, l5, l6] st w Q = zR 54 277 [l0, l1, some (.inl x), l3, l4, l5, l6] (.inl x :: st) w Q := zR_go (zst zT_54_276 rfl)
theorem zT_54_277 : zT 54 277 = some (.iaload, 1, 0, []) := by decide +kernel
theorem zr_54_277 {l0 l1 l2 l3 l4 l5 l6 : Option zV} {j : Int} {h : Nat} {st : List zV} {w : zW} {Q : Option zV → zW → Prop} (hk : (zk w h = zNC ∨ zk w h = zNC + 2) ∧ 0 ≤ zN j ∧ zN j < zl w h) : zR 54 277 [l0, l1, l2, l3, l4, l5, l6] (.inl j :: .inr (some h) :: st) w Q = zR 54 278 [l0, l1, l2, l3, l4, l5, l6] (.inl (za w h (zN j).toNat) :: st) w Q := zR_go (zst zT_54_277 (if_pos hk))
theorem zT_54_278 : zT 54 278 = some (.iconst 3, 1, 0, []) := by decide +kernel
theorem zr_54_278 {l0 l1 l2 l3 l4 l5 l6 : Option zV} {st : List zV} {w : zW} {Q : Option zV → zW → Prop}  : zR 54 278 [l0, l1, l2, l3, l4, l5, l6] st w Q = zR 54 279 [l0, l1, l2, l3, l4, l5, l6] (.inl 3 :: st) w Q := zR_go (zst zT_54_278 rfl)
theorem zT_54_279 : zT 54 279 = some (.if_icmp .ne 8, 3, 0, []) := by decide +kernel
theorem zr_54_279 {l0 l1 l2 l3 l4 l5 l6 : Option zV} {x y : Int} {st : List zV} {w : zW} {Q : Option zV → zW → Prop}  : zR 54 279 [l0, l1, l2, l3, l4, l5, l6] (.inl y :: .inl x :: st) w Q = (if zN x ≠ zN y then zR 54 287 [l0, l1, l2, l3, l4, l5, l6] st w Q else zR 54 282 [l0, l1, l2, l3, l4, l5, l6] st w Q) := zR_if (zstB zT_54_279 rfl) (by simp [zcmp])
theorem zT_54_282 : zT 54 282 = some (.aload_n 0, 1, 0, []) := by decide +kernel
theorem zr_54_282 {l1 l2 l3 l4 l5 l6 : Option zV} {x : Option Nat} {st : List zV} {w : zW} {Q : Option zV → zW → Prop}  : zR 54 282 [some (.inr x), l1, l2, l3, l4, l5, l6] st w Q = zR 54 283 [some (.inr x), l1, l2, l3, l4, l5, l6] (.inr x :: st) w Q := zR_go (zst zT_54_282 rfl)
theorem zT_54_283 : zT 54 283 = some (.iload_n 2, 1, 0, []) := by decide +kernel
theorem zr_54_283 {l0 l1 l3 l4 l5 l6 : Option zV} {x : Int} {st : List zV} {w : zW} {Q : Option zV → zW → Prop}  : zR 54 283 [l0, l1, some (.inl x), l3, l4, l5, l6] st w Q = zR 54 284 [l0, l1, some (.inl x), l3, l4, l5, l6] (.inl x :: st) w Q := zR_go (zst zT_54_283 rfl)
theorem zT_54_284 : zT 54 284 = some (.invokevirtual 236, 3, 1, [(11, 55)]) := by decide +kernel
theorem zr_54_284 {l0 l1 l2 l3 l4 l5 l6 : Option zV} {a0 : zV} {h : Nat} {st : List zV} {w : zW} {Q : Option zV → zW → Prop} (hs : st.length ≤ 8) (hk : zk w h = 11) : zR 54 284 [l0, l1, l2, l3, l4, l5, l6] (a0 :: .inr (some h) :: st) w Q = zR 55 0 [some (.inr (some h)), some a0, none] [] w (fun r w2 => zR 54 287 [l0, l1, l2, l3, l4, l5, l6] (r.toList ++ st) w2 Q) := zR_call (zst zT_54_284 (zcall_v [a0] rfl hs hk rfl))
theorem zT_54_287 : zT 54 287 = some (.return_, 1, 0, []) := by decide +kernel
theorem zr_54_287 {l0 l1 l2 l3 l4 l5 l6 : Option zV} {w : zW} {Q : Option zV → zW → Prop} : zR 54 287 [l0, l1, l2, l3, l4, l5, l6] [] w Q = Q none w := zR_ret (zst zT_54_287 rfl)
theorem zT_54_288 : zT 54 288 = some (.iconst 0, 1, 0, []) := by decide +kernel
theorem zr_54_288 {l0 l1 l2 l3 l4 l5 l6 : Option zV} {st : List zV} {w : zW} {Q : Option zV → zW → Prop}  : zR 54 288 [l0, l1, l2, l3, l4, l5, l6] st w Q = zR 54 289 [l0, l1, l2, l3, l4, l5, l6] (.inl 0 :: st) w Q := zR_go (zst zT_54_288 rfl)
theorem zT_54_289 : zT 54 289 = some (.istore 6, 2, 0, []) := by decide +kernel
theorem zr_54_289 {l0 l1 l2 l3 l4 l5 l6 : Option zV} {x : Int} {st : List zV} {w : zW} {Q : Option zV → zW → Prop}  : zR 54 289 [l0, l1, l2, l3, l4, l5, l6] (.inl x :: st) w Q = zR 54 291 [l0, l1, l2, l3, l4, l5, some (.inl x)] st w Q := zR_go (zst zT_54_289 rfl)
theorem zT_54_291 : zT 54 291 = some (.iload 6, 2, 0, []) := by decide +kernel
theorem zr_54_291 {l0 l1 l2 l3 l4 l5 : Option zV} {x : Int} {st : List zV} {w : zW} {Q : Option zV → zW → Prop}  : zR 54 291 [l0, l1, l2, l3, l4, l5, some (.inl x)] st w Q = zR 54 293 [l0, l1, l2, l3, l4, l5, some (.inl x)] (.inl x :: st) w Q := zR_go (zst zT_54_291 rfl)
theorem zT_54_293 : zT 54 293 = some (.bipush 12, 2, 0, []) := by decide +kernel
theorem zr_54_293 {l0 l1 l2 l3 l4 l5 l6 : Option zV} {st : List zV} {w : zW} {Q : Option zV → zW → Prop}  : zR 54 293 [l0, l1, l2, l3, l4, l5, l6] st w Q = zR 54 295 [l0, l1, l2, l3, l4, l5, l6] (.inl 12 :: st) w Q := zR_go (zst zT_54_293 rfl)
theorem zT_54_295 : zT 54 295 = some (.if_icmp .ge 28, 3, 0, []) := by decide +kernel
theorem zr_54_295 {l0 l1 l2 l3 l4 l5 l6 : Option zV} {x y : Int} {st : List zV} {w : zW} {Q : Option zV → zW → Prop}  : zR 54 295 [l0, l1, l2, l3, l4, l5, l6] (.inl y :: .inl x :: st) w Q = (if zN y ≤ zN x then zR 54 323 [l0, l1, l2, l3, l4, l5, l6] st w Q else zR 54 298 [l0, l1, l2, l3, l4, l5, l6] st w Q) := zR_if (zstB zT_54_295 rfl) (by simp [zcmp])
theorem zT_54_298 : zT 54 298 = some (.aload_n 0, 1, 0, []) := by decide +kernel
theorem zr_54_298 {l1 l2 l3 l4 l5 l6 : Option zV} {x : Option Nat} {st : List zV} {w : zW} {Q : Option zV → zW → Prop}  : zR 54 298 [some (.inr x), l1, l2, l3, l4, l5, l6] st w Q = zR 54 299 [some (.inr x), l1, l2, l3, l4, l5, l6] (.inr x :: st) w Q := zR_go (zst zT_54_298 rfl)
theorem zT_54_299 : zT 54 299 = some (.getfield 110, 3, 0, [(11, 37)]) := by decide +kernel
theorem zr_54_299 {l0 l1 l2 l3 l4 l5 l6 : Option zV} {h : Nat} {st : List zV} {w : zW} {Q : Option zV → zW → Prop} (hk : zk w h = 11) : zR 54 299 [l0, l1, l2, l3, l4, l5, l6] (.inr (some h) :: st) w Q = zR 54 302 [l0, l1, l2, l3, l4, l5, l6] (.inr (zp w 109 h) :: st) w Q := zR_go (zst zT_54_299 (zget_r hk rfl))
theorem zT_54_302 : zT 54 302 = some (.iload 6, 2, 0, []) := by decide +kernel
theorem zr_54_302 {l0 l1 l2 l3 l4 l5 : Option zV} {x : Int} {st : List zV} {w : zW} {Q : Option zV → zW → Prop}  : zR 54 302 [l0, l1, l2, l3, l4, l5, some (.inl x)] st w Q = zR 54 304 [l0, l1, l2, l3, l4, l5, some (.inl x)] (.inl x :: st) w Q := zR_go (zst zT_54_302 rfl)
theorem zT_54_304 : zT 54 304 = some (.aload_n 0, 1, 0, []) := by decide +kernel
theorem zr_54_304 {l1 l2 l3 l4 l5 l6 : Option zV} {x : Option Nat} {st : List zV} {w : zW} {Q : Option zV → zW → Prop}  : zR 54 304 [some (.inr x), l1, l2, l3, l4, l5, l6] st w Q = zR 54 305 [some (.inr x), l1, l2, l3, l4, l5, l6] (.inr x :: st) w Q := zR_go (zst zT_54_304 rfl)
theorem zT_54_305 : zT 54 305 = some (.getfield 29, 3, 0, [(11, 7)]) := by decide +kernel
theorem zr_54_305 {l0 l1 l2 l3 l4 l5 l6 : Option zV} {h : Nat} {st : List zV} {w : zW} {Q : Option zV → zW → Prop} (hk : zk w h = 11) : zR 54 305 [l0, l1, l2, l3, l4, l5, l6] (.inr (some h) :: st) w Q = zR 54 308 [l0, l1, l2, l3, l4, l5, l6] (.inr (zp w 79 h) :: st) w Q := zR_go (zst zT_54_305 (zget_r hk rfl))
theorem zT_54_308 : zT 54 308 = some (.bipush 96, 2, 0, []) := by decide +kernel
theorem zr_54_308 {l0 l1 l2 l3 l4 l5 l6 : Option zV} {st : List zV} {w : zW} {Q : Option zV → zW → Prop}  : zR 54 308 [l0, l1, l2, l3, l4, l5, l6] st w Q = zR 54 310 [l0, l1, l2, l3, l4, l5, l6] (.inl 96 :: st) w Q := zR_go (zst zT_54_308 rfl)
theorem zT_54_310 : zT 54 310 = some (.iload_n 2, 1, 0, []) := by decide +kernel
theorem zr_54_310 {l0 l1 l3 l4 l5 l6 : Option zV} {x : Int} {st : List zV} {w : zW} {Q : Option zV → zW → Prop}  : zR 54 310 [l0, l1, some (.inl x), l3, l4, l5, l6] st w Q = zR 54 311 [l0, l1, some (.inl x), l3, l4, l5, l6] (.inl x :: st) w Q := zR_go (zst zT_54_310 rfl)
theorem zT_54_311 : zT 54 311 = some (.imul, 1, 0, []) := by decide +kernel
theorem zr_54_311 {l0 l1 l2 l3 l4 l5 l6 : Option zV} {x y : Int} {st : List zV} {w : zW} {Q : Option zV → zW → Prop}  : zR 54 311 [l0, l1, l2, l3, l4, l5, l6] (.inl y :: .inl x :: st) w Q = zR 54 312 [l0, l1, l2, l3, l4, l5, l6] (.inl (x * y) :: st) w Q := zR_go (zst zT_54_311 rfl)
theorem zT_54_312 : zT 54 312 = some (.iload 6, 2, 0, []) := by decide +kernel
theorem zr_54_312 {l0 l1 l2 l3 l4 l5 : Option zV} {x : Int} {st : List zV} {w : zW} {Q : Option zV → zW → Prop}  : zR 54 312 [l0, l1, l2, l3, l4, l5, some (.inl x)] st w Q = zR 54 314 [l0, l1, l2, l3, l4, l5, some (.inl x)] (.inl x :: st) w Q := zR_go (zst zT_54_312 rfl)
theorem zT_54_314 : zT 54 314 = some (.iadd, 1, 0, []) := by decide +kernel
theorem zr_54_314 {l0 l1 l2 l3 l4 l5 l6 : Option zV} {x y : Int} {st : List zV} {w : zW} {Q : Option zV → zW → Prop}  : zR 54 314 [l0, l1, l2, l3, l4, l5, l6] (.inl y :: .inl x :: st) w Q = zR 54 315 [l0, l1, l2, l3, l4, l5, l6] (.inl (x + y) :: st) w Q := zR_go (zst zT_54_314 rfl)
theorem zT_54_315 : zT 54 315 = some (.iaload, 1, 0, []) := by decide +kernel
theorem zr_54_315 {l0 l1 l2 l3 l4 l5 l6 : Option zV} {j : Int} {h : Nat} {st : List zV} {w : zW} {Q : Option zV → zW → Prop} (hk : (zk w h = zNC ∨ zk w h = zNC + 2) ∧ 0 ≤ zN j ∧ zN j < zl w h) : zR 54 315 [l0, l1, l2, l3, l4, l5, l6] (.inl j :: .inr (some h) :: st) w Q = zR 54 316 [l0, l1, l2, l3, l4, l5, l6] (.inl (za w h (zN j).toNat) :: st) w Q := zR_go (zst zT_54_315 (if_pos hk))
theorem zT_54_316 : zT 54 316 = some (.iastore, 1, 0, []) := by decide +kernel
theorem zr_54_316 {l0 l1 l2 l3 l4 l5 l6 : Option zV} {j x : Int} {h : Nat} {st : List zV} {w : zW} {Q : Option zV → zW → Prop} (hk : zk w h = zNC ∧ 0 ≤ zN j ∧ zN j < zl w h) : zR 54 316 [l0, l1, l2, l3, l4, l5, l6] (.inl x :: .inl j :: .inr (some h) :: st) w Q = zR 54 317 [l0, l1, l2, l3, l4, l5, l6] st (zsa w h (zN j).toNat x) Q := zR_go (zst zT_54_316 (if_pos hk))
theorem zT_54_317 : zT 54 317 = some (.iinc 6 1, 3, 0, []) := by decide +kernel
theorem zr_54_317 {l0 l1 l2 l3 l4 l5 : Option zV} {x : Int} {st : List zV} {w : zW} {Q : Option zV → zW → Prop}  : zR 54 317 [l0, l1, l2, l3, l4, l5, some (.inl x)] st w Q = zR 54 320 [l0, l1, l2, l3, l4, l5, some (.inl (x + 1))] st w Q := zR_go (zst zT_54_317 rfl)
theorem zT_54_320 : zT 54 320 = some (.goto (-29), 3, 0, []) := by decide +kernel
theorem zr_54_320 {l0 l1 l2 l3 l4 l5 l6 : Option zV} {st : List zV} {w : zW} {Q : Option zV → zW → Prop}  : zR 54 320 [l0, l1, l2, l3, l4, l5, l6] st w Q = zR 54 291 [l0, l1, l2, l3, l4, l5, l6] st w Q := zR_go (zst zT_54_320 rfl)
theorem zT_54_323 : zT 54 323 = some (.aload_n 0, 1, 0, []) := by decide +kernel
theorem zr_54_323 {l1 l2 l3 l4 l5 l6 : Option zV} {x : Option Nat} {st : List zV} {w : zW} {Q : Option zV → zW → Prop}  : zR 54 323 [some (.inr x), l1, l2, l3, l4, l5, l6] st w Q = zR 54 324 [some (.inr x), l1, l2, l3, l4, l5, l6] (.inr x :: st) w Q := zR_go (zst zT_54_323 rfl)
theorem zT_54_324 : zT 54 324 = some (.iload_n 2, 1, 0, []) := by decide +kernel
theorem zr_54_324 {l0 l1 l3 l4 l5 l6 : Option zV} {x : Int} {st : List zV} {w : zW} {Q : Option zV → zW → Prop}  : zR 54 324 [l0, l1, some (.inl x), l3, l4, l5, l6] st w Q = zR 54 325 [l0, l1, some (.inl x), l3, l4, l5, l6] (.inl x :: st) w Q := zR_go (zst zT_54_324 rfl)
theorem zT_54_325 : zT 54 325 = some (.invokevirtual 236, 3, 1, [(11, 55)]) := by decide +kernel
theorem zr_54_325 {l0 l1 l2 l3 l4 l5 l6 : Option zV} {a0 : zV} {h : Nat} {st : List zV} {w : zW} {Q : Option zV → zW → Prop} (hs : st.length ≤ 8) (hk : zk w h = 11) : zR 54 325 [l0, l1, l2, l3, l4, l5, l6] (a0 :: .inr (some h) :: st) w Q = zR 55 0 [some (.inr (some h)), some a0, none] [] w (fun r w2 => zR 54 328 [l0, l1, l2, l3, l4, l5, l6] (r.toList ++ st) w2 Q) := zR_call (zst zT_54_325 (zcall_v [a0] rfl hs hk rfl))
theorem zT_54_328 : zT 54 328 = some (.iconst 0, 1, 0, []) := by decide +kernel
theorem zr_54_328 {l0 l1 l2 l3 l4 l5 l6 : Option zV} {st : List zV} {w : zW} {Q : Option zV → zW → Prop}  : zR 54 328 [l0, l1, l2, l3, l4, l5, l6] st w Q = zR 54 329 [l0, l1, l2, l3, l4, l5, l6] (.inl 0 :: st) w Q := zR_go (zst zT_54_328 rfl)
theorem zT_54_329 : zT 54 329 = some (.istore 6, 2, 0, []) := by decide +kernel
theorem zr_54_329 {l0 l1 l2 l3 l4 l5 l6 : Option zV} {x : Int} {st : List zV} {w : zW} {Q : Option zV → zW → Prop}  : zR 54 329 [l0, l1, l2, l3, l4, l5, l6] (.inl x :: st) w Q = zR 54 331 [l0, l1, l2, l3, l4, l5, some (.inl x)] st w Q := zR_go (zst zT_54_329 rfl)
theorem zT_54_331 : zT 54 331 = some (.iload 6, 2, 0, []) := by decide +kernel
theorem zr_54_331 {l0 l1 l2 l3 l4 l5 : Option zV} {x : Int} {st : List zV} {w : zW} {Q : Option zV → zW → Prop}  : zR 54 331 [l0, l1, l2, l3, l4, l5, some (.inl x)] st w Q = zR 54 333 [l0, l1, l2, l3, l4, l5, some (.inl x)] (.inl x :: st) w Q := zR_go (zst zT_54_331 rfl)
theorem zT_54_333 : zT 54 333 = some (.bipush 8, 2, 0, []) := by decide +kernel
theorem zr_54_333 {l0 l1 l2 l3 l4 l5 l6 : Option zV} {st : List zV} {w : zW} {Q : Option zV → zW → Prop}  : zR 54 333 [l0, l1, l2, l3, l4, l5, l6] st w Q = zR 54 335 [l0, l1, l2, l3, l4, l5, l6] (.inl 8 :: st) w Q := zR_go (zst zT_54_333 rfl)
theorem zT_54_335 : zT 54 335 = some (.if_icmp .ge 44, 3, 0, []) := by decide +kernel
theorem zr_54_335 {l0 l1 l2 l3 l4 l5 l6 : Option zV} {x y : Int} {st : List zV} {w : zW} {Q : Option zV → zW → Prop}  : zR 54 335 [l0, l1, l2, l3, l4, l5, l6] (.inl y :: .inl x :: st) w Q = (if zN y ≤ zN x then zR 54 379 [l0, l1, l2, l3, l4, l5, l6] st w Q else zR 54 338 [l0, l1, l2, l3, l4, l5, l6] st w Q) := zR_if (zstB zT_54_335 rfl) (by simp [zcmp])
theorem zT_54_338 : zT 54 338 = some (.iload 6, 2, 0, []) := by decide +kernel
theorem zr_54_338 {l0 l1 l2 l3 l4 l5 : Option zV} {x : Int} {st : List zV} {w : zW} {Q : Option zV → zW → Prop}  : zR 54 338 [l0, l1, l2, l3, l4, l5, some (.inl x)] st w Q = zR 54 340 [l0, l1, l2, l3, l4, l5, some (.inl x)] (.inl x :: st) w Q := zR_go (zst zT_54_338 rfl)
theorem zT_54_340 : zT 54 340 = some (.iload_n 2, 1, 0, []) := by decide +kernel
theorem zr_54_340 {l0 l1 l3 l4 l5 l6 : Option zV} {x : Int} {st : List zV} {w : zW} {Q : Option zV → zW → Prop}  : zR 54 340 [l0, l1, some (.inl x), l3, l4, l5, l6] st w Q = zR 54 341 [l0, l1, some (.inl x), l3, l4, l5, l6] (.inl x :: st) w Q := zR_go (zst zT_54_340 rfl)
theorem zT_54_341 : zT 54 341 = some (.if_icmp .eq 32, 3, 0, []) := by decide +kernel
theorem zr_54_341 {l0 l1 l2 l3 l4 l5 l6 : Option zV} {x y : Int} {st : List zV} {w : zW} {Q : Option zV → zW → Prop}  : zR 54 341 [l0, l1, l2, l3, l4, l5, l6] (.inl y :: .inl x :: st) w Q = (if zN x = zN y then zR 54 373 [l0, l1, l2, l3, l4, l5, l6] st w Q else zR 54 344 [l0, l1, l2, l3, l4, l5, l6] st w Q) := zR_if (zstB zT_54_341 rfl) (by simp [zcmp])
theorem zT_54_344 : zT 54 344 = some (.aload_n 0, 1, 0, []) := by decide +kernel
theorem zr_54_344 {l1 l2 l3 l4 l5 l6 : Option zV} {x : Option Nat} {st : List zV} {w : zW} {Q : Option zV → zW → Prop}  : zR 54 344 [some (.inr x), l1, l2, l3, l4, l5, l6] st w Q = zR 54 345 [some (.inr x), l1, l2, l3, l4, l5, l6] (.inr x :: st) w Q := zR_go (zst zT_54_344 rfl)
theorem zT_54_345 : zT 54 345 = some (.getfield 7, 3, 0, [(11, 1)]) := by decide +kernel
theorem zr_54_345 {l0 l1 l2 l3 l4 l5 l6 : Option zV} {h : Nat} {st : List zV} {w : zW} {Q : Option zV → zW → Prop} (hk : zk w h = 11) : zR 54 345 [l0, l1, l2, l3, l4, l5, l6] (.inr (some h) :: st) w Q = zR 54 348 [l0, l1, l2, l3, l4, l5, l6] (.inr (zp w 73 h) :: st) w Q := zR_go (zst zT_54_345 (zget_r hk rfl))
theorem zT_54_348 : zT 54 348 = some (.iload 6, 2, 0, []) := by decide +kernel
theorem zr_54_348 {l0 l1 l2 l3 l4 l5 : Option zV} {x : Int} {st : List zV} {w : zW} {Q : Option zV → zW → Prop}  : zR 54 348 [l0, l1, l2, l3, l4, l5, some (.inl x)] st w Q = zR 54 350 [l0, l1, l2, l3, l4, l5, some (.inl x)] (.inl x :: st) w Q := zR_go (zst zT_54_348 rfl)
theorem zT_54_350 : zT 54 350 = some (.iaload, 1, 0, []) := by decide +kernel
theorem zr_54_350 {l0 l1 l2 l3 l4 l5 l6 : Option zV} {j : Int} {h : Nat} {st : List zV} {w : zW} {Q : Option zV → zW → Prop} (hk : (zk w h = zNC ∨ zk w h = zNC + 2) ∧ 0 ≤ zN j ∧ zN j < zl w h) : zR 54 350 [l0, l1, l2, l3, l4, l5, l6] (.inl j :: .inr (some h) :: st) w Q = zR 54 351 [l0, l1, l2, l3, l4, l5, l6] (.inl (za w h (zN j).toNat) :: st) w Q := zR_go (zst zT_54_350 (if_pos hk))
theorem zT_54_351 : zT 54 351 = some (.iload_n 1, 1, 0, []) := by decide +kernel
theorem zr_54_351 {l0 l2 l3 l4 l5 l6 : Option zV} {x : Int} {st : List zV} {w : zW} {Q : Option zV → zW → Prop}  : zR 54 351 [l0, some (.inl x), l2, l3, l4, l5, l6] st w Q = zR 54 352 [l0, some (.inl x), l2, l3, l4, l5, l6] (.inl x :: st) w Q := zR_go (zst zT_54_351 rfl)
theorem zT_54_352 : zT 54 352 = some (.if_icmp .ne 21, 3, 0, []) := by decide +kernel
theorem zr_54_352 {l0 l1 l2 l3 l4 l5 l6 : Option zV} {x y : Int} {st : List zV} {w : zW} {Q : Option zV → zW → Prop}  : zR 54 352 [l0, l1, l2, l3, l4, l5, l6] (.inl y :: .inl x :: st) w Q = (if zN x ≠ zN y then zR 54 373 [l0, l1, l2, l3, l4, l5, l6] st w Q else zR 54 355 [l0, l1, l2, l3, l4, l5, l6] st w Q) := zR_if (zstB zT_54_352 rfl) (by simp [zcmp])
theorem zT_54_355 : zT 54 355 = some (.aload_n 0, 1, 0, []) := by decide +kernel
theorem zr_54_355 {l1 l2 l3 l4 l5 l6 : Option zV} {x : Option Nat} {st : List zV} {w : zW} {Q : Option zV → zW → Prop}  : zR 54 355 [some (.inr x), l1, l2, l3, l4, l5, l6] st w Q = zR 54 356 [some (.inr x), l1, l2, l3, l4, l5, l6] (.inr x :: st) w Q := zR_go (zst zT_54_355 rfl)
theorem zT_54_356 : zT 54 356 = some (.getfield 16, 3, 0, [(11, 3)]) := by decide +kernel
theorem zr_54_356 {l0 l1 l2 l3 l4 l5 l6 : Option zV} {h : Nat} {st : List zV} {w : zW} {Q : Option zV → zW → Prop} (hk : zk w h = 11) : zR 54 356 [l0, l1, l2, l3, l4, l5, l6] (.inr (some h) :: st) w Q = zR 54 359 [l0, l1, l2, l3, l4, l5, l6] (.inr (zp w 75 h) :: st) w Q := zR_go (zst zT_54_356 (zget_r hk rfl))
theorem zT_54_359 : zT 54 359 = some (.iload 6, 2, 0, []) := by decide +kernel
theorem zr_54_359 {l0 l1 l2 l3 l4 l5 : Option zV} {x : Int} {st : List zV} {w : zW} {Q : Option zV → zW → Prop}  : zR 54 359 [l0, l1, l2, l3, l4, l5, some (.inl x)] st w Q = zR 54 361 [l0, l1, l2, l3, l4, l5, some (.inl x)] (.inl x :: st) w Q := zR_go (zst zT_54_359 rfl)
theorem zT_54_361 : zT 54 361 = some (.iaload, 1, 0, []) := by decide +kernel
theorem zr_54_361 {l0 l1 l2 l3 l4 l5 l6 : Option zV} {j : Int} {h : Nat} {st : List zV} {w : zW} {Q : Option zV → zW → Prop} (hk : (zk w h = zNC ∨ zk w h = zNC + 2) ∧ 0 ≤ zN j ∧ zN j < zl w h) : zR 54 361 [l0, l1, l2, l3, l4, l5, l6] (.inl j :: .inr (some h) :: st) w Q = zR 54 362 [l0, l1, l2, l3, l4, l5, l6] (.inl (za w h (zN j).toNat) :: st) w Q := zR_go (zst zT_54_361 (if_pos hk))
theorem zT_54_362 : zT 54 362 = some (.iload 4, 2, 0, []) := by decide +kernel
theorem zr_54_362 {l0 l1 l2 l3 l5 l6 : Option zV} {x : Int} {st : List zV} {w : zW} {Q : Option zV → zW → Prop}  : zR 54 362 [l0, l1, l2, l3, some (.inl x), l5, l6] st w Q = zR 54 364 [l0, l1, l2, l3, some (.inl x), l5, l6] (.inl x :: st) w Q := zR_go (zst zT_54_362 rfl)
theorem zT_54_364 : zT 54 364 = some (.if_icmp .ne 9, 3, 0, []) := by decide +kernel
theorem zr_54_364 {l0 l1 l2 l3 l4 l5 l6 : Option zV} {x y : Int} {st : List zV} {w : zW} {Q : Option zV → zW → Prop}  : zR 54 364 [l0, l1, l2, l3, l4, l5, l6] (.inl y :: .inl x :: st) w Q = (if zN x ≠ zN y then zR 54 373 [l0, l1, l2, l3, l4, l5, l6] st w Q else zR 54 367 [l0, l1, l2, l3, l4, l5, l6] st w Q) := zR_if (zstB zT_54_364 rfl) (by simp [zcmp])
theorem zT_54_367 : zT 54 367 = some (.aload_n 0, 1, 0, []) := by decide +kernel
theorem zr_54_367 {l1 l2 l3 l4 l5 l6 : Option zV} {x : Option Nat} {st : List zV} {w : zW} {Q : Option zV → zW → Prop}  : zR 54 367 [some (.inr x), l1, l2, l3, l4, l5, l6] st w Q = zR 54 368 [some (.inr x), l1, l2, l3, l4, l5, l6] (.inr x :: st) w Q := zR_go (zst zT_54_367 rfl)
theorem zT_54_368 : zT 54 368 = some (.iload 6, 2, 0, []) := by decide +kernel
theorem zr_54_368 {l0 l1 l2 l3 l4 l5 : Option zV} {x : Int} {st : List zV} {w : zW} {Q : Option zV → zW → Prop}  : zR 54 368 [l0, l1, l2, l3, l4, l5, some (.inl x)] st w Q = zR 54 370 [l0, l1, l2, l3, l4, l5, some (.inl x)] (.inl x :: st) w Q := zR_go (zst zT_54_368 rfl)
theorem zT_54_370 : zT 54 370 = some (.invokevirtual 239, 3, 1, [(11, 45)]) := by decide +kernel
theorem zr_54_370 {l0 l1 l2 l3 l4 l5 l6 : Option zV} {a0 : zV} {h : Nat} {st : List zV} {w : zW} {Q : Option zV → zW → Prop} (hs : st.length ≤ 8) (hk : zk w h = 11) : zR 54 370 [l0, l1, l2, l3, l4, l5, l6] (a0 :: .inr (some h) :: st) w Q = zR 45 0 [some (.inr (some h)), some a0, none, none, none, none] [] w (fun r w2 => zR 54 373 [l0, l1, l2, l3, l4, l5, l6] (r.toList ++ st) w2 Q) := zR_call (zst zT_54_370 (zcall_v [a0] rfl hs hk rfl))
theorem zT_54_373 : zT 54 373 = some (.iinc 6 1, 3, 0, []) := by decide +kernel
theorem zr_54_373 {l0 l1 l2 l3 l4 l5 : Option zV} {x : Int} {st : List zV} {w : zW} {Q : Option zV → zW → Prop}  : zR 54 373 [l0, l1, l2, l3, l4, l5, some (.inl x)] st w Q = zR 54 376 [l0, l1, l2, l3, l4, l5, some (.inl (x + 1))] st w Q := zR_go (zst zT_54_373 rfl)
theorem zT_54_376 : zT 54 376 = some (.goto (-45), 3, 0, []) := by decide +kernel
theorem zr_54_376 {l0 l1 l2 l3 l4 l5 l6 : Option zV} {st : List zV} {w : zW} {Q : Option zV → zW → Prop}  : zR 54 376 [l0, l1, l2, l3, l4, l5, l6] st w Q = zR 54 331 [l0, l1, l2, l3, l4, l5, l6] st w Q := zR_go (zst zT_54_376 rfl)
theorem zT_54_379 : zT 54 379 = some (.return_, 1, 0, []) := by decide +kernel
theorem zr_54_379 {l0 l1 l2 l3 l4 l5 l6 : Option zV} {w : zW} {Q : Option zV → zW → Prop} : zR 54 379 [l0, l1, l2, l3, l4, l5, l6] [] w Q = Q none w := zR_ret (zst zT_54_379 rfl)
theorem zT_55_0 : zT 55 0 = some (.bipush 96, 2, 0, []) := by decide +kernel
theorem zr_55_0 {l0 l1 l2 : Option zV} {st : List zV} {w : zW} {Q : Option zV → zW → Prop}  : zR 55 0 [l0, l1, l2] st w Q = zR 55 2 [l0, l1, l2] (.inl 96 :: st) w Q := zR_go (zst zT_55_0 rfl)
theorem zT_55_2 : zT 55 2 = some (.iload_n 1, 1, 0, []) := by decide +kernel
theorem zr_55_2 {l0 l2 : Option zV} {x : Int} {st : List zV} {w : zW} {Q : Option zV → zW → Prop}  : zR 55 2 [l0, some (.inl x), l2] st w Q = zR 55 3 [l0, some (.inl x), l2] (.inl x :: st) w Q := zR_go (zst zT_55_2 rfl)
theorem zT_55_3 : zT 55 3 = some (.imul, 1, 0, []) := by decide +kernel
theorem zr_55_3 {l0 l1 l2 : Option zV} {x y : Int} {st : List zV} {w : zW} {Q : Option zV → zW → Prop}  : zR 55 3 [l0, l1, l2] (.inl y :: .inl x :: st) w Q = zR 55 4 [l0, l1, l2] (.inl (x * y) :: st) w Q := zR_go (zst zT_55_3 rfl)
theorem zT_55_4 : zT 55 4 = some (.istore_n 2, 1, 0, []) := by decide +kernel
theorem zr_55_4 {l0 l1 l2 : Option zV} {x : Int} {st : List zV} {w : zW} {Q : Option zV → zW → Prop}  : zR 55 4 [l0, l1, l2] (.inl x :: st) w Q = zR 55 5 [l0, l1, some (.inl x)] st w Q := zR_go (zst zT_55_4 rfl)
theorem zT_55_5 : zT 55 5 = some (.iload_n 2, 1, 0, []) := by decide +kernel
theorem zr_55_5 {l0 l1 : Option zV} {x : Int} {st : List zV} {w : zW} {Q : Option zV → zW → Prop}  : zR 55 5 [l0, l1, some (.inl x)] st w Q = zR 55 6 [l0, l1, some (.inl x)] (.inl x :: st) w Q := zR_go (zst zT_55_5 rfl)
theorem zT_55_6 : zT 55 6 = some (.bipush 96, 2, 0, []) := by decide +kernel
theorem zr_55_6 {l0 l1 l2 : Option zV} {st : List zV} {w : zW} {Q : Option zV → zW → Prop}  : zR 55 6 [l0, l1, l2] st w Q = zR 55 8 [l0, l1, l2] (.inl 96 :: st) w Q := zR_go (zst zT_55_6 rfl)
theorem zT_55_8 : zT 55 8 = some (.iload_n 1, 1, 0, []) := by decide +kernel
theorem zr_55_8 {l0 l2 : Option zV} {x : Int} {st : List zV} {w : zW} {Q : Option zV → zW → Prop}  : zR 55 8 [l0, some (.inl x), l2] st w Q = zR 55 9 [l0, some (.inl x), l2] (.inl x :: st) w Q := zR_go (zst zT_55_8 rfl)
theorem zT_55_9 : zT 55 9 = some (.imul, 1, 0, []) := by decide +kernel
theorem zr_55_9 {l0 l1 l2 : Option zV} {x y : Int} {st : List zV} {w : zW} {Q : Option zV → zW → Prop}  : zR 55 9 [l0, l1, l2] (.inl y :: .inl x :: st) w Q = zR 55 10 [l0, l1, l2] (.inl (x * y) :: st) w Q := zR_go (zst zT_55_9 rfl)
theorem zT_55_10 : zT 55 10 = some (.bipush 84, 2, 0, []) := by decide +kernel
theorem zr_55_10 {l0 l1 l2 : Option zV} {st : List zV} {w : zW} {Q : Option zV → zW → Prop}  : zR 55 10 [l0, l1, l2] st w Q = zR 55 12 [l0, l1, l2] (.inl 84 :: st) w Q := zR_go (zst zT_55_10 rfl)
theorem zT_55_12 : zT 55 12 = some (.iadd, 1, 0, []) := by decide +kernel
theorem zr_55_12 {l0 l1 l2 : Option zV} {x y : Int} {st : List zV} {w : zW} {Q : Option zV → zW → Prop}  : zR 55 12 [l0, l1, l2] (.inl y :: .inl x :: st) w Q = zR 55 13 [l0, l1, l2] (.inl (x + y) :: st) w Q := zR_go (zst zT_55_12 rfl)
theorem zT_55_13 : zT 55 13 = some (.if_icmp .ge 24, 3, 0, []) := by decide +kernel
theorem zr_55_13 {l0 l1 l2 : Option zV} {x y : Int} {st : List zV} {w : zW} {Q : Option zV → zW → Prop}  : zR 55 13 [l0, l1, l2] (.inl y :: .inl x :: st) w Q = (if zN y ≤ zN x then zR 55 37 [l0, l1, l2] st w Q else zR 55 16 [l0, l1, l2] st w Q) := zR_if (zstB zT_55_13 rfl) (by simp [zcmp])
theorem zT_55_16 : zT 55 16 = some (.aload_n 0, 1, 0, []) := by decide +kernel
theorem zr_55_16 {l1 l2 : Option zV} {x : Option Nat} {st : List zV} {w : zW} {Q : Option zV → zW → Prop}  : zR 55 16 [some (.inr x), l1, l2] st w Q = zR 55 17 [some (.inr x), l1, l2] (.inr x :: st) w Q := zR_go (zst zT_55_16 rfl)
theorem zT_55_17 : zT 55 17 = some (.getfield 29, 3, 0, [(11, 7)]) := by decide +kernel
theorem zr_55_17 {l0 l1 l2 : Option zV} {h : Nat} {st : List zV} {w : zW} {Q : Option zV → zW → Prop} (hk : zk w h = 11) : zR 55 17 [l0, l1, l2] (.inr (some h) :: st) w Q = zR 55 20 [l0, l1, l2] (.inr (zp w 79 h) :: st) w Q := zR_go (zst zT_55_17 (zget_r hk rfl))
theorem zT_55_20 : zT 55 20 = some (.iload_n 2, 1, 0, []) := by decide +kernel
theorem zr_55_20 {l0 l1 : Option zV} {x : Int} {st : List zV} {w : zW} {Q : Option zV → zW → Prop}  : zR 55 20 [l0, l1, some (.inl x)] st w Q = zR 55 21 [l0, l1, some (.inl x)] (.inl x :: st) w Q := zR_go (zst zT_55_20 rfl)
theorem zT_55_21 : zT 55 21 = some (.aload_n 0, 1, 0, []) := by decide +kernel
theorem zr_55_21 {l1 l2 : Option zV} {x : Option Nat} {st : List zV} {w : zW} {Q : Option zV → zW → Prop}  : zR 55 21 [some (.inr x), l1, l2] st w Q = zR 55 22 [some (.inr x), l1, l2] (.inr x :: st) w Q := zR_go (zst zT_55_21 rfl)
theorem zT_55_22 : zT 55 22 = some (.getfield 29, 3, 0, [(11, 7)]) := by decide +kernel
theorem zr_55_22 {l0 l1 l2 : Option zV} {h : Nat} {st : List zV} {w : zW} {Q : Option zV → zW → Prop} (hk : zk w h = 11) : zR 55 22 [l0, l1, l2] (.inr (some h) :: st) w Q = zR 55 25 [l0, l1, l2] (.inr (zp w 79 h) :: st) w Q := zR_go (zst zT_55_22 (zget_r hk rfl))
theorem zT_55_25 : zT 55 25 = some (.iload_n 2, 1, 0, []) := by decide +kernel
theorem zr_55_25 {l0 l1 : Option zV} {x : Int} {st : List zV} {w : zW} {Q : Option zV → zW → Prop}  : zR 55 25 [l0, l1, some (.inl x)] st w Q = zR 55 26 [l0, l1, some (.inl x)] (.inl x :: st) w Q := zR_go (zst zT_55_25 rfl)
theorem zT_55_26 : zT 55 26 = some (.bipush 12, 2, 0, []) := by decide +kernel
theorem zr_55_26 {l0 l1 l2 : Option zV} {st : List zV} {w : zW} {Q : Option zV → zW → Prop}  : zR 55 26 [l0, l1, l2] st w Q = zR 55 28 [l0, l1, l2] (.inl 12 :: st) w Q := zR_go (zst zT_55_26 rfl)
theorem zT_55_28 : zT 55 28 = some (.iadd, 1, 0, []) := by decide +kernel
theorem zr_55_28 {l0 l1 l2 : Option zV} {x y : Int} {st : List zV} {w : zW} {Q : Option zV → zW → Prop}  : zR 55 28 [l0, l1, l2] (.inl y :: .inl x :: st) w Q = zR 55 29 [l0, l1, l2] (.inl (x + y) :: st) w Q := zR_go (zst zT_55_28 rfl)
theorem zT_55_29 : zT 55 29 = some (.iaload, 1, 0, []) := by decide +kernel
theorem zr_55_29 {l0 l1 l2 : Option zV} {j : Int} {h : Nat} {st : List zV} {w : zW} {Q : Option zV → zW → Prop} (hk : (zk w h = zNC ∨ zk w h = zNC + 2) ∧ 0 ≤ zN j ∧ zN j < zl w h) : zR 55 29 [l0, l1, l2] (.inl j :: .inr (some h) :: st) w Q = zR 55 30 [l0, l1, l2] (.inl (za w h (zN j).toNat) :: st) w Q := zR_go (zst zT_55_29 (if_pos hk))
theorem zT_55_30 : zT 55 30 = some (.iastore, 1, 0, []) := by decide +kernel
theorem zr_55_30 {l0 l1 l2 : Option zV} {j x : Int} {h : Nat} {st : List zV} {w : zW} {Q : Option zV → zW → Prop} (hk : zk w h = zNC ∧ 0 ≤ zN j ∧ zN j < zl w h) : zR 55 30 [l0, l1, l2] (.inl x :: .inl j :: .inr (some h) :: st) w Q = zR 55 31 [l0, l1, l2] st (zsa w h (zN j).toNat x) Q := zR_go (zst zT_55_30 (if_pos hk))
theorem zT_55_31 : zT 55 31 = some (.iinc 2 1, 3, 0, []) := by decide +kernel
theorem zr_55_31 {l0 l1 : Option zV} {x : Int} {st : List zV} {w : zW} {Q : Option zV → zW → Prop}  : zR 55 31 [l0, l1, some (.inl x)] st w Q = zR 55 34 [l0, l1, some (.inl (x + 1))] st w Q := zR_go (zst zT_55_31 rfl)
theorem zT_55_34 : zT 55 34 = some (.goto (-29), 3, 0, []) := by decide +kernel
theorem zr_55_34 {l0 l1 l2 : Option zV} {st : List zV} {w : zW} {Q : Option zV → zW → Prop}  : zR 55 34 [l0, l1, l2] st w Q = zR 55 5 [l0, l1, l2] st w Q := zR_go (zst zT_55_34 rfl)
theorem zT_55_37 : zT 55 37 = some (.aload_n 0, 1, 0, []) := by decide +kernel
theorem zr_55_37 {l1 l2 : Option zV} {x : Option Nat} {st : List zV} {w : zW} {Q : Option zV → zW → Prop}  : zR 55 37 [some (.inr x), l1, l2] st w Q = zR 55 38 [some (.inr x), l1, l2] (.inr x :: st) w Q := zR_go (zst zT_55_37 rfl)
theorem zT_55_38 : zT 55 38 = some (.getfield 26, 3, 0, [(11, 6)]) := by decide +kernel
theorem zr_55_38 {l0 l1 l2 : Option zV} {h : Nat} {st : List zV} {w : zW} {Q : Option zV → zW → Prop} (hk : zk w h = 11) : zR 55 38 [l0, l1, l2] (.inr (some h) :: st) w Q = zR 55 41 [l0, l1, l2] (.inr (zp w 78 h) :: st) w Q := zR_go (zst zT_55_38 (zget_r hk rfl))
theorem zT_55_41 : zT 55 41 = some (.iload_n 1, 1, 0, []) := by decide +kernel
theorem zr_55_41 {l0 l2 : Option zV} {x : Int} {st : List zV} {w : zW} {Q : Option zV → zW → Prop}  : zR 55 41 [l0, some (.inl x), l2] st w Q = zR 55 42 [l0, some (.inl x), l2] (.inl x :: st) w Q := zR_go (zst zT_55_41 rfl)
theorem zT_55_42 : zT 55 42 = some (.dup2, 1, 0, []) := by decide +kernel
theorem zr_55_42 {l0 l1 l2 : Option zV} {u v : zV} {st : List zV} {w : zW} {Q : Option zV → zW → Prop}  : zR 55 42 [l0, l1, l2] (v :: u :: st) w Q = zR 55 43 [l0, l1, l2] (v :: u :: v :: u :: st) w Q := zR_go (zst zT_55_42 rfl)
theorem zT_55_43 : zT 55 43 = some (.iaload, 1, 0, []) := by decide +kernel
theorem zr_55_43 {l0 l1 l2 : Option zV} {j : Int} {h : Nat} {st : List zV} {w : zW} {Q : Option zV → zW → Prop} (hk : (zk w h = zNC ∨ zk w h = zNC + 2) ∧ 0 ≤ zN j ∧ zN j < zl w h) : zR 55 43 [l0, l1, l2] (.inl j :: .inr (some h) :: st) w Q = zR 55 44 [l0, l1, l2] (.inl (za w h (zN j).toNat) :: st) w Q := zR_go (zst zT_55_43 (if_pos hk))
theorem zT_55_44 : zT 55 44 = some (.iconst 1, 1, 0, []) := by decide +kernel
theorem zr_55_44 {l0 l1 l2 : Option zV} {st : List zV} {w : zW} {Q : Option zV → zW → Prop}  : zR 55 44 [l0, l1, l2] st w Q = zR 55 45 [l0, l1, l2] (.inl 1 :: st) w Q := zR_go (zst zT_55_44 rfl)
theorem zT_55_45 : zT 55 45 = some (.isub, 1, 0, []) := by decide +kernel
theorem zr_55_45 {l0 l1 l2 : Option zV} {x y : Int} {st : List zV} {w : zW} {Q : Option zV → zW → Prop}  : zR 55 45 [l0, l1, l2] (.inl y :: .inl x :: st) w Q = zR 55 46 [l0, l1, l2] (.inl (x - y) :: st) w Q := zR_go (zst zT_55_45 rfl)
theorem zT_55_46 : zT 55 46 = some (.iastore, 1, 0, []) := by decide +kernel
theorem zr_55_46 {l0 l1 l2 : Option zV} {j x : Int} {h : Nat} {st : List zV} {w : zW} {Q : Option zV → zW → Prop} (hk : zk w h = zNC ∧ 0 ≤ zN j ∧ zN j < zl w h) : zR 55 46 [l0, l1, l2] (.inl x :: .inl j :: .inr (some h) :: st) w Q = zR 55 47 [l0, l1, l2] st (zsa w h (zN j).toNat x) Q := zR_go (zst zT_55_46 (if_pos hk))
theorem zT_55_47 : zT 55 47 = some (.aload_n 0, 1, 0, []) := by decide +kernel
theorem zr_55_47 {l1 l2 : Option zV} {x : Option Nat} {st : List zV} {w : zW} {Q : Option zV → zW → Prop}  : zR 55 47 [some (.inr x), l1, l2] st w Q = zR 55 48 [some (.inr x), l1, l2] (.inr x :: st) w Q := zR_go (zst zT_55_47 rfl)
theorem zT_55_48 : zT 55 48 = some (.getfield 23, 3, 0, [(11, 5)]) := by decide +kernel
theorem zr_55_48 {l0 l1 l2 : Option zV} {h : Nat} {st : List zV} {w : zW} {Q : Option zV → zW → Prop} (hk : zk w h = 11) : zR 55 48 [l0, l1, l2] (.inr (some h) :: st) w Q = zR 55 51 [l0, l1, l2] (.inr (zp w 77 h) :: st) w Q := zR_go (zst zT_55_48 (zget_r hk rfl))
theorem zT_55_51 : zT 55 51 = some (.iload_n 1, 1, 0, []) := by decide +kernel
theorem zr_55_51 {l0 l2 : Option zV} {x : Int} {st : List zV} {w : zW} {Q : Option zV → zW → Prop}  : zR 55 51 [l0, some (.inl x), l2] st w Q = zR 55 52 [l0, some (.inl x), l2] (.inl x :: st) w Q := zR_go (zst zT_55_51 rfl)
theorem zT_55_52 : zT 55 52 = some (.iconst 0, 1, 0, []) := by decide +kernel
theorem zr_55_52 {l0 l1 l2 : Option zV} {st : List zV} {w : zW} {Q : Option zV → zW → Prop}  : zR 55 52 [l0, l1, l2] st w Q = zR 55 53 [l0, l1, l2] (.inl 0 :: st) w Q := zR_go (zst zT_55_52 rfl)
theorem zT_55_53 : zT 55 53 = some (.iastore, 1, 0, []) := by decide +kernel
theorem zr_55_53 {l0 l1 l2 : Option zV} {j x : Int} {h : Nat} {st : List zV} {w : zW} {Q : Option zV → zW → Prop} (hk : zk w h = zNC ∧ 0 ≤ zN j ∧ zN j < zl w h) : zR 55 53 [l0, l1, l2] (.inl x :: .inl j :: .inr (some h) :: st) w Q = zR 55 54 [l0, l1, l2] st (zsa w h (zN j).toNat x) Q := zR_go (zst zT_55_53 (if_pos hk))
theorem zT_55_54 : zT 55 54 = some (.return_, 1, 0, []) := by decide +kernel
theorem zr_55_54 {l0 l1 l2 : Option zV} {w : zW} {Q : Option zV → zW → Prop} : zR 55 54 [l0, l1, l2] [] w Q = Q none w := zR_ret (zst zT_55_54 rfl)
theorem zT_56_0 : zT 56 0 = some (.aload_n 0, 1, 0, []) := by decide +kernel
theorem zr_56_0 {l1 l2 : Option zV} {x : Option Nat} {st : List zV} {w : zW} {Q : Option zV → zW → Prop}  : zR 56 0 [some (.inr x), l1, l2] st w Q = zR 56 1 [some (.inr x), l1, l2] (.inr x :: st) w Q := zR_go (zst zT_56_0 rfl)
theorem zT_56_1 : zT 56 1 = some (.getfield 7, 3, 0, [(11, 1)]) := by decide +kernel
theorem zr_56_1 {l0 l1 l2 : Option zV} {h : Nat} {st : List zV} {w : zW} {Q : Option zV → zW → Prop} (hk : zk w h = 11) : zR 56 1 [l0, l1, l2] (.inr (some h) :: st) w Q = zR 56 4 [l0, l1, l2] (.inr (zp w 73 h) :: st) w Q := zR_go (zst zT_56_1 (zget_r hk rfl))
theorem zT_56_4 : zT 56 4 = some (.iload_n 1, 1, 0, []) := by decide +kernel
theorem zr_56_4 {l0 l2 : Option zV} {x : Int} {st : List zV} {w : zW} {Q : Option zV → zW → Prop}  : zR 56 4 [l0, some (.inl x), l2] st w Q = zR 56 5 [l0, some (.inl x), l2] (.inl x :: st) w Q := zR_go (zst zT_56_4 rfl)
theorem zT_56_5 : zT 56 5 = some (.iaload, 1, 0, []) := by decide +kernel
theorem zr_56_5 {l0 l1 l2 : Option zV} {j : Int} {h : Nat} {st : List zV} {w : zW} {Q : Option zV → zW → Prop} (hk : (zk w h = zNC ∨ zk w h = zNC + 2) ∧ 0 ≤ zN j ∧ zN j < zl w h) : zR 56 5 [l0, l1, l2] (.inl j :: .inr (some h) :: st) w Q = zR 56 6 [l0, l1, l2] (.inl (za w h (zN j).toNat) :: st) w Q := zR_go (zst zT_56_5 (if_pos hk))
theorem zT_56_6 : zT 56 6 = some (.iload_n 2, 1, 0, []) := by decide +kernel
theorem zr_56_6 {l0 l1 : Option zV} {x : Int} {st : List zV} {w : zW} {Q : Option zV → zW → Prop}  : zR 56 6 [l0, l1, some (.inl x)] st w Q = zR 56 7 [l0, l1, some (.inl x)] (.inl x :: st) w Q := zR_go (zst zT_56_6 rfl)
theorem zT_56_7 : zT 56 7 = some (.if_icmp .ne 15, 3, 0, []) := by decide +kernel
theorem zr_56_7 {l0 l1 l2 : Option zV} {x y : Int} {st : List zV} {w : zW} {Q : Option zV → zW → Prop}  : zR 56 7 [l0, l1, l2] (.inl y :: .inl x :: st) w Q = (if zN x ≠ zN y then zR 56 22 [l0, l1, l2] st w Q else zR 56 10 [l0, l1, l2] st w Q) := zR_if (zstB zT_56_7 rfl) (by simp [zcmp])
theorem zT_56_10 : zT 56 10 = some (.iload_n 1, 1, 0, []) := by decide +kernel
theorem zr_56_10 {l0 l2 : Option zV} {x : Int} {st : List zV} {w : zW} {Q : Option zV → zW → Prop}  : zR 56 10 [l0, some (.inl x), l2] st w Q = zR 56 11 [l0, some (.inl x), l2] (.inl x :: st) w Q := zR_go (zst zT_56_10 rfl)
theorem zT_56_11 : zT 56 11 = some (.iload_n 2, 1, 0, []) := by decide +kernel
theorem zr_56_11 {l0 l1 : Option zV} {x : Int} {st : List zV} {w : zW} {Q : Option zV → zW → Prop}  : zR 56 11 [l0, l1, some (.inl x)] st w Q = zR 56 12 [l0, l1, some (.inl x)] (.inl x :: st) w Q := zR_go (zst zT_56_11 rfl)
theorem zT_56_12 : zT 56 12 = some (.invokestatic 242, 3, 1, [(26, 1)]) := by decide +kernel
theorem zr_56_12 {l0 l1 l2 : Option zV} {a0 : zV} {st : List zV} {w : zW} {Q : Option zV → zW → Prop} (hs : st.length ≤ 8) : zR 56 12 [l0, l1, l2] (a0 :: st) w Q = zR 26 0 [some a0] [] w (fun r w2 => zR 56 15 [l0, l1, l2] (r.toList ++ st) w2 Q) := zR_call (zst zT_56_12 ((zcall_s (z := 1) (pc := 12) (j := 26) (ls := [l0, l1, l2]) (w := w) [a0] rfl hs : zi_static 1 [(26, 1)] 12 [l0, l1, l2] ([a0] ++ st) w = _)))
theorem zT_56_15 : zT 56 15 = some (.if_icmp .eq 7, 3, 0, []) := by decide +kernel
theorem zr_56_15 {l0 l1 l2 : Option zV} {x y : Int} {st : List zV} {w : zW} {Q : Option zV → zW → Prop}  : zR 56 15 [l0, l1, l2] (.inl y :: .inl x :: st) w Q = (if zN x = zN y then zR 56 22 [l0, l1, l2] st w Q else zR 56 18 [l0, l1, l2] st w Q) := zR_if (zstB zT_56_15 rfl) (by simp [zcmp])
theorem zT_56_18 : zT 56 18 = some (.iconst 1, 1, 0, []) := by decide +kernel
theorem zr_56_18 {l0 l1 l2 : Option zV} {st : List zV} {w : zW} {Q : Option zV → zW → Prop}  : zR 56 18 [l0, l1, l2] st w Q = zR 56 19 [l0, l1, l2] (.inl 1 :: st) w Q := zR_go (zst zT_56_18 rfl)
theorem zT_56_19 : zT 56 19 = some (.goto 4, 3, 0, []) := by decide +kernel
theorem zr_56_19 {l0 l1 l2 : Option zV} {st : List zV} {w : zW} {Q : Option zV → zW → Prop}  : zR 56 19 [l0, l1, l2] st w Q = zR 56 23 [l0, l1, l2] st w Q := zR_go (zst zT_56_19 rfl)
theorem zT_56_22 : zT 56 22 = some (.iconst 0, 1, 0, []) := by decide +kernel
theorem zr_56_22 {l0 l1 l2 : Option zV} {st : List zV} {w : zW} {Q : Option zV → zW → Prop}  : zR 56 22 [l0, l1, l2] st w Q = zR 56 23 [l0, l1, l2] (.inl 0 :: st) w Q := zR_go (zst zT_56_22 rfl)
theorem zT_56_23 : zT 56 23 = some (.ireturn, 1, 0, []) := by decide +kernel
theorem zr_56_23 {l0 l1 l2 : Option zV} {x : Int} {w : zW} {Q : Option zV → zW → Prop} (hx : zN x = 0 ∨ zN x = 1) : zR 56 23 [l0, l1, l2] [.inl x] w Q = Q (some (.inl x)) w := zR_ret (zst zT_56_23 (if_pos (Or.inr ⟨rfl, hx⟩)))
theorem zT_57_0 : zT 57 0 = some (.aload_n 0, 1, 0, []) := by decide +kernel
theorem zr_57_0 {l1 l2 l3 : Option zV} {x : Option Nat} {st : List zV} {w : zW} {Q : Option zV → zW → Prop}  : zR 57 0 [some (.inr x), l1, l2, l3] st w Q = zR 57 1 [some (.inr x), l1, l2, l3] (.inr x :: st) w Q := zR_go (zst zT_57_0 rfl)
theorem zT_57_1 : zT 57 1 = some (.getfield 71, 3, 0, [(11, 21)]) := by decide +kernel
theorem zr_57_1 {l0 l1 l2 l3 : Option zV} {h : Nat} {st : List zV} {w : zW} {Q : Option zV → zW → Prop} (hk : zk w h = 11) : zR 57 1 [l0, l1, l2, l3] (.inr (some h) :: st) w Q = zR 57 4 [l0, l1, l2, l3] (.inr (zp w 93 h) :: st) w Q := zR_go (zst zT_57_1 (zget_r hk rfl))
theorem zT_57_4 : zT 57 4 = some (.iload_n 1, 1, 0, []) := by decide +kernel
theorem zr_57_4 {l0 l2 l3 : Option zV} {x : Int} {st : List zV} {w : zW} {Q : Option zV → zW → Prop}  : zR 57 4 [l0, some (.inl x), l2, l3] st w Q = zR 57 5 [l0, some (.inl x), l2, l3] (.inl x :: st) w Q := zR_go (zst zT_57_4 rfl)
theorem zT_57_5 : zT 57 5 = some (.iload_n 2, 1, 0, []) := by decide +kernel
theorem zr_57_5 {l0 l1 l3 : Option zV} {x : Int} {st : List zV} {w : zW} {Q : Option zV → zW → Prop}  : zR 57 5 [l0, l1, some (.inl x), l3] st w Q = zR 57 6 [l0, l1, some (.inl x), l3] (.inl x :: st) w Q := zR_go (zst zT_57_5 rfl)
theorem zT_57_6 : zT 57 6 = some (.iastore, 1, 0, []) := by decide +kernel
theorem zr_57_6 {l0 l1 l2 l3 : Option zV} {j x : Int} {h : Nat} {st : List zV} {w : zW} {Q : Option zV → zW → Prop} (hk : zk w h = zNC ∧ 0 ≤ zN j ∧ zN j < zl w h) : zR 57 6 [l0, l1, l2, l3] (.inl x :: .inl j :: .inr (some h) :: st) w Q = zR 57 7 [l0, l1, l2, l3] st (zsa w h (zN j).toNat x) Q := zR_go (zst zT_57_6 (if_pos hk))
theorem zT_57_7 : zT 57 7 = some (.aload_n 0, 1, 0, []) := by decide +kernel
theorem zr_57_7 {l1 l2 l3 : Option zV} {x : Option Nat} {st : List zV} {w : zW} {Q : Option zV → zW → Prop}  : zR 57 7 [some (.inr x), l1, l2, l3] st w Q = zR 57 8 [some (.inr x), l1, l2, l3] (.inr x :: st) w Q := zR_go (zst zT_57_7 rfl)
theorem zT_57_8 : zT 57 8 = some (.getfield 80, 3, 0, [(11, 24)]) := by decide +kernel
theorem zr_57_8 {l0 l1 l2 l3 : Option zV} {h : Nat} {st : List zV} {w : zW} {Q : Option zV → zW → Prop} (hk : zk w h = 11) : zR 57 8 [l0, l1, l2, l3] (.inr (some h) :: st) w Q = zR 57 11 [l0, l1, l2, l3] (.inr (zp w 96 h) :: st) w Q := zR_go (zst zT_57_8 (zget_r hk rfl))
theorem zT_57_11 : zT 57 11 = some (.iload_n 1, 1, 0, []) := by decide +kernel
theorem zr_57_11 {l0 l2 l3 : Option zV} {x : Int} {st : List zV} {w : zW} {Q : Option zV → zW → Prop}  : zR 57 11 [l0, some (.inl x), l2, l3] st w Q = zR 57 12 [l0, some (.inl x), l2, l3] (.inl x :: st) w Q := zR_go (zst zT_57_11 rfl)
theorem zT_57_12 : zT 57 12 = some (.iconst 0, 1, 0, []) := by decide +kernel
theorem zr_57_12 {l0 l1 l2 l3 : Option zV} {st : List zV} {w : zW} {Q : Option zV → zW → Prop}  : zR 57 12 [l0, l1, l2, l3] st w Q = zR 57 13 [l0, l1, l2, l3] (.inl 0 :: st) w Q := zR_go (zst zT_57_12 rfl)
theorem zT_57_13 : zT 57 13 = some (.iastore, 1, 0, []) := by decide +kernel
theorem zr_57_13 {l0 l1 l2 l3 : Option zV} {j x : Int} {h : Nat} {st : List zV} {w : zW} {Q : Option zV → zW → Prop} (hk : zk w h = zNC ∧ 0 ≤ zN j ∧ zN j < zl w h) : zR 57 13 [l0, l1, l2, l3] (.inl x :: .inl j :: .inr (some h) :: st) w Q = zR 57 14 [l0, l1, l2, l3] st (zsa w h (zN j).toNat x) Q := zR_go (zst zT_57_13 (if_pos hk))
theorem zT_57_14 : zT 57 14 = some (.iload_n 2, 1, 0, []) := by decide +kernel
theorem zr_57_14 {l0 l1 l3 : Option zV} {x : Int} {st : List zV} {w : zW} {Q : Option zV → zW → Prop}  : zR 57 14 [l0, l1, some (.inl x), l3] st w Q = zR 57 15 [l0, l1, some (.inl x), l3] (.inl x :: st) w Q := zR_go (zst zT_57_14 rfl)
theorem zT_57_15 : zT 57 15 = some (.iconst 2, 1, 0, []) := by decide +kernel
theorem zr_57_15 {l0 l1 l2 l3 : Option zV} {st : List zV} {w : zW} {Q : Option zV → zW → Prop}  : zR 57 15 [l0, l1, l2, l3] st w Q = zR 57 16 [l0, l1, l2, l3] (.inl 2 :: st) w Q := zR_go (zst zT_57_15 rfl)
theorem zT_57_16 : zT 57 16 = some (.if_icmp .ne 57, 3, 0, []) := by decide +kernel
theorem zr_57_16 {l0 l1 l2 l3 : Option zV} {x y : Int} {st : List zV} {w : zW} {Q : Option zV → zW → Prop}  : zR 57 16 [l0, l1, l2, l3] (.inl y :: .inl x :: st) w Q = (if zN x ≠ zN y then zR 57 73 [l0, l1, l2, l3] st w Q else zR 57 19 [l0, l1, l2, l3] st w Q) := zR_if (zstB zT_57_16 rfl) (by simp [zcmp])
theorem zT_57_19 : zT 57 19 = some (.iload_n 1, 1, 0, []) := by decide +kernel
theorem zr_57_19 {l0 l2 l3 : Option zV} {x : Int} {st : List zV} {w : zW} {Q : Option zV → zW → Prop}  : zR 57 19 [l0, some (.inl x), l2, l3] st w Q = zR 57 20 [l0, some (.inl x), l2, l3] (.inl x :: st) w Q := zR_go (zst zT_57_19 rfl)
theorem zT_57_20 : zT 57 20 = some (.ifCond .ne 53, 3, 0, []) := by decide +kernel
theorem zr_57_20 {l0 l1 l2 l3 : Option zV} {x : Int} {st : List zV} {w : zW} {Q : Option zV → zW → Prop}  : zR 57 20 [l0, l1, l2, l3] (.inl x :: st) w Q = (if zN x ≠ 0 then zR 57 73 [l0, l1, l2, l3] st w Q else zR 57 23 [l0, l1, l2, l3] st w Q) := zR_if (zstB zT_57_20 rfl) (by simp [zcmp])
theorem zT_57_23 : zT 57 23 = some (.aload_n 0, 1, 0, []) := by decide +kernel
theorem zr_57_23 {l1 l2 l3 : Option zV} {x : Option Nat} {st : List zV} {w : zW} {Q : Option zV → zW → Prop}  : zR 57 23 [some (.inr x), l1, l2, l3] st w Q = zR 57 24 [some (.inr x), l1, l2, l3] (.inr x :: st) w Q := zR_go (zst zT_57_23 rfl)
theorem zT_57_24 : zT 57 24 = some (.iconst 0, 1, 0, []) := by decide +kernel
theorem zr_57_24 {l0 l1 l2 l3 : Option zV} {st : List zV} {w : zW} {Q : Option zV → zW → Prop}  : zR 57 24 [l0, l1, l2, l3] st w Q = zR 57 25 [l0, l1, l2, l3] (.inl 0 :: st) w Q := zR_go (zst zT_57_24 rfl)
theorem zT_57_25 : zT 57 25 = some (.putfield 202, 3, 0, [(11, 28)]) := by decide +kernel
theorem zr_57_25 {l0 l1 l2 l3 : Option zV} {h : Nat} {x : Int} {st : List zV} {w : zW} {Q : Option zV → zW → Prop} (hk : zk w h = 11) : zR 57 25 [l0, l1, l2, l3] (.inl x :: .inr (some h) :: st) w Q = zR 57 28 [l0, l1, l2, l3] st (zsf w 100 h x) Q := zR_go (zst zT_57_25 (zput_i hk rfl))
theorem zT_57_28 : zT 57 28 = some (.iconst 0, 1, 0, []) := by decide +kernel
theorem zr_57_28 {l0 l1 l2 l3 : Option zV} {st : List zV} {w : zW} {Q : Option zV → zW → Prop}  : zR 57 28 [l0, l1, l2, l3] st w Q = zR 57 29 [l0, l1, l2, l3] (.inl 0 :: st) w Q := zR_go (zst zT_57_28 rfl)
theorem zT_57_29 : zT 57 29 = some (.istore_n 3, 1, 0, []) := by decide +kernel
theorem zr_57_29 {l0 l1 l2 l3 : Option zV} {x : Int} {st : List zV} {w : zW} {Q : Option zV → zW → Prop}  : zR 57 29 [l0, l1, l2, l3] (.inl x :: st) w Q = zR 57 30 [l0, l1, l2, some (.inl x)] st w Q := zR_go (zst zT_57_29 rfl)
theorem zT_57_30 : zT 57 30 = some (.iload_n 3, 1, 0, []) := by decide +kernel
theorem zr_57_30 {l0 l1 l2 : Option zV} {x : Int} {st : List zV} {w : zW} {Q : Option zV → zW → Prop}  : zR 57 30 [l0, l1, l2, some (.inl x)] st w Q = zR 57 31 [l0, l1, l2, some (.inl x)] (.inl x :: st) w Q := zR_go (zst zT_57_30 rfl)
theorem zT_57_31 : zT 57 31 = some (.aload_n 0, 1, 0, []) := by decide +kernel
theorem zr_57_31 {l1 l2 l3 : Option zV} {x : Option Nat} {st : List zV} {w : zW} {Q : Option zV → zW → Prop}  : zR 57 31 [some (.inr x), l1, l2, l3] st w Q = zR 57 32 [some (.inr x), l1, l2, l3] (.inr x :: st) w Q := zR_go (zst zT_57_31 rfl)
theorem zT_57_32 : zT 57 32 = some (.getfield 83, 3, 0, [(11, 25)]) := by decide +kernel
theorem zr_57_32 {l0 l1 l2 l3 : Option zV} {h : Nat} {st : List zV} {w : zW} {Q : Option zV → zW → Prop} (hk : zk w h = 11) : zR 57 32 [l0, l1, l2, l3] (.inr (some h) :: st) w Q = zR 57 35 [l0, l1, l2, l3] (.inr (zp w 97 h) :: st) w Q := zR_go (zst zT_57_32 (zget_r hk rfl))
theorem zT_57_35 : zT 57 35 = some (.iconst 0, 1, 0, []) := by decide +kernel
theorem zr_57_35 {l0 l1 l2 l3 : Option zV} {st : List zV} {w : zW} {Q : Option zV → zW → Prop}  : zR 57 35 [l0, l1, l2, l3] st w Q = zR 57 36 [l0, l1, l2, l3] (.inl 0 :: st) w Q := zR_go (zst zT_57_35 rfl)
theorem zT_57_36 : zT 57 36 = some (.iaload, 1, 0, []) := by decide +kernel
theorem zr_57_36 {l0 l1 l2 l3 : Option zV} {j : Int} {h : Nat} {st : List zV} {w : zW} {Q : Option zV → zW → Prop} (hk : (zk w h = zNC ∨ zk w h = zNC + 2) ∧ 0 ≤ zN j ∧ zN j < zl w h) : zR 57 36 [l0, l1, l2, l3] (.inl j :: .inr (some h) :: st) w Q = zR 57 37 [l0, l1, l2, l3] (.inl (za w h (zN j).toNat) :: st) w Q := zR_go (zst zT_57_36 (if_pos hk))
theorem zT_57_37 : zT 57 37 = some (.if_icmp .ge 36, 3, 0, []) := by decide +kernel
theorem zr_57_37 {l0 l1 l2 l3 : Option zV} {x y : Int} {st : List zV} {w : zW} {Q : Option zV → zW → Prop}  : zR 57 37 [l0, l1, l2, l3] (.inl y :: .inl x :: st) w Q = (if zN y ≤ zN x then zR 57 73 [l0, l1, l2, l3] st w Q else zR 57 40 [l0, l1, l2, l3] st w Q) := zR_if (zstB zT_57_37 rfl) (by simp [zcmp])
theorem zT_57_40 : zT 57 40 = some (.aload_n 0, 1, 0, []) := by decide +kernel
theorem zr_57_40 {l1 l2 l3 : Option zV} {x : Option Nat} {st : List zV} {w : zW} {Q : Option zV → zW → Prop}  : zR 57 40 [some (.inr x), l1, l2, l3] st w Q = zR 57 41 [some (.inr x), l1, l2, l3] (.inr x :: st) w Q := zR_go (zst zT_57_40 rfl)
theorem zT_57_41 : zT 57 41 = some (.aload_n 0, 1, 0, []) := by decide +kernel
theorem zr_57_41 {l1 l2 l3 : Option zV} {x : Option Nat} {st : List zV} {w : zW} {Q : Option zV → zW → Prop}  : zR 57 41 [some (.inr x), l1, l2, l3] st w Q = zR 57 42 [some (.inr x), l1, l2, l3] (.inr x :: st) w Q := zR_go (zst zT_57_41 rfl)
theorem zT_57_42 : zT 57 42 = some (.getfield 86, 3, 0, [(11, 26)]) := by decide +kernel
theorem zr_57_42 {l0 l1 l2 l3 : Option zV} {h : Nat} {st : List zV} {w : zW} {Q : Option zV → zW → Prop} (hk : zk w h = 11) : zR 57 42 [l0, l1, l2, l3] (.inr (some h) :: st) w Q = zR 57 45 [l0, l1, l2, l3] (.inr (zp w 98 h) :: st) w Q := zR_go (zst zT_57_42 (zget_r hk rfl))
theorem zT_57_45 : zT 57 45 = some (.iload_n 3, 1, 0, []) := by decide +kernel
theorem zr_57_45 {l0 l1 l2 : Option zV} {x : Int} {st : List zV} {w : zW} {Q : Option zV → zW → Prop}  : zR 57 45 [l0, l1, l2, some (.inl x)] st w Q = zR 57 46 [l0, l1, l2, some (.inl x)] (.inl x :: st) w Q := zR_go (zst zT_57_45 rfl)
theorem zT_57_46 : zT 57 46 = some (.iaload, 1, 0, []) := by decide +kernel
theorem zr_57_46 {l0 l1 l2 l3 : Option zV} {j : Int} {h : Nat} {st : List zV} {w : zW} {Q : Option zV → zW → Prop} (hk : (zk w h = zNC ∨ zk w h = zNC + 2) ∧ 0 ≤ zN j ∧ zN j < zl w h) : zR 57 46 [l0, l1, l2, l3] (.inl j :: .inr (some h) :: st) w Q = zR 57 47 [l0, l1, l2, l3] (.inl (za w h (zN j).toNat) :: st) w Q := zR_go (zst zT_57_46 (if_pos hk))
theorem zT_57_47 : zT 57 47 = some (.sipush 1000, 3, 0, []) := by decide +kernel
theorem zr_57_47 {l0 l1 l2 l3 : Option zV} {st : List zV} {w : zW} {Q : Option zV → zW → Prop}  : zR 57 47 [l0, l1, l2, l3] st w Q = zR 57 50 [l0, l1, l2, l3] (.inl 1000 :: st) w Q := zR_go (zst zT_57_47 rfl)
theorem zT_57_50 : zT 57 50 = some (.if_icmp .ne 10, 3, 0, []) := by decide +kernel
theorem zr_57_50 {l0 l1 l2 l3 : Option zV} {x y : Int} {st : List zV} {w : zW} {Q : Option zV → zW → Prop}  : zR 57 50 [l0, l1, l2, l3] (.inl y :: .inl x :: st) w Q = (if zN x ≠ zN y then zR 57 60 [l0, l1, l2, l3] st w Q else zR 57 53 [l0, l1, l2, l3] st w Q) := zR_if (zstB zT_57_50 rfl) (by simp [zcmp])
theorem zT_57_53 : zT 57 53 = some (.bipush 16, 2, 0, []) := by decide +kernel
theorem zr_57_53 {l0 l1 l2 l3 : Option zV} {st : List zV} {w : zW} {Q : Option zV → zW → Prop}  : zR 57 53 [l0, l1, l2, l3] st w Q = zR 57 55 [l0, l1, l2, l3] (.inl 16 :: st) w Q := zR_go (zst zT_57_53 rfl)
theorem zT_57_55 : zT 57 55 = some (.iload_n 3, 1, 0, []) := by decide +kernel
theorem zr_57_55 {l0 l1 l2 : Option zV} {x : Int} {st : List zV} {w : zW} {Q : Option zV → zW → Prop}  : zR 57 55 [l0, l1, l2, some (.inl x)] st w Q = zR 57 56 [l0, l1, l2, some (.inl x)] (.inl x :: st) w Q := zR_go (zst zT_57_55 rfl)
theorem zT_57_56 : zT 57 56 = some (.iadd, 1, 0, []) := by decide +kernel
theorem zr_57_56 {l0 l1 l2 l3 : Option zV} {x y : Int} {st : List zV} {w : zW} {Q : Option zV → zW → Prop}  : zR 57 56 [l0, l1, l2, l3] (.inl y :: .inl x :: st) w Q = zR 57 57 [l0, l1, l2, l3] (.inl (x + y) :: st) w Q := zR_go (zst zT_57_56 rfl)
theorem zT_57_57 : zT 57 57 = some (.goto 7, 3, 0, []) := by decide +kernel
theorem zr_57_57 {l0 l1 l2 l3 : Option zV} {st : List zV} {w : zW} {Q : Option zV → zW → Prop}  : zR 57 57 [l0, l1, l2, l3] st w Q = zR 57 64 [l0, l1, l2, l3] st w Q := zR_go (zst zT_57_57 rfl)
theorem zT_57_60 : zT 57 60 = some (.aload_n 0, 1, 0, []) := by decide +kernel
theorem zr_57_60 {l1 l2 l3 : Option zV} {x : Option Nat} {st : List zV} {w : zW} {Q : Option zV → zW → Prop}  : zR 57 60 [some (.inr x), l1, l2, l3] st w Q = zR 57 61 [some (.inr x), l1, l2, l3] (.inr x :: st) w Q := zR_go (zst zT_57_60 rfl)
theorem zT_57_61 : zT 57 61 = some (.getfield 202, 3, 0, [(11, 28)]) := by decide +kernel
theorem zr_57_61 {l0 l1 l2 l3 : Option zV} {h : Nat} {st : List zV} {w : zW} {Q : Option zV → zW → Prop} (hk : zk w h = 11) : zR 57 61 [l0, l1, l2, l3] (.inr (some h) :: st) w Q = zR 57 64 [l0, l1, l2, l3] (.inl (zf w 100 h) :: st) w Q := zR_go (zst zT_57_61 (zget_i hk (Or.inl rfl)))
theorem zT_57_64 : zT 57 64 = some (.putfield 202, 3, 0, [(11, 28)]) := by decide +kernel
theorem zr_57_64 {l0 l1 l2 l3 : Option zV} {h : Nat} {x : Int} {st : List zV} {w : zW} {Q : Option zV → zW → Prop} (hk : zk w h = 11) : zR 57 64 [l0, l1, l2, l3] (.inl x :: .inr (some h) :: st) w Q = zR 57 67 [l0, l1, l2, l3] st (zsf w 100 h x) Q := zR_go (zst zT_57_64 (zput_i hk rfl))
theorem zT_57_67 : zT 57 67 = some (.iinc 3 1, 3, 0, []) := by decide +kernel
theorem zr_57_67 {l0 l1 l2 : Option zV} {x : Int} {st : List zV} {w : zW} {Q : Option zV → zW → Prop}  : zR 57 67 [l0, l1, l2, some (.inl x)] st w Q = zR 57 70 [l0, l1, l2, some (.inl (x + 1))] st w Q := zR_go (zst zT_57_67 rfl)
theorem zT_57_70 : zT 57 70 = some (.goto (-40), 3, 0, []) := by decide +kernel
theorem zr_57_70 {l0 l1 l2 l3 : Option zV} {st : List zV} {w : zW} {Q : Option zV → zW → Prop}  : zR 57 70 [l0, l1, l2, l3] st w Q = zR 57 30 [l0, l1, l2, l3] st w Q := zR_go (zst zT_57_70 rfl)
theorem zT_57_73 : zT 57 73 = some (.return_, 1, 0, []) := by decide +kernel
theorem zr_57_73 {l0 l1 l2 l3 : Option zV} {w : zW} {Q : Option zV → zW → Prop} : zR 57 73 [l0, l1, l2, l3] [] w Q = Q none w := zR_ret (zst zT_57_73 rfl)
theorem zT_58_0 : zT 58 0 = some (.aload_n 0, 1, 0, []) := by decide +kernel
theorem zr_58_0 {l1 l2 : Option zV} {x : Option Nat} {st : List zV} {w : zW} {Q : Option zV → zW → Prop}  : zR 58 0 [some (.inr x), l1, l2] st w Q = zR 58 1 [some (.inr x), l1, l2] (.inr x :: st) w Q := zR_go (zst zT_58_0 rfl)
theorem zT_58_1 : zT 58 1 = some (.getfield 74, 3, 0, [(11, 22)]) := by decide +kernel
theorem zr_58_1 {l0 l1 l2 : Option zV} {h : Nat} {st : List zV} {w : zW} {Q : Option zV → zW → Prop} (hk : zk w h = 11) : zR 58 1 [l0, l1, l2] (.inr (some h) :: st) w Q = zR 58 4 [l0, l1, l2] (.inr (zp w 94 h) :: st) w Q := zR_go (zst zT_58_1 (zget_r hk rfl))
theorem zT_58_4 : zT 58 4 = some (.iload_n 1, 1, 0, []) := by decide +kernel
theorem zr_58_4 {l0 l2 : Option zV} {x : Int} {st : List zV} {w : zW} {Q : Option zV → zW → Prop}  : zR 58 4 [l0, some (.inl x), l2] st w Q = zR 58 5 [l0, some (.inl x), l2] (.inl x :: st) w Q := zR_go (zst zT_58_4 rfl)
theorem zT_58_5 : zT 58 5 = some (.iload_n 2, 1, 0, []) := by decide +kernel
theorem zr_58_5 {l0 l1 : Option zV} {x : Int} {st : List zV} {w : zW} {Q : Option zV → zW → Prop}  : zR 58 5 [l0, l1, some (.inl x)] st w Q = zR 58 6 [l0, l1, some (.inl x)] (.inl x :: st) w Q := zR_go (zst zT_58_5 rfl)
theorem zT_58_6 : zT 58 6 = some (.iastore, 1, 0, []) := by decide +kernel
theorem zr_58_6 {l0 l1 l2 : Option zV} {j x : Int} {h : Nat} {st : List zV} {w : zW} {Q : Option zV → zW → Prop} (hk : zk w h = zNC ∧ 0 ≤ zN j ∧ zN j < zl w h) : zR 58 6 [l0, l1, l2] (.inl x :: .inl j :: .inr (some h) :: st) w Q = zR 58 7 [l0, l1, l2] st (zsa w h (zN j).toNat x) Q := zR_go (zst zT_58_6 (if_pos hk))
theorem zT_58_7 : zT 58 7 = some (.aload_n 0, 1, 0, []) := by decide +kernel
theorem zr_58_7 {l1 l2 : Option zV} {x : Option Nat} {st : List zV} {w : zW} {Q : Option zV → zW → Prop}  : zR 58 7 [some (.inr x), l1, l2] st w Q = zR 58 8 [some (.inr x), l1, l2] (.inr x :: st) w Q := zR_go (zst zT_58_7 rfl)
theorem zT_58_8 : zT 58 8 = some (.getfield 80, 3, 0, [(11, 24)]) := by decide +kernel
theorem zr_58_8 {l0 l1 l2 : Option zV} {h : Nat} {st : List zV} {w : zW} {Q : Option zV → zW → Prop} (hk : zk w h = 11) : zR 58 8 [l0, l1, l2] (.inr (some h) :: st) w Q = zR 58 11 [l0, l1, l2] (.inr (zp w 96 h) :: st) w Q := zR_go (zst zT_58_8 (zget_r hk rfl))
theorem zT_58_11 : zT 58 11 = some (.iload_n 1, 1, 0, []) := by decide +kernel
theorem zr_58_11 {l0 l2 : Option zV} {x : Int} {st : List zV} {w : zW} {Q : Option zV → zW → Prop}  : zR 58 11 [l0, some (.inl x), l2] st w Q = zR 58 12 [l0, some (.inl x), l2] (.inl x :: st) w Q := zR_go (zst zT_58_11 rfl)
theorem zT_58_12 : zT 58 12 = some (.iconst 0, 1, 0, []) := by decide +kernel
theorem zr_58_12 {l0 l1 l2 : Option zV} {st : List zV} {w : zW} {Q : Option zV → zW → Prop}  : zR 58 12 [l0, l1, l2] st w Q = zR 58 13 [l0, l1, l2] (.inl 0 :: st) w Q := zR_go (zst zT_58_12 rfl)
theorem zT_58_13 : zT 58 13 = some (.iastore, 1, 0, []) := by decide +kernel
theorem zr_58_13 {l0 l1 l2 : Option zV} {j x : Int} {h : Nat} {st : List zV} {w : zW} {Q : Option zV → zW → Prop} (hk : zk w h = zNC ∧ 0 ≤ zN j ∧ zN j < zl w h) : zR 58 13 [l0, l1, l2] (.inl x :: .inl j :: .inr (some h) :: st) w Q = zR 58 14 [l0, l1, l2] st (zsa w h (zN j).toNat x) Q := zR_go (zst zT_58_13 (if_pos hk))
theorem zT_58_14 : zT 58 14 = some (.return_, 1, 0, []) := by decide +kernel
theorem zr_58_14 {l0 l1 l2 : Option zV} {w : zW} {Q : Option zV → zW → Prop} : zR 58 14 [l0, l1, l2] [] w Q = Q none w := zR_ret (zst zT_58_14 rfl)
theorem zT_59_0 : zT 59 0 = some (.aload_n 0, 1, 0, []) := by decide +kernel
theorem zr_59_0 {l1 : Option zV} {x : Option Nat} {st : List zV} {w : zW} {Q : Option zV → zW → Prop}  : zR 59 0 [some (.inr x), l1] st w Q = zR 59 1 [some (.inr x), l1] (.inr x :: st) w Q := zR_go (zst zT_59_0 rfl)
theorem zT_59_1 : zT 59 1 = some (.iload_n 1, 1, 0, []) := by decide +kernel
theorem zr_59_1 {l0 : Option zV} {x : Int} {st : List zV} {w : zW} {Q : Option zV → zW → Prop}  : zR 59 1 [l0, some (.inl x)] st w Q = zR 59 2 [l0, some (.inl x)] (.inl x :: st) w Q := zR_go (zst zT_59_1 rfl)
theorem zT_59_2 : zT 59 2 = some (.invokevirtual 233, 3, 1, [(11, 51)]) := by decide +kernel
theorem zr_59_2 {l0 l1 : Option zV} {a0 : zV} {h : Nat} {st : List zV} {w : zW} {Q : Option zV → zW → Prop} (hs : st.length ≤ 8) (hk : zk w h = 11) : zR 59 2 [l0, l1] (a0 :: .inr (some h) :: st) w Q = zR 51 0 [some (.inr (some h)), some a0, none] [] w (fun r w2 => zR 59 5 [l0, l1] (r.toList ++ st) w2 Q) := zR_call (zst zT_59_2 (zcall_v [a0] rfl hs hk rfl))
theorem zT_59_5 : zT 59 5 = some (.ifCond .eq 5, 3, 0, []) := by decide +kernel
theorem zr_59_5 {l0 l1 : Option zV} {x : Int} {st : List zV} {w : zW} {Q : Option zV → zW → Prop}  : zR 59 5 [l0, l1] (.inl x :: st) w Q = (if zN x = 0 then zR 59 10 [l0, l1] st w Q else zR 59 8 [l0, l1] st w Q) := zR_if (zstB zT_59_5 rfl) (by simp [zcmp])
theorem zT_59_8 : zT 59 8 = some (.iconst 1, 1, 0, []) := by decide +kernel
theorem zr_59_8 {l0 l1 : Option zV} {st : List zV} {w : zW} {Q : Option zV → zW → Prop}  : zR 59 8 [l0, l1] st w Q = zR 59 9 [l0, l1] (.inl 1 :: st) w Q := zR_go (zst zT_59_8 rfl)
theorem zT_59_9 : zT 59 9 = some (.ireturn, 1, 0, []) := by decide +kernel
theorem zr_59_9 {l0 l1 : Option zV} {x : Int} {w : zW} {Q : Option zV → zW → Prop} (hx : zN x = 0 ∨ zN x = 1) : zR 59 9 [l0, l1] [.inl x] w Q = Q (some (.inl x)) w := zR_ret (zst zT_59_9 (if_pos (Or.inr ⟨rfl, hx⟩)))
theorem zT_59_10 : zT 59 10 = some (.aload_n 0, 1, 0, []) := by decide +kernel
theorem zr_59_10 {l1 : Option zV} {x : Option Nat} {st : List zV} {w : zW} {Q : Option zV → zW → Prop}  : zR 59 10 [some (.inr x), l1] st w Q = zR 59 11 [some (.inr x), l1] (.inr x :: st) w Q := zR_go (zst zT_59_10 rfl)
theorem zT_59_11 : zT 59 11 = some (.getfield 80, 3, 0, [(11, 24)]) := by decide +kernel
theorem zr_59_11 {l0 l1 : Option zV} {h : Nat} {st : List zV} {w : zW} {Q : Option zV → zW → Prop} (hk : zk w h = 11) : zR 59 11 [l0, l1] (.inr (some h) :: st) w Q = zR 59 14 [l0, l1] (.inr (zp w 96 h) :: st) w Q := zR_go (zst zT_59_11 (zget_r hk rfl))
theorem zT_59_14 : zT 59 14 = some (.iload_n 1, 1, 0, []) := by decide +kernel
theorem zr_59_14 {l0 : Option zV} {x : Int} {st : List zV} {w : zW} {Q : Option zV → zW → Prop}  : zR 59 14 [l0, some (.inl x)] st w Q = zR 59 15 [l0, some (.inl x)] (.inl x :: st) w Q := zR_go (zst zT_59_14 rfl)
theorem zT_59_15 : zT 59 15 = some (.dup2, 1, 0, []) := by decide +kernel
theorem zr_59_15 {l0 l1 : Option zV} {u v : zV} {st : List zV} {w : zW} {Q : Option zV → zW → Prop}  : zR 59 15 [l0, l1] (v :: u :: st) w Q = zR 59 16 [l0, l1] (v :: u :: v :: u :: st) w Q := zR_go (zst zT_59_15 rfl)
theorem zT_59_16 : zT 59 16 = some (.iaload, 1, 0, []) := by decide +kernel
theorem zr_59_16 {l0 l1 : Option zV} {j : Int} {h : Nat} {st : List zV} {w : zW} {Q : Option zV → zW → Prop} (hk : (zk w h = zNC ∨ zk w h = zNC + 2) ∧ 0 ≤ zN j ∧ zN j < zl w h) : zR 59 16 [l0, l1] (.inl j :: .inr (some h) :: st) w Q = zR 59 17 [l0, l1] (.inl (za w h (zN j).toNat) :: st) w Q := zR_go (zst zT_59_16 (if_pos hk))
theorem zT_59_17 : zT 59 17 = some (.iconst 1, 1, 0, []) := by decide +kernel
theorem zr_59_17 {l0 l1 : Option zV} {st : List zV} {w : zW} {Q : Option zV → zW → Prop}  : zR 59 17 [l0, l1] st w Q = zR 59 18 [l0, l1] (.inl 1 :: st) w Q := zR_go (zst zT_59_17 rfl)
theorem zT_59_18 : zT 59 18 = some (.iadd, 1, 0, []) := by decide +kernel
theorem zr_59_18 {l0 l1 : Option zV} {x y : Int} {st : List zV} {w : zW} {Q : Option zV → zW → Prop}  : zR 59 18 [l0, l1] (.inl y :: .inl x :: st) w Q = zR 59 19 [l0, l1] (.inl (x + y) :: st) w Q := zR_go (zst zT_59_18 rfl)
theorem zT_59_19 : zT 59 19 = some (.iastore, 1, 0, []) := by decide +kernel
theorem zr_59_19 {l0 l1 : Option zV} {j x : Int} {h : Nat} {st : List zV} {w : zW} {Q : Option zV → zW → Prop} (hk : zk w h = zNC ∧ 0 ≤ zN j ∧ zN j < zl w h) : zR 59 19 [l0, l1] (.inl x :: .inl j :: .inr (some h) :: st) w Q = zR 59 20 [l0, l1] st (zsa w h (zN j).toNat x) Q := zR_go (zst zT_59_19 (if_pos hk))
theorem zT_59_20 : zT 59 20 = some (.aload_n 0, 1, 0, []) := by decide +kernel
theorem zr_59_20 {l1 : Option zV} {x : Option Nat} {st : List zV} {w : zW} {Q : Option zV → zW → Prop}  : zR 59 20 [some (.inr x), l1] st w Q = zR 59 21 [some (.inr x), l1] (.inr x :: st) w Q := zR_go (zst zT_59_20 rfl)
theorem zT_59_21 : zT 59 21 = some (.getfield 80, 3, 0, [(11, 24)]) := by decide +kernel
theorem zr_59_21 {l0 l1 : Option zV} {h : Nat} {st : List zV} {w : zW} {Q : Option zV → zW → Prop} (hk : zk w h = 11) : zR 59 21 [l0, l1] (.inr (some h) :: st) w Q = zR 59 24 [l0, l1] (.inr (zp w 96 h) :: st) w Q := zR_go (zst zT_59_21 (zget_r hk rfl))
theorem zT_59_24 : zT 59 24 = some (.iload_n 1, 1, 0, []) := by decide +kernel
theorem zr_59_24 {l0 : Option zV} {x : Int} {st : List zV} {w : zW} {Q : Option zV → zW → Prop}  : zR 59 24 [l0, some (.inl x)] st w Q = zR 59 25 [l0, some (.inl x)] (.inl x :: st) w Q := zR_go (zst zT_59_24 rfl)
theorem zT_59_25 : zT 59 25 = some (.iaload, 1, 0, []) := by decide +kernel
theorem zr_59_25 {l0 l1 : Option zV} {j : Int} {h : Nat} {st : List zV} {w : zW} {Q : Option zV → zW → Prop} (hk : (zk w h = zNC ∨ zk w h = zNC + 2) ∧ 0 ≤ zN j ∧ zN j < zl w h) : zR 59 25 [l0, l1] (.inl j :: .inr (some h) :: st) w Q = zR 59 26 [l0, l1] (.inl (za w h (zN j).toNat) :: st) w Q := zR_go (zst zT_59_25 (if_pos hk))
theorem zT_59_26 : zT 59 26 = some (.iconst 3, 1, 0, []) := by decide +kernel
theorem zr_59_26 {l0 l1 : Option zV} {st : List zV} {w : zW} {Q : Option zV → zW → Prop}  : zR 59 26 [l0, l1] st w Q = zR 59 27 [l0, l1] (.inl 3 :: st) w Q := zR_go (zst zT_59_26 rfl)
theorem zT_59_27 : zT 59 27 = some (.if_icmp .ne 9, 3, 0, []) := by decide +kernel
theorem zr_59_27 {l0 l1 : Option zV} {x y : Int} {st : List zV} {w : zW} {Q : Option zV → zW → Prop}  : zR 59 27 [l0, l1] (.inl y :: .inl x :: st) w Q = (if zN x ≠ zN y then zR 59 36 [l0, l1] st w Q else zR 59 30 [l0, l1] st w Q) := zR_if (zstB zT_59_27 rfl) (by simp [zcmp])
theorem zT_59_30 : zT 59 30 = some (.aload_n 0, 1, 0, []) := by decide +kernel
theorem zr_59_30 {l1 : Option zV} {x : Option Nat} {st : List zV} {w : zW} {Q : Option zV → zW → Prop}  : zR 59 30 [some (.inr x), l1] st w Q = zR 59 31 [some (.inr x), l1] (.inr x :: st) w Q := zR_go (zst zT_59_30 rfl)
theorem zT_59_31 : zT 59 31 = some (.iload_n 1, 1, 0, []) := by decide +kernel
theorem zr_59_31 {l0 : Option zV} {x : Int} {st : List zV} {w : zW} {Q : Option zV → zW → Prop}  : zR 59 31 [l0, some (.inl x)] st w Q = zR 59 32 [l0, some (.inl x)] (.inl x :: st) w Q := zR_go (zst zT_59_31 rfl)
theorem zT_59_32 : zT 59 32 = some (.iconst 3, 1, 0, []) := by decide +kernel
theorem zr_59_32 {l0 l1 : Option zV} {st : List zV} {w : zW} {Q : Option zV → zW → Prop}  : zR 59 32 [l0, l1] st w Q = zR 59 33 [l0, l1] (.inl 3 :: st) w Q := zR_go (zst zT_59_32 rfl)
theorem zT_59_33 : zT 59 33 = some (.invokevirtual 245, 3, 2, [(11, 57)]) := by decide +kernel
theorem zr_59_33 {l0 l1 : Option zV} {a0 a1 : zV} {h : Nat} {st : List zV} {w : zW} {Q : Option zV → zW → Prop} (hs : st.length ≤ 8) (hk : zk w h = 11) : zR 59 33 [l0, l1] (a1 :: a0 :: .inr (some h) :: st) w Q = zR 57 0 [some (.inr (some h)), some a0, some a1, none] [] w (fun r w2 => zR 59 36 [l0, l1] (r.toList ++ st) w2 Q) := zR_call (zst zT_59_33 (zcall_v [a1, a0] rfl hs hk rfl))
theorem zT_59_36 : zT 59 36 = some (.iconst 0, 1, 0, []) := by decide +kernel
theorem zr_59_36 {l0 l1 : Option zV} {st : List zV} {w : zW} {Q : Option zV → zW → Prop}  : zR 59 36 [l0, l1] st w Q = zR 59 37 [l0, l1] (.inl 0 :: st) w Q := zR_go (zst zT_59_36 rfl)
theorem zT_59_37 : zT 59 37 = some (.ireturn, 1, 0, []) := by decide +kernel
theorem zr_59_37 {l0 l1 : Option zV} {x : Int} {w : zW} {Q : Option zV → zW → Prop} (hx : zN x = 0 ∨ zN x = 1) : zR 59 37 [l0, l1] [.inl x] w Q = Q (some (.inl x)) w := zR_ret (zst zT_59_37 (if_pos (Or.inr ⟨rfl, hx⟩)))
theorem zT_60_0 : zT 60 0 = some (.aload_n 0, 1, 0, []) := by decide +kernel
theorem zr_60_0 {l1 l2 : Option zV} {x : Option Nat} {st : List zV} {w : zW} {Q : Option zV → zW → Prop}  : zR 60 0 [some (.inr x), l1, l2] st w Q = zR 60 1 [some (.inr x), l1, l2] (.inr x :: st) w Q := zR_go (zst zT_60_0 rfl)
theorem zT_60_1 : zT 60 1 = some (.getfield 74, 3, 0, [(11, 22)]) := by decide +kernel
theorem zr_60_1 {l0 l1 l2 : Option zV} {h : Nat} {st : List zV} {w : zW} {Q : Option zV → zW → Prop} (hk : zk w h = 11) : zR 60 1 [l0, l1, l2] (.inr (some h) :: st) w Q = zR 60 4 [l0, l1, l2] (.inr (zp w 94 h) :: st) w Q := zR_go (zst zT_60_1 (zget_r hk rfl))
theorem zT_60_4 : zT 60 4 = some (.iload_n 1, 1, 0, []) := by decide +kernel
theorem zr_60_4 {l0 l2 : Option zV} {x : Int} {st : List zV} {w : zW} {Q : Option zV → zW → Prop}  : zR 60 4 [l0, some (.inl x), l2] st w Q = zR 60 5 [l0, some (.inl x), l2] (.inl x :: st) w Q := zR_go (zst zT_60_4 rfl)
theorem zT_60_5 : zT 60 5 = some (.iaload, 1, 0, []) := by decide +kernel
theorem zr_60_5 {l0 l1 l2 : Option zV} {j : Int} {h : Nat} {st : List zV} {w : zW} {Q : Option zV → zW → Prop} (hk : (zk w h = zNC ∨ zk w h = zNC + 2) ∧ 0 ≤ zN j ∧ zN j < zl w h) : zR 60 5 [l0, l1, l2] (.inl j :: .inr (some h) :: st) w Q = zR 60 6 [l0, l1, l2] (.inl (za w h (zN j).toNat) :: st) w Q := zR_go (zst zT_60_5 (if_pos hk))
theorem zT_60_6 : zT 60 6 = some (.ifCond .ne 62, 3, 0, []) := by decide +kernel
theorem zr_60_6 {l0 l1 l2 : Option zV} {x : Int} {st : List zV} {w : zW} {Q : Option zV → zW → Prop}  : zR 60 6 [l0, l1, l2] (.inl x :: st) w Q = (if zN x ≠ 0 then zR 60 68 [l0, l1, l2] st w Q else zR 60 9 [l0, l1, l2] st w Q) := zR_if (zstB zT_60_6 rfl) (by simp [zcmp])
theorem zT_60_9 : zT 60 9 = some (.iconst 0, 1, 0, []) := by decide +kernel
theorem zr_60_9 {l0 l1 l2 : Option zV} {st : List zV} {w : zW} {Q : Option zV → zW → Prop}  : zR 60 9 [l0, l1, l2] st w Q = zR 60 10 [l0, l1, l2] (.inl 0 :: st) w Q := zR_go (zst zT_60_9 rfl)
theorem zT_60_10 : zT 60 10 = some (.istore_n 2, 1, 0, []) := by decide +kernel
theorem zr_60_10 {l0 l1 l2 : Option zV} {x : Int} {st : List zV} {w : zW} {Q : Option zV → zW → Prop}  : zR 60 10 [l0, l1, l2] (.inl x :: st) w Q = zR 60 11 [l0, l1, some (.inl x)] st w Q := zR_go (zst zT_60_10 rfl)
theorem zT_60_11 : zT 60 11 = some (.iload_n 2, 1, 0, []) := by decide +kernel
theorem zr_60_11 {l0 l1 : Option zV} {x : Int} {st : List zV} {w : zW} {Q : Option zV → zW → Prop}  : zR 60 11 [l0, l1, some (.inl x)] st w Q = zR 60 12 [l0, l1, some (.inl x)] (.inl x :: st) w Q := zR_go (zst zT_60_11 rfl)
theorem zT_60_12 : zT 60 12 = some (.bipush 8, 2, 0, []) := by decide +kernel
theorem zr_60_12 {l0 l1 l2 : Option zV} {st : List zV} {w : zW} {Q : Option zV → zW → Prop}  : zR 60 12 [l0, l1, l2] st w Q = zR 60 14 [l0, l1, l2] (.inl 8 :: st) w Q := zR_go (zst zT_60_12 rfl)
theorem zT_60_14 : zT 60 14 = some (.if_icmp .ge 38, 3, 0, []) := by decide +kernel
theorem zr_60_14 {l0 l1 l2 : Option zV} {x y : Int} {st : List zV} {w : zW} {Q : Option zV → zW → Prop}  : zR 60 14 [l0, l1, l2] (.inl y :: .inl x :: st) w Q = (if zN y ≤ zN x then zR 60 52 [l0, l1, l2] st w Q else zR 60 17 [l0, l1, l2] st w Q) := zR_if (zstB zT_60_14 rfl) (by simp [zcmp])
theorem zT_60_17 : zT 60 17 = some (.aload_n 0, 1, 0, []) := by decide +kernel
theorem zr_60_17 {l1 l2 : Option zV} {x : Option Nat} {st : List zV} {w : zW} {Q : Option zV → zW → Prop}  : zR 60 17 [some (.inr x), l1, l2] st w Q = zR 60 18 [some (.inr x), l1, l2] (.inr x :: st) w Q := zR_go (zst zT_60_17 rfl)
theorem zT_60_18 : zT 60 18 = some (.getfield 19, 3, 0, [(11, 4)]) := by decide +kernel
theorem zr_60_18 {l0 l1 l2 : Option zV} {h : Nat} {st : List zV} {w : zW} {Q : Option zV → zW → Prop} (hk : zk w h = 11) : zR 60 18 [l0, l1, l2] (.inr (some h) :: st) w Q = zR 60 21 [l0, l1, l2] (.inr (zp w 76 h) :: st) w Q := zR_go (zst zT_60_18 (zget_r hk rfl))
theorem zT_60_21 : zT 60 21 = some (.iload_n 2, 1, 0, []) := by decide +kernel
theorem zr_60_21 {l0 l1 : Option zV} {x : Int} {st : List zV} {w : zW} {Q : Option zV → zW → Prop}  : zR 60 21 [l0, l1, some (.inl x)] st w Q = zR 60 22 [l0, l1, some (.inl x)] (.inl x :: st) w Q := zR_go (zst zT_60_21 rfl)
theorem zT_60_22 : zT 60 22 = some (.aload_n 0, 1, 0, []) := by decide +kernel
theorem zr_60_22 {l1 l2 : Option zV} {x : Option Nat} {st : List zV} {w : zW} {Q : Option zV → zW → Prop}  : zR 60 22 [some (.inr x), l1, l2] st w Q = zR 60 23 [some (.inr x), l1, l2] (.inr x :: st) w Q := zR_go (zst zT_60_22 rfl)
theorem zT_60_23 : zT 60 23 = some (.getfield 19, 3, 0, [(11, 4)]) := by decide +kernel
theorem zr_60_23 {l0 l1 l2 : Option zV} {h : Nat} {st : List zV} {w : zW} {Q : Option zV → zW → Prop} (hk : zk w h = 11) : zR 60 23 [l0, l1, l2] (.inr (some h) :: st) w Q = zR 60 26 [l0, l1, l2] (.inr (zp w 76 h) :: st) w Q := zR_go (zst zT_60_23 (zget_r hk rfl))
theorem zT_60_26 : zT 60 26 = some (.iload_n 2, 1, 0, []) := by decide +kernel
theorem zr_60_26 {l0 l1 : Option zV} {x : Int} {st : List zV} {w : zW} {Q : Option zV → zW → Prop}  : zR 60 26 [l0, l1, some (.inl x)] st w Q = zR 60 27 [l0, l1, some (.inl x)] (.inl x :: st) w Q := zR_go (zst zT_60_26 rfl)
theorem zT_60_27 : zT 60 27 = some (.baload, 1, 0, []) := by decide +kernel
theorem zr_60_27 {l0 l1 l2 : Option zV} {j : Int} {h : Nat} {st : List zV} {w : zW} {Q : Option zV → zW → Prop} (hk : zk w h = zNC + 1 ∧ 0 ≤ zN j ∧ zN j < zl w h) : zR 60 27 [l0, l1, l2] (.inl j :: .inr (some h) :: st) w Q = zR 60 28 [l0, l1, l2] (.inl (za w h (zN j).toNat) :: st) w Q := zR_go (zst zT_60_27 (if_pos hk))
theorem zT_60_28 : zT 60 28 = some (.ifCond .eq 16, 3, 0, []) := by decide +kernel
theorem zr_60_28 {l0 l1 l2 : Option zV} {x : Int} {st : List zV} {w : zW} {Q : Option zV → zW → Prop}  : zR 60 28 [l0, l1, l2] (.inl x :: st) w Q = (if zN x = 0 then zR 60 44 [l0, l1, l2] st w Q else zR 60 31 [l0, l1, l2] st w Q) := zR_if (zstB zT_60_28 rfl) (by simp [zcmp])
theorem zT_60_31 : zT 60 31 = some (.aload_n 0, 1, 0, []) := by decide +kernel
theorem zr_60_31 {l1 l2 : Option zV} {x : Option Nat} {st : List zV} {w : zW} {Q : Option zV → zW → Prop}  : zR 60 31 [some (.inr x), l1, l2] st w Q = zR 60 32 [some (.inr x), l1, l2] (.inr x :: st) w Q := zR_go (zst zT_60_31 rfl)
theorem zT_60_32 : zT 60 32 = some (.iload_n 2, 1, 0, []) := by decide +kernel
theorem zr_60_32 {l0 l1 : Option zV} {x : Int} {st : List zV} {w : zW} {Q : Option zV → zW → Prop}  : zR 60 32 [l0, l1, some (.inl x)] st w Q = zR 60 33 [l0, l1, some (.inl x)] (.inl x :: st) w Q := zR_go (zst zT_60_32 rfl)
theorem zT_60_33 : zT 60 33 = some (.iload_n 1, 1, 0, []) := by decide +kernel
theorem zr_60_33 {l0 l2 : Option zV} {x : Int} {st : List zV} {w : zW} {Q : Option zV → zW → Prop}  : zR 60 33 [l0, some (.inl x), l2] st w Q = zR 60 34 [l0, some (.inl x), l2] (.inl x :: st) w Q := zR_go (zst zT_60_33 rfl)
theorem zT_60_34 : zT 60 34 = some (.invokevirtual 248, 3, 2, [(11, 56)]) := by decide +kernel
theorem zr_60_34 {l0 l1 l2 : Option zV} {a0 a1 : zV} {h : Nat} {st : List zV} {w : zW} {Q : Option zV → zW → Prop} (hs : st.length ≤ 8) (hk : zk w h = 11) : zR 60 34 [l0, l1, l2] (a1 :: a0 :: .inr (some h) :: st) w Q = zR 56 0 [some (.inr (some h)), some a0, some a1] [] w (fun r w2 => zR 60 37 [l0, l1, l2] (r.toList ++ st) w2 Q) := zR_call (zst zT_60_34 (zcall_v [a1, a0] rfl hs hk rfl))
theorem zT_60_37 : zT 60 37 = some (.ifCond .ne 7, 3, 0, []) := by decide +kernel
theorem zr_60_37 {l0 l1 l2 : Option zV} {x : Int} {st : List zV} {w : zW} {Q : Option zV → zW → Prop}  : zR 60 37 [l0, l1, l2] (.inl x :: st) w Q = (if zN x ≠ 0 then zR 60 44 [l0, l1, l2] st w Q else zR 60 40 [l0, l1, l2] st w Q) := zR_if (zstB zT_60_37 rfl) (by simp [zcmp])
theorem zT_60_40 : zT 60 40 = some (.iconst 1, 1, 0, []) := by decide +kernel
theorem zr_60_40 {l0 l1 l2 : Option zV} {st : List zV} {w : zW} {Q : Option zV → zW → Prop}  : zR 60 40 [l0, l1, l2] st w Q = zR 60 41 [l0, l1, l2] (.inl 1 :: st) w Q := zR_go (zst zT_60_40 rfl)
theorem zT_60_41 : zT 60 41 = some (.goto 4, 3, 0, []) := by decide +kernel
theorem zr_60_41 {l0 l1 l2 : Option zV} {st : List zV} {w : zW} {Q : Option zV → zW → Prop}  : zR 60 41 [l0, l1, l2] st w Q = zR 60 45 [l0, l1, l2] st w Q := zR_go (zst zT_60_41 rfl)
theorem zT_60_44 : zT 60 44 = some (.iconst 0, 1, 0, []) := by decide +kernel
theorem zr_60_44 {l0 l1 l2 : Option zV} {st : List zV} {w : zW} {Q : Option zV → zW → Prop}  : zR 60 44 [l0, l1, l2] st w Q = zR 60 45 [l0, l1, l2] (.inl 0 :: st) w Q := zR_go (zst zT_60_44 rfl)
theorem zT_60_45 : zT 60 45 = some (.bastore, 1, 0, []) := by decide +kernel
theorem zr_60_45 {l0 l1 l2 : Option zV} {j x : Int} {h : Nat} {st : List zV} {w : zW} {Q : Option zV → zW → Prop} (hk : zk w h = zNC + 1 ∧ 0 ≤ zN j ∧ zN j < zl w h ∧ (zN x = 0 ∨ zN x = 1)) : zR 60 45 [l0, l1, l2] (.inl x :: .inl j :: .inr (some h) :: st) w Q = zR 60 46 [l0, l1, l2] st (zsa w h (zN j).toNat x) Q := zR_go (zst zT_60_45 (if_pos hk))
theorem zT_60_46 : zT 60 46 = some (.iinc 2 1, 3, 0, []) := by decide +kernel
theorem zr_60_46 {l0 l1 : Option zV} {x : Int} {st : List zV} {w : zW} {Q : Option zV → zW → Prop}  : zR 60 46 [l0, l1, some (.inl x)] st w Q = zR 60 49 [l0, l1, some (.inl (x + 1))] st w Q := zR_go (zst zT_60_46 rfl)
theorem zT_60_49 : zT 60 49 = some (.goto (-38), 3, 0, []) := by decide +kernel
theorem zr_60_49 {l0 l1 l2 : Option zV} {st : List zV} {w : zW} {Q : Option zV → zW → Prop}  : zR 60 49 [l0, l1, l2] st w Q = zR 60 11 [l0, l1, l2] st w Q := zR_go (zst zT_60_49 rfl)
theorem zT_60_52 : zT 60 52 = some (.aload_n 0, 1, 0, []) := by decide +kernel
theorem zr_60_52 {l1 l2 : Option zV} {x : Option Nat} {st : List zV} {w : zW} {Q : Option zV → zW → Prop}  : zR 60 52 [some (.inr x), l1, l2] st w Q = zR 60 53 [some (.inr x), l1, l2] (.inr x :: st) w Q := zR_go (zst zT_60_52 rfl)
theorem zT_60_53 : zT 60 53 = some (.getfield 83, 3, 0, [(11, 25)]) := by decide +kernel
theorem zr_60_53 {l0 l1 l2 : Option zV} {h : Nat} {st : List zV} {w : zW} {Q : Option zV → zW → Prop} (hk : zk w h = 11) : zR 60 53 [l0, l1, l2] (.inr (some h) :: st) w Q = zR 60 56 [l0, l1, l2] (.inr (zp w 97 h) :: st) w Q := zR_go (zst zT_60_53 (zget_r hk rfl))
theorem zT_60_56 : zT 60 56 = some (.iload_n 1, 1, 0, []) := by decide +kernel
theorem zr_60_56 {l0 l2 : Option zV} {x : Int} {st : List zV} {w : zW} {Q : Option zV → zW → Prop}  : zR 60 56 [l0, some (.inl x), l2] st w Q = zR 60 57 [l0, some (.inl x), l2] (.inl x :: st) w Q := zR_go (zst zT_60_56 rfl)
theorem zT_60_57 : zT 60 57 = some (.iconst 0, 1, 0, []) := by decide +kernel
theorem zr_60_57 {l0 l1 l2 : Option zV} {st : List zV} {w : zW} {Q : Option zV → zW → Prop}  : zR 60 57 [l0, l1, l2] st w Q = zR 60 58 [l0, l1, l2] (.inl 0 :: st) w Q := zR_go (zst zT_60_57 rfl)
theorem zT_60_58 : zT 60 58 = some (.iastore, 1, 0, []) := by decide +kernel
theorem zr_60_58 {l0 l1 l2 : Option zV} {j x : Int} {h : Nat} {st : List zV} {w : zW} {Q : Option zV → zW → Prop} (hk : zk w h = zNC ∧ 0 ≤ zN j ∧ zN j < zl w h) : zR 60 58 [l0, l1, l2] (.inl x :: .inl j :: .inr (some h) :: st) w Q = zR 60 59 [l0, l1, l2] st (zsa w h (zN j).toNat x) Q := zR_go (zst zT_60_58 (if_pos hk))
theorem zT_60_59 : zT 60 59 = some (.aload_n 0, 1, 0, []) := by decide +kernel
theorem zr_60_59 {l1 l2 : Option zV} {x : Option Nat} {st : List zV} {w : zW} {Q : Option zV → zW → Prop}  : zR 60 59 [some (.inr x), l1, l2] st w Q = zR 60 60 [some (.inr x), l1, l2] (.inr x :: st) w Q := zR_go (zst zT_60_59 rfl)
theorem zT_60_60 : zT 60 60 = some (.iload_n 1, 1, 0, []) := by decide +kernel
theorem zr_60_60 {l0 l2 : Option zV} {x : Int} {st : List zV} {w : zW} {Q : Option zV → zW → Prop}  : zR 60 60 [l0, some (.inl x), l2] st w Q = zR 60 61 [l0, some (.inl x), l2] (.inl x :: st) w Q := zR_go (zst zT_60_60 rfl)
theorem zT_60_61 : zT 60 61 = some (.iconst 1, 1, 0, []) := by decide +kernel
theorem zr_60_61 {l0 l1 l2 : Option zV} {st : List zV} {w : zW} {Q : Option zV → zW → Prop}  : zR 60 61 [l0, l1, l2] st w Q = zR 60 62 [l0, l1, l2] (.inl 1 :: st) w Q := zR_go (zst zT_60_61 rfl)
theorem zT_60_62 : zT 60 62 = some (.invokevirtual 252, 3, 2, [(11, 58)]) := by decide +kernel
theorem zr_60_62 {l0 l1 l2 : Option zV} {a0 a1 : zV} {h : Nat} {st : List zV} {w : zW} {Q : Option zV → zW → Prop} (hs : st.length ≤ 8) (hk : zk w h = 11) : zR 60 62 [l0, l1, l2] (a1 :: a0 :: .inr (some h) :: st) w Q = zR 58 0 [some (.inr (some h)), some a0, some a1] [] w (fun r w2 => zR 60 65 [l0, l1, l2] (r.toList ++ st) w2 Q) := zR_call (zst zT_60_62 (zcall_v [a1, a0] rfl hs hk rfl))
theorem zT_60_65 : zT 60 65 = some (.goto 44, 3, 0, []) := by decide +kernel
theorem zr_60_65 {l0 l1 l2 : Option zV} {st : List zV} {w : zW} {Q : Option zV → zW → Prop}  : zR 60 65 [l0, l1, l2] st w Q = zR 60 109 [l0, l1, l2] st w Q := zR_go (zst zT_60_65 rfl)
theorem zT_60_68 : zT 60 68 = some (.aload_n 0, 1, 0, []) := by decide +kernel
theorem zr_60_68 {l1 l2 : Option zV} {x : Option Nat} {st : List zV} {w : zW} {Q : Option zV → zW → Prop}  : zR 60 68 [some (.inr x), l1, l2] st w Q = zR 60 69 [some (.inr x), l1, l2] (.inr x :: st) w Q := zR_go (zst zT_60_68 rfl)
theorem zT_60_69 : zT 60 69 = some (.getfield 74, 3, 0, [(11, 22)]) := by decide +kernel
theorem zr_60_69 {l0 l1 l2 : Option zV} {h : Nat} {st : List zV} {w : zW} {Q : Option zV → zW → Prop} (hk : zk w h = 11) : zR 60 69 [l0, l1, l2] (.inr (some h) :: st) w Q = zR 60 72 [l0, l1, l2] (.inr (zp w 94 h) :: st) w Q := zR_go (zst zT_60_69 (zget_r hk rfl))
theorem zT_60_72 : zT 60 72 = some (.iload_n 1, 1, 0, []) := by decide +kernel
theorem zr_60_72 {l0 l2 : Option zV} {x : Int} {st : List zV} {w : zW} {Q : Option zV → zW → Prop}  : zR 60 72 [l0, some (.inl x), l2] st w Q = zR 60 73 [l0, some (.inl x), l2] (.inl x :: st) w Q := zR_go (zst zT_60_72 rfl)
theorem zT_60_73 : zT 60 73 = some (.iaload, 1, 0, []) := by decide +kernel
theorem zr_60_73 {l0 l1 l2 : Option zV} {j : Int} {h : Nat} {st : List zV} {w : zW} {Q : Option zV → zW → Prop} (hk : (zk w h = zNC ∨ zk w h = zNC + 2) ∧ 0 ≤ zN j ∧ zN j < zl w h) : zR 60 73 [l0, l1, l2] (.inl j :: .inr (some h) :: st) w Q = zR 60 74 [l0, l1, l2] (.inl (za w h (zN j).toNat) :: st) w Q := zR_go (zst zT_60_73 (if_pos hk))
theorem zT_60_74 : zT 60 74 = some (.iconst 1, 1, 0, []) := by decide +kernel
theorem zr_60_74 {l0 l1 l2 : Option zV} {st : List zV} {w : zW} {Q : Option zV → zW → Prop}  : zR 60 74 [l0, l1, l2] st w Q = zR 60 75 [l0, l1, l2] (.inl 1 :: st) w Q := zR_go (zst zT_60_74 rfl)
theorem zT_60_75 : zT 60 75 = some (.if_icmp .ne 11, 3, 0, []) := by decide +kernel
theorem zr_60_75 {l0 l1 l2 : Option zV} {x y : Int} {st : List zV} {w : zW} {Q : Option zV → zW → Prop}  : zR 60 75 [l0, l1, l2] (.inl y :: .inl x :: st) w Q = (if zN x ≠ zN y then zR 60 86 [l0, l1, l2] st w Q else zR 60 78 [l0, l1, l2] st w Q) := zR_if (zstB zT_60_75 rfl) (by simp [zcmp])
theorem zT_60_78 : zT 60 78 = some (.aload_n 0, 1, 0, []) := by decide +kernel
theorem zr_60_78 {l1 l2 : Option zV} {x : Option Nat} {st : List zV} {w : zW} {Q : Option zV → zW → Prop}  : zR 60 78 [some (.inr x), l1, l2] st w Q = zR 60 79 [some (.inr x), l1, l2] (.inr x :: st) w Q := zR_go (zst zT_60_78 rfl)
theorem zT_60_79 : zT 60 79 = some (.iload_n 1, 1, 0, []) := by decide +kernel
theorem zr_60_79 {l0 l2 : Option zV} {x : Int} {st : List zV} {w : zW} {Q : Option zV → zW → Prop}  : zR 60 79 [l0, some (.inl x), l2] st w Q = zR 60 80 [l0, some (.inl x), l2] (.inl x :: st) w Q := zR_go (zst zT_60_79 rfl)
theorem zT_60_80 : zT 60 80 = some (.invokevirtual 255, 3, 1, [(11, 61)]) := by decide +kernel
theorem zr_60_80 {l0 l1 l2 : Option zV} {a0 : zV} {h : Nat} {st : List zV} {w : zW} {Q : Option zV → zW → Prop} (hs : st.length ≤ 8) (hk : zk w h = 11) : zR 60 80 [l0, l1, l2] (a0 :: .inr (some h) :: st) w Q = zR 61 0 [some (.inr (some h)), some a0, none, none] [] w (fun r w2 => zR 60 83 [l0, l1, l2] (r.toList ++ st) w2 Q) := zR_call (zst zT_60_80 (zcall_v [a0] rfl hs hk rfl))
theorem zT_60_83 : zT 60 83 = some (.goto 26, 3, 0, []) := by decide +kernel
theorem zr_60_83 {l0 l1 l2 : Option zV} {st : List zV} {w : zW} {Q : Option zV → zW → Prop}  : zR 60 83 [l0, l1, l2] st w Q = zR 60 109 [l0, l1, l2] st w Q := zR_go (zst zT_60_83 rfl)
theorem zT_60_86 : zT 60 86 = some (.aload_n 0, 1, 0, []) := by decide +kernel
theorem zr_60_86 {l1 l2 : Option zV} {x : Option Nat} {st : List zV} {w : zW} {Q : Option zV → zW → Prop}  : zR 60 86 [some (.inr x), l1, l2] st w Q = zR 60 87 [some (.inr x), l1, l2] (.inr x :: st) w Q := zR_go (zst zT_60_86 rfl)
theorem zT_60_87 : zT 60 87 = some (.getfield 74, 3, 0, [(11, 22)]) := by decide +kernel
theorem zr_60_87 {l0 l1 l2 : Option zV} {h : Nat} {st : List zV} {w : zW} {Q : Option zV → zW → Prop} (hk : zk w h = 11) : zR 60 87 [l0, l1, l2] (.inr (some h) :: st) w Q = zR 60 90 [l0, l1, l2] (.inr (zp w 94 h) :: st) w Q := zR_go (zst zT_60_87 (zget_r hk rfl))
theorem zT_60_90 : zT 60 90 = some (.iload_n 1, 1, 0, []) := by decide +kernel
theorem zr_60_90 {l0 l2 : Option zV} {x : Int} {st : List zV} {w : zW} {Q : Option zV → zW → Prop}  : zR 60 90 [l0, some (.inl x), l2] st w Q = zR 60 91 [l0, some (.inl x), l2] (.inl x :: st) w Q := zR_go (zst zT_60_90 rfl)
theorem zT_60_91 : zT 60 91 = some (.iaload, 1, 0, []) := by decide +kernel
theorem zr_60_91 {l0 l1 l2 : Option zV} {j : Int} {h : Nat} {st : List zV} {w : zW} {Q : Option zV → zW → Prop} (hk : (zk w h = zNC ∨ zk w h = zNC + 2) ∧ 0 ≤ zN j ∧ zN j < zl w h) : zR 60 91 [l0, l1, l2] (.inl j :: .inr (some h) :: st) w Q = zR 60 92 [l0, l1, l2] (.inl (za w h (zN j).toNat) :: st) w Q := zR_go (zst zT_60_91 (if_pos hk))
theorem zT_60_92 : zT 60 92 = some (.iconst 2, 1, 0, []) := by decide +kernel
theorem zr_60_92 {l0 l1 l2 : Option zV} {st : List zV} {w : zW} {Q : Option zV → zW → Prop}  : zR 60 92 [l0, l1, l2] st w Q = zR 60 93 [l0, l1, l2] (.inl 2 :: st) w Q := zR_go (zst zT_60_92 rfl)
theorem zT_60_93 : zT 60 93 = some (.if_icmp .ne 11, 3, 0, []) := by decide +kernel
theorem zr_60_93 {l0 l1 l2 : Option zV} {x y : Int} {st : List zV} {w : zW} {Q : Option zV → zW → Prop}  : zR 60 93 [l0, l1, l2] (.inl y :: .inl x :: st) w Q = (if zN x ≠ zN y then zR 60 104 [l0, l1, l2] st w Q else zR 60 96 [l0, l1, l2] st w Q) := zR_if (zstB zT_60_93 rfl) (by simp [zcmp])
theorem zT_60_96 : zT 60 96 = some (.aload_n 0, 1, 0, []) := by decide +kernel
theorem zr_60_96 {l1 l2 : Option zV} {x : Option Nat} {st : List zV} {w : zW} {Q : Option zV → zW → Prop}  : zR 60 96 [some (.inr x), l1, l2] st w Q = zR 60 97 [some (.inr x), l1, l2] (.inr x :: st) w Q := zR_go (zst zT_60_96 rfl)
theorem zT_60_97 : zT 60 97 = some (.iload_n 1, 1, 0, []) := by decide +kernel
theorem zr_60_97 {l0 l2 : Option zV} {x : Int} {st : List zV} {w : zW} {Q : Option zV → zW → Prop}  : zR 60 97 [l0, some (.inl x), l2] st w Q = zR 60 98 [l0, some (.inl x), l2] (.inl x :: st) w Q := zR_go (zst zT_60_97 rfl)
theorem zT_60_98 : zT 60 98 = some (.invokevirtual 258, 3, 1, [(11, 62)]) := by decide +kernel
theorem zr_60_98 {l0 l1 l2 : Option zV} {a0 : zV} {h : Nat} {st : List zV} {w : zW} {Q : Option zV → zW → Prop} (hs : st.length ≤ 8) (hk : zk w h = 11) : zR 60 98 [l0, l1, l2] (a0 :: .inr (some h) :: st) w Q = zR 62 0 [some (.inr (some h)), some a0, none] [] w (fun r w2 => zR 60 101 [l0, l1, l2] (r.toList ++ st) w2 Q) := zR_call (zst zT_60_98 (zcall_v [a0] rfl hs hk rfl))
theorem zT_60_101 : zT 60 101 = some (.goto 8, 3, 0, []) := by decide +kernel
theorem zr_60_101 {l0 l1 l2 : Option zV} {st : List zV} {w : zW} {Q : Option zV → zW → Prop}  : zR 60 101 [l0, l1, l2] st w Q = zR 60 109 [l0, l1, l2] st w Q := zR_go (zst zT_60_101 rfl)
theorem zT_60_104 : zT 60 104 = some (.aload_n 0, 1, 0, []) := by decide +kernel
theorem zr_60_104 {l1 l2 : Option zV} {x : Option Nat} {st : List zV} {w : zW} {Q : Option zV → zW → Prop}  : zR 60 104 [some (.inr x), l1, l2] st w Q = zR 60 105 [some (.inr x), l1, l2] (.inr x :: st) w Q := zR_go (zst zT_60_104 rfl)
theorem zT_60_105 : zT 60 105 = some (.iload_n 1, 1, 0, []) := by decide +kernel
theorem zr_60_105 {l0 l2 : Option zV} {x : Int} {st : List zV} {w : zW} {Q : Option zV → zW → Prop}  : zR 60 105 [l0, some (.inl x), l2] st w Q = zR 60 106 [l0, some (.inl x), l2] (.inl x :: st) w Q := zR_go (zst zT_60_105 rfl)
theorem zT_60_106 : zT 60 106 = some (.invokevirtual 261, 3, 1, [(11, 63)]) := by decide +kernel
theorem zr_60_106 {l0 l1 l2 : Option zV} {a0 : zV} {h : Nat} {st : List zV} {w : zW} {Q : Option zV → zW → Prop} (hs : st.length ≤ 8) (hk : zk w h = 11) : zR 60 106 [l0, l1, l2] (a0 :: .inr (some h) :: st) w Q = zR 63 0 [some (.inr (some h)), some a0, none, none] [] w (fun r w2 => zR 60 109 [l0, l1, l2] (r.toList ++ st) w2 Q) := zR_call (zst zT_60_106 (zcall_v [a0] rfl hs hk rfl))
theorem zT_60_109 : zT 60 109 = some (.return_, 1, 0, []) := by decide +kernel
theorem zr_60_109 {l0 l1 l2 : Option zV} {w : zW} {Q : Option zV → zW → Prop} : zR 60 109 [l0, l1, l2] [] w Q = Q none w := zR_ret (zst zT_60_109 rfl)
theorem zT_61_0 : zT 61 0 = some (.ldc 176, 2, 65536, []) := by decide +kernel
theorem zr_61_0 {l0 l1 l2 l3 : Option zV} {st : List zV} {w : zW} {Q : Option zV → zW → Prop}  : zR 61 0 [l0, l1, l2, l3] st w Q = zR 61 2 [l0, l1, l2, l3] (.inl 65536 :: st) w Q := zR_go (zst zT_61_0 rfl)
theorem zT_61_2 : zT 61 2 = some (.istore_n 2, 1, 0, []) := by decide +kernel
theorem zr_61_2 {l0 l1 l2 l3 : Option zV} {x : Int} {st : List zV} {w : zW} {Q : Option zV → zW → Prop}  : zR 61 2 [l0, l1, l2, l3] (.inl x :: st) w Q = zR 61 3 [l0, l1, some (.inl x), l3] st w Q := zR_go (zst zT_61_2 rfl)
theorem zT_61_3 : zT 61 3 = some (.iconst 0, 1, 0, []) := by decide +kernel
theorem zr_61_3 {l0 l1 l2 l3 : Option zV} {st : List zV} {w : zW} {Q : Option zV → zW → Prop}  : zR 61 3 [l0, l1, l2, l3] st w Q = zR 61 4 [l0, l1, l2, l3] (.inl 0 :: st) w Q := zR_go (zst zT_61_3 rfl)
theorem zT_61_4 : zT 61 4 = some (.istore_n 3, 1, 0, []) := by decide +kernel
theorem zr_61_4 {l0 l1 l2 l3 : Option zV} {x : Int} {st : List zV} {w : zW} {Q : Option zV → zW → Prop}  : zR 61 4 [l0, l1, l2, l3] (.inl x :: st) w Q = zR 61 5 [l0, l1, l2, some (.inl x)] st w Q := zR_go (zst zT_61_4 rfl)
theorem zT_61_5 : zT 61 5 = some (.iload_n 3, 1, 0, []) := by decide +kernel
theorem zr_61_5 {l0 l1 l2 : Option zV} {x : Int} {st : List zV} {w : zW} {Q : Option zV → zW → Prop}  : zR 61 5 [l0, l1, l2, some (.inl x)] st w Q = zR 61 6 [l0, l1, l2, some (.inl x)] (.inl x :: st) w Q := zR_go (zst zT_61_5 rfl)
theorem zT_61_6 : zT 61 6 = some (.bipush 8, 2, 0, []) := by decide +kernel
theorem zr_61_6 {l0 l1 l2 l3 : Option zV} {st : List zV} {w : zW} {Q : Option zV → zW → Prop}  : zR 61 6 [l0, l1, l2, l3] st w Q = zR 61 8 [l0, l1, l2, l3] (.inl 8 :: st) w Q := zR_go (zst zT_61_6 rfl)
theorem zT_61_8 : zT 61 8 = some (.if_icmp .ge 48, 3, 0, []) := by decide +kernel
theorem zr_61_8 {l0 l1 l2 l3 : Option zV} {x y : Int} {st : List zV} {w : zW} {Q : Option zV → zW → Prop}  : zR 61 8 [l0, l1, l2, l3] (.inl y :: .inl x :: st) w Q = (if zN y ≤ zN x then zR 61 56 [l0, l1, l2, l3] st w Q else zR 61 11 [l0, l1, l2, l3] st w Q) := zR_if (zstB zT_61_8 rfl) (by simp [zcmp])
theorem zT_61_11 : zT 61 11 = some (.aload_n 0, 1, 0, []) := by decide +kernel
theorem zr_61_11 {l1 l2 l3 : Option zV} {x : Option Nat} {st : List zV} {w : zW} {Q : Option zV → zW → Prop}  : zR 61 11 [some (.inr x), l1, l2, l3] st w Q = zR 61 12 [some (.inr x), l1, l2, l3] (.inr x :: st) w Q := zR_go (zst zT_61_11 rfl)
theorem zT_61_12 : zT 61 12 = some (.iload_n 3, 1, 0, []) := by decide +kernel
theorem zr_61_12 {l0 l1 l2 : Option zV} {x : Int} {st : List zV} {w : zW} {Q : Option zV → zW → Prop}  : zR 61 12 [l0, l1, l2, some (.inl x)] st w Q = zR 61 13 [l0, l1, l2, some (.inl x)] (.inl x :: st) w Q := zR_go (zst zT_61_12 rfl)
theorem zT_61_13 : zT 61 13 = some (.iload_n 1, 1, 0, []) := by decide +kernel
theorem zr_61_13 {l0 l2 l3 : Option zV} {x : Int} {st : List zV} {w : zW} {Q : Option zV → zW → Prop}  : zR 61 13 [l0, some (.inl x), l2, l3] st w Q = zR 61 14 [l0, some (.inl x), l2, l3] (.inl x :: st) w Q := zR_go (zst zT_61_13 rfl)
theorem zT_61_14 : zT 61 14 = some (.invokevirtual 248, 3, 2, [(11, 56)]) := by decide +kernel
theorem zr_61_14 {l0 l1 l2 l3 : Option zV} {a0 a1 : zV} {h : Nat} {st : List zV} {w : zW} {Q : Option zV → zW → Prop} (hs : st.length ≤ 8) (hk : zk w h = 11) : zR 61 14 [l0, l1, l2, l3] (a1 :: a0 :: .inr (some h) :: st) w Q = zR 56 0 [some (.inr (some h)), some a0, some a1] [] w (fun r w2 => zR 61 17 [l0, l1, l2, l3] (r.toList ++ st) w2 Q) := zR_call (zst zT_61_14 (zcall_v [a1, a0] rfl hs hk rfl))
theorem zT_61_17 : zT 61 17 = some (.ifCond .eq 31, 3, 0, []) := by decide +kernel
theorem zr_61_17 {l0 l1 l2 l3 : Option zV} {x : Int} {st : List zV} {w : zW} {Q : Option zV → zW → Prop}  : zR 61 17 [l0, l1, l2, l3] (.inl x :: st) w Q = (if zN x = 0 then zR 61 48 [l0, l1, l2, l3] st w Q else zR 61 20 [l0, l1, l2, l3] st w Q) := zR_if (zstB zT_61_17 rfl) (by simp [zcmp])
theorem zT_61_20 : zT 61 20 = some (.aload_n 0, 1, 0, []) := by decide +kernel
theorem zr_61_20 {l1 l2 l3 : Option zV} {x : Option Nat} {st : List zV} {w : zW} {Q : Option zV → zW → Prop}  : zR 61 20 [some (.inr x), l1, l2, l3] st w Q = zR 61 21 [some (.inr x), l1, l2, l3] (.inr x :: st) w Q := zR_go (zst zT_61_20 rfl)
theorem zT_61_21 : zT 61 21 = some (.getfield 19, 3, 0, [(11, 4)]) := by decide +kernel
theorem zr_61_21 {l0 l1 l2 l3 : Option zV} {h : Nat} {st : List zV} {w : zW} {Q : Option zV → zW → Prop} (hk : zk w h = 11) : zR 61 21 [l0, l1, l2, l3] (.inr (some h) :: st) w Q = zR 61 24 [l0, l1, l2, l3] (.inr (zp w 76 h) :: st) w Q := zR_go (zst zT_61_21 (zget_r hk rfl))
theorem zT_61_24 : zT 61 24 = some (.iload_n 3, 1, 0, []) := by decide +kernel
theorem zr_61_24 {l0 l1 l2 : Option zV} {x : Int} {st : List zV} {w : zW} {Q : Option zV → zW → Prop}  : zR 61 24 [l0, l1, l2, some (.inl x)] st w Q = zR 61 25 [l0, l1, l2, some (.inl x)] (.inl x :: st) w Q := zR_go (zst zT_61_24 rfl)
theorem zT_61_25 : zT 61 25 = some (.baload, 1, 0, []) := by decide +kernel
theorem zr_61_25 {l0 l1 l2 l3 : Option zV} {j : Int} {h : Nat} {st : List zV} {w : zW} {Q : Option zV → zW → Prop} (hk : zk w h = zNC + 1 ∧ 0 ≤ zN j ∧ zN j < zl w h) : zR 61 25 [l0, l1, l2, l3] (.inl j :: .inr (some h) :: st) w Q = zR 61 26 [l0, l1, l2, l3] (.inl (za w h (zN j).toNat) :: st) w Q := zR_go (zst zT_61_25 (if_pos hk))
theorem zT_61_26 : zT 61 26 = some (.ifCond .ne 22, 3, 0, []) := by decide +kernel
theorem zr_61_26 {l0 l1 l2 l3 : Option zV} {x : Int} {st : List zV} {w : zW} {Q : Option zV → zW → Prop}  : zR 61 26 [l0, l1, l2, l3] (.inl x :: st) w Q = (if zN x ≠ 0 then zR 61 48 [l0, l1, l2, l3] st w Q else zR 61 29 [l0, l1, l2, l3] st w Q) := zR_if (zstB zT_61_26 rfl) (by simp [zcmp])
theorem zT_61_29 : zT 61 29 = some (.aload_n 0, 1, 0, []) := by decide +kernel
theorem zr_61_29 {l1 l2 l3 : Option zV} {x : Option Nat} {st : List zV} {w : zW} {Q : Option zV → zW → Prop}  : zR 61 29 [some (.inr x), l1, l2, l3] st w Q = zR 61 30 [some (.inr x), l1, l2, l3] (.inr x :: st) w Q := zR_go (zst zT_61_29 rfl)
theorem zT_61_30 : zT 61 30 = some (.getfield 13, 3, 0, [(11, 2)]) := by decide +kernel
theorem zr_61_30 {l0 l1 l2 l3 : Option zV} {h : Nat} {st : List zV} {w : zW} {Q : Option zV → zW → Prop} (hk : zk w h = 11) : zR 61 30 [l0, l1, l2, l3] (.inr (some h) :: st) w Q = zR 61 33 [l0, l1, l2, l3] (.inr (zp w 74 h) :: st) w Q := zR_go (zst zT_61_30 (zget_r hk rfl))
theorem zT_61_33 : zT 61 33 = some (.iload_n 3, 1, 0, []) := by decide +kernel
theorem zr_61_33 {l0 l1 l2 : Option zV} {x : Int} {st : List zV} {w : zW} {Q : Option zV → zW → Prop}  : zR 61 33 [l0, l1, l2, some (.inl x)] st w Q = zR 61 34 [l0, l1, l2, some (.inl x)] (.inl x :: st) w Q := zR_go (zst zT_61_33 rfl)
theorem zT_61_34 : zT 61 34 = some (.iaload, 1, 0, []) := by decide +kernel
theorem zr_61_34 {l0 l1 l2 l3 : Option zV} {j : Int} {h : Nat} {st : List zV} {w : zW} {Q : Option zV → zW → Prop} (hk : (zk w h = zNC ∨ zk w h = zNC + 2) ∧ 0 ≤ zN j ∧ zN j < zl w h) : zR 61 34 [l0, l1, l2, l3] (.inl j :: .inr (some h) :: st) w Q = zR 61 35 [l0, l1, l2, l3] (.inl (za w h (zN j).toNat) :: st) w Q := zR_go (zst zT_61_34 (if_pos hk))
theorem zT_61_35 : zT 61 35 = some (.iload_n 2, 1, 0, []) := by decide +kernel
theorem zr_61_35 {l0 l1 l3 : Option zV} {x : Int} {st : List zV} {w : zW} {Q : Option zV → zW → Prop}  : zR 61 35 [l0, l1, some (.inl x), l3] st w Q = zR 61 36 [l0, l1, some (.inl x), l3] (.inl x :: st) w Q := zR_go (zst zT_61_35 rfl)
theorem zT_61_36 : zT 61 36 = some (.if_icmp .ge 12, 3, 0, []) := by decide +kernel
theorem zr_61_36 {l0 l1 l2 l3 : Option zV} {x y : Int} {st : List zV} {w : zW} {Q : Option zV → zW → Prop}  : zR 61 36 [l0, l1, l2, l3] (.inl y :: .inl x :: st) w Q = (if zN y ≤ zN x then zR 61 48 [l0, l1, l2, l3] st w Q else zR 61 39 [l0, l1, l2, l3] st w Q) := zR_if (zstB zT_61_36 rfl) (by simp [zcmp])
theorem zT_61_39 : zT 61 39 = some (.aload_n 0, 1, 0, []) := by decide +kernel
theorem zr_61_39 {l1 l2 l3 : Option zV} {x : Option Nat} {st : List zV} {w : zW} {Q : Option zV → zW → Prop}  : zR 61 39 [some (.inr x), l1, l2, l3] st w Q = zR 61 40 [some (.inr x), l1, l2, l3] (.inr x :: st) w Q := zR_go (zst zT_61_39 rfl)
theorem zT_61_40 : zT 61 40 = some (.getfield 13, 3, 0, [(11, 2)]) := by decide +kernel
theorem zr_61_40 {l0 l1 l2 l3 : Option zV} {h : Nat} {st : List zV} {w : zW} {Q : Option zV → zW → Prop} (hk : zk w h = 11) : zR 61 40 [l0, l1, l2, l3] (.inr (some h) :: st) w Q = zR 61 43 [l0, l1, l2, l3] (.inr (zp w 74 h) :: st) w Q := zR_go (zst zT_61_40 (zget_r hk rfl))
theorem zT_61_43 : zT 61 43 = some (.iload_n 3, 1, 0, []) := by decide +kernel
theorem zr_61_43 {l0 l1 l2 : Option zV} {x : Int} {st : List zV} {w : zW} {Q : Option zV → zW → Prop}  : zR 61 43 [l0, l1, l2, some (.inl x)] st w Q = zR 61 44 [l0, l1, l2, some (.inl x)] (.inl x :: st) w Q := zR_go (zst zT_61_43 rfl)
theorem zT_61_44 : zT 61 44 = some (.iaload, 1, 0, []) := by decide +kernel
theorem zr_61_44 {l0 l1 l2 l3 : Option zV} {j : Int} {h : Nat} {st : List zV} {w : zW} {Q : Option zV → zW → Prop} (hk : (zk w h = zNC ∨ zk w h = zNC + 2) ∧ 0 ≤ zN j ∧ zN j < zl w h) : zR 61 44 [l0, l1, l2, l3] (.inl j :: .inr (some h) :: st) w Q = zR 61 45 [l0, l1, l2, l3] (.inl (za w h (zN j).toNat) :: st) w Q := zR_go (zst zT_61_44 (if_pos hk))
theorem zT_61_45 : zT 61 45 = some (.goto 4, 3, 0, []) := by decide +kernel
theorem zr_61_45 {l0 l1 l2 l3 : Option zV} {st : List zV} {w : zW} {Q : Option zV → zW → Prop}  : zR 61 45 [l0, l1, l2, l3] st w Q = zR 61 49 [l0, l1, l2, l3] st w Q := zR_go (zst zT_61_45 rfl)
theorem zT_61_48 : zT 61 48 = some (.iload_n 2, 1, 0, []) := by decide +kernel
theorem zr_61_48 {l0 l1 l3 : Option zV} {x : Int} {st : List zV} {w : zW} {Q : Option zV → zW → Prop}  : zR 61 48 [l0, l1, some (.inl x), l3] st w Q = zR 61 49 [l0, l1, some (.inl x), l3] (.inl x :: st) w Q := zR_go (zst zT_61_48 rfl)
theorem zT_61_49 : zT 61 49 = some (.istore_n 2, 1, 0, []) := by decide +kernel
theorem zr_61_49 {l0 l1 l2 l3 : Option zV} {x : Int} {st : List zV} {w : zW} {Q : Option zV → zW → Prop}  : zR 61 49 [l0, l1, l2, l3] (.inl x :: st) w Q = zR 61 50 [l0, l1, some (.inl x), l3] st w Q := zR_go (zst zT_61_49 rfl)
theorem zT_61_50 : zT 61 50 = some (.iinc 3 1, 3, 0, []) := by decide +kernel
theorem zr_61_50 {l0 l1 l2 : Option zV} {x : Int} {st : List zV} {w : zW} {Q : Option zV → zW → Prop}  : zR 61 50 [l0, l1, l2, some (.inl x)] st w Q = zR 61 53 [l0, l1, l2, some (.inl (x + 1))] st w Q := zR_go (zst zT_61_50 rfl)
theorem zT_61_53 : zT 61 53 = some (.goto (-48), 3, 0, []) := by decide +kernel
theorem zr_61_53 {l0 l1 l2 l3 : Option zV} {st : List zV} {w : zW} {Q : Option zV → zW → Prop}  : zR 61 53 [l0, l1, l2, l3] st w Q = zR 61 5 [l0, l1, l2, l3] st w Q := zR_go (zst zT_61_53 rfl)
theorem zT_61_56 : zT 61 56 = some (.iload_n 2, 1, 0, []) := by decide +kernel
theorem zr_61_56 {l0 l1 l3 : Option zV} {x : Int} {st : List zV} {w : zW} {Q : Option zV → zW → Prop}  : zR 61 56 [l0, l1, some (.inl x), l3] st w Q = zR 61 57 [l0, l1, some (.inl x), l3] (.inl x :: st) w Q := zR_go (zst zT_61_56 rfl)
theorem zT_61_57 : zT 61 57 = some (.ldc 176, 2, 65536, []) := by decide +kernel
theorem zr_61_57 {l0 l1 l2 l3 : Option zV} {st : List zV} {w : zW} {Q : Option zV → zW → Prop}  : zR 61 57 [l0, l1, l2, l3] st w Q = zR 61 59 [l0, l1, l2, l3] (.inl 65536 :: st) w Q := zR_go (zst zT_61_57 rfl)
theorem zT_61_59 : zT 61 59 = some (.if_icmp .ne 42, 3, 0, []) := by decide +kernel
theorem zr_61_59 {l0 l1 l2 l3 : Option zV} {x y : Int} {st : List zV} {w : zW} {Q : Option zV → zW → Prop}  : zR 61 59 [l0, l1, l2, l3] (.inl y :: .inl x :: st) w Q = (if zN x ≠ zN y then zR 61 101 [l0, l1, l2, l3] st w Q else zR 61 62 [l0, l1, l2, l3] st w Q) := zR_if (zstB zT_61_59 rfl) (by simp [zcmp])
theorem zT_61_62 : zT 61 62 = some (.aload_n 0, 1, 0, []) := by decide +kernel
theorem zr_61_62 {l1 l2 l3 : Option zV} {x : Option Nat} {st : List zV} {w : zW} {Q : Option zV → zW → Prop}  : zR 61 62 [some (.inr x), l1, l2, l3] st w Q = zR 61 63 [some (.inr x), l1, l2, l3] (.inr x :: st) w Q := zR_go (zst zT_61_62 rfl)
theorem zT_61_63 : zT 61 63 = some (.getfield 83, 3, 0, [(11, 25)]) := by decide +kernel
theorem zr_61_63 {l0 l1 l2 l3 : Option zV} {h : Nat} {st : List zV} {w : zW} {Q : Option zV → zW → Prop} (hk : zk w h = 11) : zR 61 63 [l0, l1, l2, l3] (.inr (some h) :: st) w Q = zR 61 66 [l0, l1, l2, l3] (.inr (zp w 97 h) :: st) w Q := zR_go (zst zT_61_63 (zget_r hk rfl))
theorem zT_61_66 : zT 61 66 = some (.iload_n 1, 1, 0, []) := by decide +kernel
theorem zr_61_66 {l0 l2 l3 : Option zV} {x : Int} {st : List zV} {w : zW} {Q : Option zV → zW → Prop}  : zR 61 66 [l0, some (.inl x), l2, l3] st w Q = zR 61 67 [l0, some (.inl x), l2, l3] (.inl x :: st) w Q := zR_go (zst zT_61_66 rfl)
theorem zT_61_67 : zT 61 67 = some (.iaload, 1, 0, []) := by decide +kernel
theorem zr_61_67 {l0 l1 l2 l3 : Option zV} {j : Int} {h : Nat} {st : List zV} {w : zW} {Q : Option zV → zW → Prop} (hk : (zk w h = zNC ∨ zk w h = zNC + 2) ∧ 0 ≤ zN j ∧ zN j < zl w h) : zR 61 67 [l0, l1, l2, l3] (.inl j :: .inr (some h) :: st) w Q = zR 61 68 [l0, l1, l2, l3] (.inl (za w h (zN j).toNat) :: st) w Q := zR_go (zst zT_61_67 (if_pos hk))
theorem zT_61_68 : zT 61 68 = some (.ifCond .ne 12, 3, 0, []) := by decide +kernel
theorem zr_61_68 {l0 l1 l2 l3 : Option zV} {x : Int} {st : List zV} {w : zW} {Q : Option zV → zW → Prop}  : zR 61 68 [l0, l1, l2, l3] (.inl x :: st) w Q = (if zN x ≠ 0 then zR 61 80 [l0, l1, l2, l3] st w Q else zR 61 71 [l0, l1, l2, l3] st w Q) := zR_if (zstB zT_61_68 rfl) (by simp [zcmp])
theorem zT_61_71 : zT 61 71 = some (.aload_n 0, 1, 0, []) := by decide +kernel
theorem zr_61_71 {l1 l2 l3 : Option zV} {x : Option Nat} {st : List zV} {w : zW} {Q : Option zV → zW → Prop}  : zR 61 71 [some (.inr x), l1, l2, l3] st w Q = zR 61 72 [some (.inr x), l1, l2, l3] (.inr x :: st) w Q := zR_go (zst zT_61_71 rfl)
theorem zT_61_72 : zT 61 72 = some (.iload_n 1, 1, 0, []) := by decide +kernel
theorem zr_61_72 {l0 l2 l3 : Option zV} {x : Int} {st : List zV} {w : zW} {Q : Option zV → zW → Prop}  : zR 61 72 [l0, some (.inl x), l2, l3] st w Q = zR 61 73 [l0, some (.inl x), l2, l3] (.inl x :: st) w Q := zR_go (zst zT_61_72 rfl)
theorem zT_61_73 : zT 61 73 = some (.iconst 2, 1, 0, []) := by decide +kernel
theorem zr_61_73 {l0 l1 l2 l3 : Option zV} {st : List zV} {w : zW} {Q : Option zV → zW → Prop}  : zR 61 73 [l0, l1, l2, l3] st w Q = zR 61 74 [l0, l1, l2, l3] (.inl 2 :: st) w Q := zR_go (zst zT_61_73 rfl)
theorem zT_61_74 : zT 61 74 = some (.invokevirtual 245, 3, 2, [(11, 57)]) := by decide +kernel
theorem zr_61_74 {l0 l1 l2 l3 : Option zV} {a0 a1 : zV} {h : Nat} {st : List zV} {w : zW} {Q : Option zV → zW → Prop} (hs : st.length ≤ 8) (hk : zk w h = 11) : zR 61 74 [l0, l1, l2, l3] (a1 :: a0 :: .inr (some h) :: st) w Q = zR 57 0 [some (.inr (some h)), some a0, some a1, none] [] w (fun r w2 => zR 61 77 [l0, l1, l2, l3] (r.toList ++ st) w2 Q) := zR_call (zst zT_61_74 (zcall_v [a1, a0] rfl hs hk rfl))
theorem zT_61_77 : zT 61 77 = some (.goto 92, 3, 0, []) := by decide +kernel
theorem zr_61_77 {l0 l1 l2 l3 : Option zV} {st : List zV} {w : zW} {Q : Option zV → zW → Prop}  : zR 61 77 [l0, l1, l2, l3] st w Q = zR 61 169 [l0, l1, l2, l3] st w Q := zR_go (zst zT_61_77 rfl)
theorem zT_61_80 : zT 61 80 = some (.aload_n 0, 1, 0, []) := by decide +kernel
theorem zr_61_80 {l1 l2 l3 : Option zV} {x : Option Nat} {st : List zV} {w : zW} {Q : Option zV → zW → Prop}  : zR 61 80 [some (.inr x), l1, l2, l3] st w Q = zR 61 81 [some (.inr x), l1, l2, l3] (.inr x :: st) w Q := zR_go (zst zT_61_80 rfl)
theorem zT_61_81 : zT 61 81 = some (.iload_n 1, 1, 0, []) := by decide +kernel
theorem zr_61_81 {l0 l2 l3 : Option zV} {x : Int} {st : List zV} {w : zW} {Q : Option zV → zW → Prop}  : zR 61 81 [l0, some (.inl x), l2, l3] st w Q = zR 61 82 [l0, some (.inl x), l2, l3] (.inl x :: st) w Q := zR_go (zst zT_61_81 rfl)
theorem zT_61_82 : zT 61 82 = some (.iconst 3, 1, 0, []) := by decide +kernel
theorem zr_61_82 {l0 l1 l2 l3 : Option zV} {st : List zV} {w : zW} {Q : Option zV → zW → Prop}  : zR 61 82 [l0, l1, l2, l3] st w Q = zR 61 83 [l0, l1, l2, l3] (.inl 3 :: st) w Q := zR_go (zst zT_61_82 rfl)
theorem zT_61_83 : zT 61 83 = some (.invokevirtual 252, 3, 2, [(11, 58)]) := by decide +kernel
theorem zr_61_83 {l0 l1 l2 l3 : Option zV} {a0 a1 : zV} {h : Nat} {st : List zV} {w : zW} {Q : Option zV → zW → Prop} (hs : st.length ≤ 8) (hk : zk w h = 11) : zR 61 83 [l0, l1, l2, l3] (a1 :: a0 :: .inr (some h) :: st) w Q = zR 58 0 [some (.inr (some h)), some a0, some a1] [] w (fun r w2 => zR 61 86 [l0, l1, l2, l3] (r.toList ++ st) w2 Q) := zR_call (zst zT_61_83 (zcall_v [a1, a0] rfl hs hk rfl))
theorem zT_61_86 : zT 61 86 = some (.aload_n 0, 1, 0, []) := by decide +kernel
theorem zr_61_86 {l1 l2 l3 : Option zV} {x : Option Nat} {st : List zV} {w : zW} {Q : Option zV → zW → Prop}  : zR 61 86 [some (.inr x), l1, l2, l3] st w Q = zR 61 87 [some (.inr x), l1, l2, l3] (.inr x :: st) w Q := zR_go (zst zT_61_86 rfl)
theorem zT_61_87 : zT 61 87 = some (.getfield 77, 3, 0, [(11, 23)]) := by decide +kernel
theorem zr_61_87 {l0 l1 l2 l3 : Option zV} {h : Nat} {st : List zV} {w : zW} {Q : Option zV → zW → Prop} (hk : zk w h = 11) : zR 61 87 [l0, l1, l2, l3] (.inr (some h) :: st) w Q = zR 61 90 [l0, l1, l2, l3] (.inr (zp w 95 h) :: st) w Q := zR_go (zst zT_61_87 (zget_r hk rfl))
theorem zT_61_90 : zT 61 90 = some (.iload_n 1, 1, 0, []) := by decide +kernel
theorem zr_61_90 {l0 l2 l3 : Option zV} {x : Int} {st : List zV} {w : zW} {Q : Option zV → zW → Prop}  : zR 61 90 [l0, some (.inl x), l2, l3] st w Q = zR 61 91 [l0, some (.inl x), l2, l3] (.inl x :: st) w Q := zR_go (zst zT_61_90 rfl)
theorem zT_61_91 : zT 61 91 = some (.iconst 0, 1, 0, []) := by decide +kernel
theorem zr_61_91 {l0 l1 l2 l3 : Option zV} {st : List zV} {w : zW} {Q : Option zV → zW → Prop}  : zR 61 91 [l0, l1, l2, l3] st w Q = zR 61 92 [l0, l1, l2, l3] (.inl 0 :: st) w Q := zR_go (zst zT_61_91 rfl)
theorem zT_61_92 : zT 61 92 = some (.iastore, 1, 0, []) := by decide +kernel
theorem zr_61_92 {l0 l1 l2 l3 : Option zV} {j x : Int} {h : Nat} {st : List zV} {w : zW} {Q : Option zV → zW → Prop} (hk : zk w h = zNC ∧ 0 ≤ zN j ∧ zN j < zl w h) : zR 61 92 [l0, l1, l2, l3] (.inl x :: .inl j :: .inr (some h) :: st) w Q = zR 61 93 [l0, l1, l2, l3] st (zsa w h (zN j).toNat x) Q := zR_go (zst zT_61_92 (if_pos hk))
theorem zT_61_93 : zT 61 93 = some (.aload_n 0, 1, 0, []) := by decide +kernel
theorem zr_61_93 {l1 l2 l3 : Option zV} {x : Option Nat} {st : List zV} {w : zW} {Q : Option zV → zW → Prop}  : zR 61 93 [some (.inr x), l1, l2, l3] st w Q = zR 61 94 [some (.inr x), l1, l2, l3] (.inr x :: st) w Q := zR_go (zst zT_61_93 rfl)
theorem zT_61_94 : zT 61 94 = some (.iload_n 1, 1, 0, []) := by decide +kernel
theorem zr_61_94 {l0 l2 l3 : Option zV} {x : Int} {st : List zV} {w : zW} {Q : Option zV → zW → Prop}  : zR 61 94 [l0, some (.inl x), l2, l3] st w Q = zR 61 95 [l0, some (.inl x), l2, l3] (.inl x :: st) w Q := zR_go (zst zT_61_94 rfl)
theorem zT_61_95 : zT 61 95 = some (.invokevirtual 261, 3, 1, [(11, 63)]) := by decide +kernel
theorem zr_61_95 {l0 l1 l2 l3 : Option zV} {a0 : zV} {h : Nat} {st : List zV} {w : zW} {Q : Option zV → zW → Prop} (hs : st.length ≤ 8) (hk : zk w h = 11) : zR 61 95 [l0, l1, l2, l3] (a0 :: .inr (some h) :: st) w Q = zR 63 0 [some (.inr (some h)), some a0, none, none] [] w (fun r w2 => zR 61 98 [l0, l1, l2, l3] (r.toList ++ st) w2 Q) := zR_call (zst zT_61_95 (zcall_v [a0] rfl hs hk rfl))
theorem zT_61_98 : zT 61 98 = some (.goto 71, 3, 0, []) := by decide +kernel
theorem zr_61_98 {l0 l1 l2 l3 : Option zV} {st : List zV} {w : zW} {Q : Option zV → zW → Prop}  : zR 61 98 [l0, l1, l2, l3] st w Q = zR 61 169 [l0, l1, l2, l3] st w Q := zR_go (zst zT_61_98 rfl)
theorem zT_61_101 : zT 61 101 = some (.aload_n 0, 1, 0, []) := by decide +kernel
theorem zr_61_101 {l1 l2 l3 : Option zV} {x : Option Nat} {st : List zV} {w : zW} {Q : Option zV → zW → Prop}  : zR 61 101 [some (.inr x), l1, l2, l3] st w Q = zR 61 102 [some (.inr x), l1, l2, l3] (.inr x :: st) w Q := zR_go (zst zT_61_101 rfl)
theorem zT_61_102 : zT 61 102 = some (.getfield 83, 3, 0, [(11, 25)]) := by decide +kernel
theorem zr_61_102 {l0 l1 l2 l3 : Option zV} {h : Nat} {st : List zV} {w : zW} {Q : Option zV → zW → Prop} (hk : zk w h = 11) : zR 61 102 [l0, l1, l2, l3] (.inr (some h) :: st) w Q = zR 61 105 [l0, l1, l2, l3] (.inr (zp w 97 h) :: st) w Q := zR_go (zst zT_61_102 (zget_r hk rfl))
theorem zT_61_105 : zT 61 105 = some (.iload_n 1, 1, 0, []) := by decide +kernel
theorem zr_61_105 {l0 l2 l3 : Option zV} {x : Int} {st : List zV} {w : zW} {Q : Option zV → zW → Prop}  : zR 61 105 [l0, some (.inl x), l2, l3] st w Q = zR 61 106 [l0, some (.inl x), l2, l3] (.inl x :: st) w Q := zR_go (zst zT_61_105 rfl)
theorem zT_61_106 : zT 61 106 = some (.iaload, 1, 0, []) := by decide +kernel
theorem zr_61_106 {l0 l1 l2 l3 : Option zV} {j : Int} {h : Nat} {st : List zV} {w : zW} {Q : Option zV → zW → Prop} (hk : (zk w h = zNC ∨ zk w h = zNC + 2) ∧ 0 ≤ zN j ∧ zN j < zl w h) : zR 61 106 [l0, l1, l2, l3] (.inl j :: .inr (some h) :: st) w Q = zR 61 107 [l0, l1, l2, l3] (.inl (za w h (zN j).toNat) :: st) w Q := zR_go (zst zT_61_106 (if_pos hk))
theorem zT_61_107 : zT 61 107 = some (.bipush 16, 2, 0, []) := by decide +kernel
theorem zr_61_107 {l0 l1 l2 l3 : Option zV} {st : List zV} {w : zW} {Q : Option zV → zW → Prop}  : zR 61 107 [l0, l1, l2, l3] st w Q = zR 61 109 [l0, l1, l2, l3] (.inl 16 :: st) w Q := zR_go (zst zT_61_107 rfl)
theorem zT_61_109 : zT 61 109 = some (.if_icmp .ne 12, 3, 0, []) := by decide +kernel
theorem zr_61_109 {l0 l1 l2 l3 : Option zV} {x y : Int} {st : List zV} {w : zW} {Q : Option zV → zW → Prop}  : zR 61 109 [l0, l1, l2, l3] (.inl y :: .inl x :: st) w Q = (if zN x ≠ zN y then zR 61 121 [l0, l1, l2, l3] st w Q else zR 61 112 [l0, l1, l2, l3] st w Q) := zR_if (zstB zT_61_109 rfl) (by simp [zcmp])
theorem zT_61_112 : zT 61 112 = some (.aload_n 0, 1, 0, []) := by decide +kernel
theorem zr_61_112 {l1 l2 l3 : Option zV} {x : Option Nat} {st : List zV} {w : zW} {Q : Option zV → zW → Prop}  : zR 61 112 [some (.inr x), l1, l2, l3] st w Q = zR 61 113 [some (.inr x), l1, l2, l3] (.inr x :: st) w Q := zR_go (zst zT_61_112 rfl)
theorem zT_61_113 : zT 61 113 = some (.iload_n 1, 1, 0, []) := by decide +kernel
theorem zr_61_113 {l0 l2 l3 : Option zV} {x : Int} {st : List zV} {w : zW} {Q : Option zV → zW → Prop}  : zR 61 113 [l0, some (.inl x), l2, l3] st w Q = zR 61 114 [l0, some (.inl x), l2, l3] (.inl x :: st) w Q := zR_go (zst zT_61_113 rfl)
theorem zT_61_114 : zT 61 114 = some (.iconst 3, 1, 0, []) := by decide +kernel
theorem zr_61_114 {l0 l1 l2 l3 : Option zV} {st : List zV} {w : zW} {Q : Option zV → zW → Prop}  : zR 61 114 [l0, l1, l2, l3] st w Q = zR 61 115 [l0, l1, l2, l3] (.inl 3 :: st) w Q := zR_go (zst zT_61_114 rfl)
theorem zT_61_115 : zT 61 115 = some (.invokevirtual 245, 3, 2, [(11, 57)]) := by decide +kernel
theorem zr_61_115 {l0 l1 l2 l3 : Option zV} {a0 a1 : zV} {h : Nat} {st : List zV} {w : zW} {Q : Option zV → zW → Prop} (hs : st.length ≤ 8) (hk : zk w h = 11) : zR 61 115 [l0, l1, l2, l3] (a1 :: a0 :: .inr (some h) :: st) w Q = zR 57 0 [some (.inr (some h)), some a0, some a1, none] [] w (fun r w2 => zR 61 118 [l0, l1, l2, l3] (r.toList ++ st) w2 Q) := zR_call (zst zT_61_115 (zcall_v [a1, a0] rfl hs hk rfl))
theorem zT_61_118 : zT 61 118 = some (.goto 51, 3, 0, []) := by decide +kernel
theorem zr_61_118 {l0 l1 l2 l3 : Option zV} {st : List zV} {w : zW} {Q : Option zV → zW → Prop}  : zR 61 118 [l0, l1, l2, l3] st w Q = zR 61 169 [l0, l1, l2, l3] st w Q := zR_go (zst zT_61_118 rfl)
theorem zT_61_121 : zT 61 121 = some (.aload_n 0, 1, 0, []) := by decide +kernel
theorem zr_61_121 {l1 l2 l3 : Option zV} {x : Option Nat} {st : List zV} {w : zW} {Q : Option zV → zW → Prop}  : zR 61 121 [some (.inr x), l1, l2, l3] st w Q = zR 61 122 [some (.inr x), l1, l2, l3] (.inr x :: st) w Q := zR_go (zst zT_61_121 rfl)
theorem zT_61_122 : zT 61 122 = some (.iconst 0, 1, 0, []) := by decide +kernel
theorem zr_61_122 {l0 l1 l2 l3 : Option zV} {st : List zV} {w : zW} {Q : Option zV → zW → Prop}  : zR 61 122 [l0, l1, l2, l3] st w Q = zR 61 123 [l0, l1, l2, l3] (.inl 0 :: st) w Q := zR_go (zst zT_61_122 rfl)
theorem zT_61_123 : zT 61 123 = some (.putfield 205, 3, 0, [(11, 32)]) := by decide +kernel
theorem zr_61_123 {l0 l1 l2 l3 : Option zV} {h : Nat} {x : Int} {st : List zV} {w : zW} {Q : Option zV → zW → Prop} (hk : zk w h = 11) : zR 61 123 [l0, l1, l2, l3] (.inl x :: .inr (some h) :: st) w Q = zR 61 126 [l0, l1, l2, l3] st (zsf w 104 h x) Q := zR_go (zst zT_61_123 (zput_i hk rfl))
theorem zT_61_126 : zT 61 126 = some (.aload_n 0, 1, 0, []) := by decide +kernel
theorem zr_61_126 {l1 l2 l3 : Option zV} {x : Option Nat} {st : List zV} {w : zW} {Q : Option zV → zW → Prop}  : zR 61 126 [some (.inr x), l1, l2, l3] st w Q = zR 61 127 [some (.inr x), l1, l2, l3] (.inr x :: st) w Q := zR_go (zst zT_61_126 rfl)
theorem zT_61_127 : zT 61 127 = some (.iload_n 2, 1, 0, []) := by decide +kernel
theorem zr_61_127 {l0 l1 l3 : Option zV} {x : Int} {st : List zV} {w : zW} {Q : Option zV → zW → Prop}  : zR 61 127 [l0, l1, some (.inl x), l3] st w Q = zR 61 128 [l0, l1, some (.inl x), l3] (.inl x :: st) w Q := zR_go (zst zT_61_127 rfl)
theorem zT_61_128 : zT 61 128 = some (.sipush 256, 3, 0, []) := by decide +kernel
theorem zr_61_128 {l0 l1 l2 l3 : Option zV} {st : List zV} {w : zW} {Q : Option zV → zW → Prop}  : zR 61 128 [l0, l1, l2, l3] st w Q = zR 61 131 [l0, l1, l2, l3] (.inl 256 :: st) w Q := zR_go (zst zT_61_128 rfl)
theorem zT_61_131 : zT 61 131 = some (.idiv, 1, 0, []) := by decide +kernel
theorem zr_61_131 {l0 l1 l2 l3 : Option zV} {x y : Int} {st : List zV} {w : zW} {Q : Option zV → zW → Prop} (hy : ¬ zN y = 0) : zR 61 131 [l0, l1, l2, l3] (.inl y :: .inl x :: st) w Q = zR 61 132 [l0, l1, l2, l3] (.inl (zo_div x y) :: st) w Q := zR_go (zst zT_61_131 (if_neg hy))
theorem zT_61_132 : zT 61 132 = some (.invokevirtual 214, 3, 1, [(11, 47)]) := by decide +kernel
theorem zr_61_132 {l0 l1 l2 l3 : Option zV} {a0 : zV} {h : Nat} {st : List zV} {w : zW} {Q : Option zV → zW → Prop} (hs : st.length ≤ 8) (hk : zk w h = 11) : zR 61 132 [l0, l1, l2, l3] (a0 :: .inr (some h) :: st) w Q = zR 47 0 [some (.inr (some h)), some a0] [] w (fun r w2 => zR 61 135 [l0, l1, l2, l3] (r.toList ++ st) w2 Q) := zR_call (zst zT_61_132 (zcall_v [a0] rfl hs hk rfl))
theorem zT_61_135 : zT 61 135 = some (.aload_n 0, 1, 0, []) := by decide +kernel
theorem zr_61_135 {l1 l2 l3 : Option zV} {x : Option Nat} {st : List zV} {w : zW} {Q : Option zV → zW → Prop}  : zR 61 135 [some (.inr x), l1, l2, l3] st w Q = zR 61 136 [some (.inr x), l1, l2, l3] (.inr x :: st) w Q := zR_go (zst zT_61_135 rfl)
theorem zT_61_136 : zT 61 136 = some (.iload_n 2, 1, 0, []) := by decide +kernel
theorem zr_61_136 {l0 l1 l3 : Option zV} {x : Int} {st : List zV} {w : zW} {Q : Option zV → zW → Prop}  : zR 61 136 [l0, l1, some (.inl x), l3] st w Q = zR 61 137 [l0, l1, some (.inl x), l3] (.inl x :: st) w Q := zR_go (zst zT_61_136 rfl)
theorem zT_61_137 : zT 61 137 = some (.sipush 256, 3, 0, []) := by decide +kernel
theorem zr_61_137 {l0 l1 l2 l3 : Option zV} {st : List zV} {w : zW} {Q : Option zV → zW → Prop}  : zR 61 137 [l0, l1, l2, l3] st w Q = zR 61 140 [l0, l1, l2, l3] (.inl 256 :: st) w Q := zR_go (zst zT_61_137 rfl)
theorem zT_61_140 : zT 61 140 = some (.irem, 1, 0, []) := by decide +kernel
theorem zr_61_140 {l0 l1 l2 l3 : Option zV} {x y : Int} {st : List zV} {w : zW} {Q : Option zV → zW → Prop} (hy : ¬ zN y = 0) : zR 61 140 [l0, l1, l2, l3] (.inl y :: .inl x :: st) w Q = zR 61 141 [l0, l1, l2, l3] (.inl (zo_rem x y) :: st) w Q := zR_go (zst zT_61_140 (if_neg hy))
theorem zT_61_141 : zT 61 141 = some (.invokevirtual 214, 3, 1, [(11, 47)]) := by decide +kernel
theorem zr_61_141 {l0 l1 l2 l3 : Option zV} {a0 : zV} {h : Nat} {st : List zV} {w : zW} {Q : Option zV → zW → Prop} (hs : st.length ≤ 8) (hk : zk w h = 11) : zR 61 141 [l0, l1, l2, l3] (a0 :: .inr (some h) :: st) w Q = zR 47 0 [some (.inr (some h)), some a0] [] w (fun r w2 => zR 61 144 [l0, l1, l2, l3] (r.toList ++ st) w2 Q) := zR_call (zst zT_61_141 (zcall_v [a0] rfl hs hk rfl))
theorem zT_61_144 : zT 61 144 = some (.aload_n 0, 1, 0, []) := by decide +kernel
theorem zr_61_144 {l1 l2 l3 : Option zV} {x : Option Nat} {st : List zV} {w : zW} {Q : Option zV → zW → Prop}  : zR 61 144 [some (.inr x), l1, l2, l3] st w Q = zR 61 145 [some (.inr x), l1, l2, l3] (.inr x :: st) w Q := zR_go (zst zT_61_144 rfl)
theorem zT_61_145 : zT 61 145 = some (.invokevirtual 220, 3, 0, [(11, 50)]) := by decide +kernel
theorem zr_61_145 {l0 l1 l2 l3 : Option zV} {h : Nat} {st : List zV} {w : zW} {Q : Option zV → zW → Prop} (hs : st.length ≤ 8) (hk : zk w h = 11) : zR 61 145 [l0, l1, l2, l3] (.inr (some h) :: st) w Q = zR 50 0 [some (.inr (some h)), none] [] w (fun r w2 => zR 61 148 [l0, l1, l2, l3] (r.toList ++ st) w2 Q) := zR_call (zst zT_61_145 (zcall_v [] rfl hs hk rfl))
theorem zT_61_148 : zT 61 148 = some (.aload_n 0, 1, 0, []) := by decide +kernel
theorem zr_61_148 {l1 l2 l3 : Option zV} {x : Option Nat} {st : List zV} {w : zW} {Q : Option zV → zW → Prop}  : zR 61 148 [some (.inr x), l1, l2, l3] st w Q = zR 61 149 [some (.inr x), l1, l2, l3] (.inr x :: st) w Q := zR_go (zst zT_61_148 rfl)
theorem zT_61_149 : zT 61 149 = some (.iload_n 1, 1, 0, []) := by decide +kernel
theorem zr_61_149 {l0 l2 l3 : Option zV} {x : Int} {st : List zV} {w : zW} {Q : Option zV → zW → Prop}  : zR 61 149 [l0, some (.inl x), l2, l3] st w Q = zR 61 150 [l0, some (.inl x), l2, l3] (.inl x :: st) w Q := zR_go (zst zT_61_149 rfl)
theorem zT_61_150 : zT 61 150 = some (.invokevirtual 264, 3, 1, [(11, 59)]) := by decide +kernel
theorem zr_61_150 {l0 l1 l2 l3 : Option zV} {a0 : zV} {h : Nat} {st : List zV} {w : zW} {Q : Option zV → zW → Prop} (hs : st.length ≤ 8) (hk : zk w h = 11) : zR 61 150 [l0, l1, l2, l3] (a0 :: .inr (some h) :: st) w Q = zR 59 0 [some (.inr (some h)), some a0] [] w (fun r w2 => zR 61 153 [l0, l1, l2, l3] (r.toList ++ st) w2 Q) := zR_call (zst zT_61_150 (zcall_v [a0] rfl hs hk rfl))
theorem zT_61_153 : zT 61 153 = some (.ifCond .eq 16, 3, 0, []) := by decide +kernel
theorem zr_61_153 {l0 l1 l2 l3 : Option zV} {x : Int} {st : List zV} {w : zW} {Q : Option zV → zW → Prop}  : zR 61 153 [l0, l1, l2, l3] (.inl x :: st) w Q = (if zN x = 0 then zR 61 169 [l0, l1, l2, l3] st w Q else zR 61 156 [l0, l1, l2, l3] st w Q) := zR_if (zstB zT_61_153 rfl) (by simp [zcmp])
theorem zT_61_156 : zT 61 156 = some (.aload_n 0, 1, 0, []) := by decide +kernel
theorem zr_61_156 {l1 l2 l3 : Option zV} {x : Option Nat} {st : List zV} {w : zW} {Q : Option zV → zW → Prop}  : zR 61 156 [some (.inr x), l1, l2, l3] st w Q = zR 61 157 [some (.inr x), l1, l2, l3] (.inr x :: st) w Q := zR_go (zst zT_61_156 rfl)
theorem zT_61_157 : zT 61 157 = some (.getfield 89, 3, 0, [(11, 27)]) := by decide +kernel
theorem zr_61_157 {l0 l1 l2 l3 : Option zV} {h : Nat} {st : List zV} {w : zW} {Q : Option zV → zW → Prop} (hk : zk w h = 11) : zR 61 157 [l0, l1, l2, l3] (.inr (some h) :: st) w Q = zR 61 160 [l0, l1, l2, l3] (.inr (zp w 99 h) :: st) w Q := zR_go (zst zT_61_157 (zget_r hk rfl))
theorem zT_61_160 : zT 61 160 = some (.iload_n 1, 1, 0, []) := by decide +kernel
theorem zr_61_160 {l0 l2 l3 : Option zV} {x : Int} {st : List zV} {w : zW} {Q : Option zV → zW → Prop}  : zR 61 160 [l0, some (.inl x), l2, l3] st w Q = zR 61 161 [l0, some (.inl x), l2, l3] (.inl x :: st) w Q := zR_go (zst zT_61_160 rfl)
theorem zT_61_161 : zT 61 161 = some (.iload_n 2, 1, 0, []) := by decide +kernel
theorem zr_61_161 {l0 l1 l3 : Option zV} {x : Int} {st : List zV} {w : zW} {Q : Option zV → zW → Prop}  : zR 61 161 [l0, l1, some (.inl x), l3] st w Q = zR 61 162 [l0, l1, some (.inl x), l3] (.inl x :: st) w Q := zR_go (zst zT_61_161 rfl)
theorem zT_61_162 : zT 61 162 = some (.iastore, 1, 0, []) := by decide +kernel
theorem zr_61_162 {l0 l1 l2 l3 : Option zV} {j x : Int} {h : Nat} {st : List zV} {w : zW} {Q : Option zV → zW → Prop} (hk : zk w h = zNC ∧ 0 ≤ zN j ∧ zN j < zl w h) : zR 61 162 [l0, l1, l2, l3] (.inl x :: .inl j :: .inr (some h) :: st) w Q = zR 61 163 [l0, l1, l2, l3] st (zsa w h (zN j).toNat x) Q := zR_go (zst zT_61_162 (if_pos hk))
theorem zT_61_163 : zT 61 163 = some (.aload_n 0, 1, 0, []) := by decide +kernel
theorem zr_61_163 {l1 l2 l3 : Option zV} {x : Option Nat} {st : List zV} {w : zW} {Q : Option zV → zW → Prop}  : zR 61 163 [some (.inr x), l1, l2, l3] st w Q = zR 61 164 [some (.inr x), l1, l2, l3] (.inr x :: st) w Q := zR_go (zst zT_61_163 rfl)
theorem zT_61_164 : zT 61 164 = some (.iload_n 1, 1, 0, []) := by decide +kernel
theorem zr_61_164 {l0 l2 l3 : Option zV} {x : Int} {st : List zV} {w : zW} {Q : Option zV → zW → Prop}  : zR 61 164 [l0, some (.inl x), l2, l3] st w Q = zR 61 165 [l0, some (.inl x), l2, l3] (.inl x :: st) w Q := zR_go (zst zT_61_164 rfl)
theorem zT_61_165 : zT 61 165 = some (.iconst 2, 1, 0, []) := by decide +kernel
theorem zr_61_165 {l0 l1 l2 l3 : Option zV} {st : List zV} {w : zW} {Q : Option zV → zW → Prop}  : zR 61 165 [l0, l1, l2, l3] st w Q = zR 61 166 [l0, l1, l2, l3] (.inl 2 :: st) w Q := zR_go (zst zT_61_165 rfl)
theorem zT_61_166 : zT 61 166 = some (.invokevirtual 252, 3, 2, [(11, 58)]) := by decide +kernel
theorem zr_61_166 {l0 l1 l2 l3 : Option zV} {a0 a1 : zV} {h : Nat} {st : List zV} {w : zW} {Q : Option zV → zW → Prop} (hs : st.length ≤ 8) (hk : zk w h = 11) : zR 61 166 [l0, l1, l2, l3] (a1 :: a0 :: .inr (some h) :: st) w Q = zR 58 0 [some (.inr (some h)), some a0, some a1] [] w (fun r w2 => zR 61 169 [l0, l1, l2, l3] (r.toList ++ st) w2 Q) := zR_call (zst zT_61_166 (zcall_v [a1, a0] rfl hs hk rfl))
theorem zT_61_169 : zT 61 169 = some (.return_, 1, 0, []) := by decide +kernel
theorem zr_61_169 {l0 l1 l2 l3 : Option zV} {w : zW} {Q : Option zV → zW → Prop} : zR 61 169 [l0, l1, l2, l3] [] w Q = Q none w := zR_ret (zst zT_61_169 rfl)
theorem zT_62_0 : zT 62 0 = some (.aload_n 0, 1, 0, []) := by decide +kernel
theorem zr_62_0 {l1 l2 : Option zV} {x : Option Nat} {st : List zV} {w : zW} {Q : Option zV → zW → Prop}  : zR 62 0 [some (.inr x), l1, l2] st w Q = zR 62 1 [some (.inr x), l1, l2] (.inr x :: st) w Q := zR_go (zst zT_62_0 rfl)
theorem zT_62_1 : zT 62 1 = some (.iconst 0, 1, 0, []) := by decide +kernel
theorem zr_62_1 {l0 l1 l2 : Option zV} {st : List zV} {w : zW} {Q : Option zV → zW → Prop}  : zR 62 1 [l0, l1, l2] st w Q = zR 62 2 [l0, l1, l2] (.inl 0 :: st) w Q := zR_go (zst zT_62_1 rfl)
theorem zT_62_2 : zT 62 2 = some (.putfield 205, 3, 0, [(11, 32)]) := by decide +kernel
theorem zr_62_2 {l0 l1 l2 : Option zV} {h : Nat} {x : Int} {st : List zV} {w : zW} {Q : Option zV → zW → Prop} (hk : zk w h = 11) : zR 62 2 [l0, l1, l2] (.inl x :: .inr (some h) :: st) w Q = zR 62 5 [l0, l1, l2] st (zsf w 104 h x) Q := zR_go (zst zT_62_2 (zput_i hk rfl))
theorem zT_62_5 : zT 62 5 = some (.aload_n 0, 1, 0, []) := by decide +kernel
theorem zr_62_5 {l1 l2 : Option zV} {x : Option Nat} {st : List zV} {w : zW} {Q : Option zV → zW → Prop}  : zR 62 5 [some (.inr x), l1, l2] st w Q = zR 62 6 [some (.inr x), l1, l2] (.inr x :: st) w Q := zR_go (zst zT_62_5 rfl)
theorem zT_62_6 : zT 62 6 = some (.aload_n 0, 1, 0, []) := by decide +kernel
theorem zr_62_6 {l1 l2 : Option zV} {x : Option Nat} {st : List zV} {w : zW} {Q : Option zV → zW → Prop}  : zR 62 6 [some (.inr x), l1, l2] st w Q = zR 62 7 [some (.inr x), l1, l2] (.inr x :: st) w Q := zR_go (zst zT_62_6 rfl)
theorem zT_62_7 : zT 62 7 = some (.getfield 89, 3, 0, [(11, 27)]) := by decide +kernel
theorem zr_62_7 {l0 l1 l2 : Option zV} {h : Nat} {st : List zV} {w : zW} {Q : Option zV → zW → Prop} (hk : zk w h = 11) : zR 62 7 [l0, l1, l2] (.inr (some h) :: st) w Q = zR 62 10 [l0, l1, l2] (.inr (zp w 99 h) :: st) w Q := zR_go (zst zT_62_7 (zget_r hk rfl))
theorem zT_62_10 : zT 62 10 = some (.iload_n 1, 1, 0, []) := by decide +kernel
theorem zr_62_10 {l0 l2 : Option zV} {x : Int} {st : List zV} {w : zW} {Q : Option zV → zW → Prop}  : zR 62 10 [l0, some (.inl x), l2] st w Q = zR 62 11 [l0, some (.inl x), l2] (.inl x :: st) w Q := zR_go (zst zT_62_10 rfl)
theorem zT_62_11 : zT 62 11 = some (.iaload, 1, 0, []) := by decide +kernel
theorem zr_62_11 {l0 l1 l2 : Option zV} {j : Int} {h : Nat} {st : List zV} {w : zW} {Q : Option zV → zW → Prop} (hk : (zk w h = zNC ∨ zk w h = zNC + 2) ∧ 0 ≤ zN j ∧ zN j < zl w h) : zR 62 11 [l0, l1, l2] (.inl j :: .inr (some h) :: st) w Q = zR 62 12 [l0, l1, l2] (.inl (za w h (zN j).toNat) :: st) w Q := zR_go (zst zT_62_11 (if_pos hk))
theorem zT_62_12 : zT 62 12 = some (.sipush 256, 3, 0, []) := by decide +kernel
theorem zr_62_12 {l0 l1 l2 : Option zV} {st : List zV} {w : zW} {Q : Option zV → zW → Prop}  : zR 62 12 [l0, l1, l2] st w Q = zR 62 15 [l0, l1, l2] (.inl 256 :: st) w Q := zR_go (zst zT_62_12 rfl)
theorem zT_62_15 : zT 62 15 = some (.idiv, 1, 0, []) := by decide +kernel
theorem zr_62_15 {l0 l1 l2 : Option zV} {x y : Int} {st : List zV} {w : zW} {Q : Option zV → zW → Prop} (hy : ¬ zN y = 0) : zR 62 15 [l0, l1, l2] (.inl y :: .inl x :: st) w Q = zR 62 16 [l0, l1, l2] (.inl (zo_div x y) :: st) w Q := zR_go (zst zT_62_15 (if_neg hy))
theorem zT_62_16 : zT 62 16 = some (.invokevirtual 214, 3, 1, [(11, 47)]) := by decide +kernel
theorem zr_62_16 {l0 l1 l2 : Option zV} {a0 : zV} {h : Nat} {st : List zV} {w : zW} {Q : Option zV → zW → Prop} (hs : st.length ≤ 8) (hk : zk w h = 11) : zR 62 16 [l0, l1, l2] (a0 :: .inr (some h) :: st) w Q = zR 47 0 [some (.inr (some h)), some a0] [] w (fun r w2 => zR 62 19 [l0, l1, l2] (r.toList ++ st) w2 Q) := zR_call (zst zT_62_16 (zcall_v [a0] rfl hs hk rfl))
theorem zT_62_19 : zT 62 19 = some (.aload_n 0, 1, 0, []) := by decide +kernel
theorem zr_62_19 {l1 l2 : Option zV} {x : Option Nat} {st : List zV} {w : zW} {Q : Option zV → zW → Prop}  : zR 62 19 [some (.inr x), l1, l2] st w Q = zR 62 20 [some (.inr x), l1, l2] (.inr x :: st) w Q := zR_go (zst zT_62_19 rfl)
theorem zT_62_20 : zT 62 20 = some (.aload_n 0, 1, 0, []) := by decide +kernel
theorem zr_62_20 {l1 l2 : Option zV} {x : Option Nat} {st : List zV} {w : zW} {Q : Option zV → zW → Prop}  : zR 62 20 [some (.inr x), l1, l2] st w Q = zR 62 21 [some (.inr x), l1, l2] (.inr x :: st) w Q := zR_go (zst zT_62_20 rfl)
theorem zT_62_21 : zT 62 21 = some (.getfield 89, 3, 0, [(11, 27)]) := by decide +kernel
theorem zr_62_21 {l0 l1 l2 : Option zV} {h : Nat} {st : List zV} {w : zW} {Q : Option zV → zW → Prop} (hk : zk w h = 11) : zR 62 21 [l0, l1, l2] (.inr (some h) :: st) w Q = zR 62 24 [l0, l1, l2] (.inr (zp w 99 h) :: st) w Q := zR_go (zst zT_62_21 (zget_r hk rfl))
theorem zT_62_24 : zT 62 24 = some (.iload_n 1, 1, 0, []) := by decide +kernel
theorem zr_62_24 {l0 l2 : Option zV} {x : Int} {st : List zV} {w : zW} {Q : Option zV → zW → Prop}  : zR 62 24 [l0, some (.inl x), l2] st w Q = zR 62 25 [l0, some (.inl x), l2] (.inl x :: st) w Q := zR_go (zst zT_62_24 rfl)
theorem zT_62_25 : zT 62 25 = some (.iaload, 1, 0, []) := by decide +kernel
theorem zr_62_25 {l0 l1 l2 : Option zV} {j : Int} {h : Nat} {st : List zV} {w : zW} {Q : Option zV → zW → Prop} (hk : (zk w h = zNC ∨ zk w h = zNC + 2) ∧ 0 ≤ zN j ∧ zN j < zl w h) : zR 62 25 [l0, l1, l2] (.inl j :: .inr (some h) :: st) w Q = zR 62 26 [l0, l1, l2] (.inl (za w h (zN j).toNat) :: st) w Q := zR_go (zst zT_62_25 (if_pos hk))
theorem zT_62_26 : zT 62 26 = some (.sipush 256, 3, 0, []) := by decide +kernel
theorem zr_62_26 {l0 l1 l2 : Option zV} {st : List zV} {w : zW} {Q : Option zV → zW → Prop}  : zR 62 26 [l0, l1, l2] st w Q = zR 62 29 [l0, l1, l2] (.inl 256 :: st) w Q := zR_go (zst zT_62_26 rfl)
theorem zT_62_29 : zT 62 29 = some (.irem, 1, 0, []) := by decide +kernel
theorem zr_62_29 {l0 l1 l2 : Option zV} {x y : Int} {st : List zV} {w : zW} {Q : Option zV → zW → Prop} (hy : ¬ zN y = 0) : zR 62 29 [l0, l1, l2] (.inl y :: .inl x :: st) w Q = zR 62 30 [l0, l1, l2] (.inl (zo_rem x y) :: st) w Q := zR_go (zst zT_62_29 (if_neg hy))
theorem zT_62_30 : zT 62 30 = some (.invokevirtual 214, 3, 1, [(11, 47)]) := by decide +kernel
theorem zr_62_30 {l0 l1 l2 : Option zV} {a0 : zV} {h : Nat} {st : List zV} {w : zW} {Q : Option zV → zW → Prop} (hs : st.length ≤ 8) (hk : zk w h = 11) : zR 62 30 [l0, l1, l2] (a0 :: .inr (some h) :: st) w Q = zR 47 0 [some (.inr (some h)), some a0] [] w (fun r w2 => zR 62 33 [l0, l1, l2] (r.toList ++ st) w2 Q) := zR_call (zst zT_62_30 (zcall_v [a0] rfl hs hk rfl))
theorem zT_62_33 : zT 62 33 = some (.aload_n 0, 1, 0, []) := by decide +kernel
theorem zr_62_33 {l1 l2 : Option zV} {x : Option Nat} {st : List zV} {w : zW} {Q : Option zV → zW → Prop}  : zR 62 33 [some (.inr x), l1, l2] st w Q = zR 62 34 [some (.inr x), l1, l2] (.inr x :: st) w Q := zR_go (zst zT_62_33 rfl)
theorem zT_62_34 : zT 62 34 = some (.bipush 16, 2, 0, []) := by decide +kernel
theorem zr_62_34 {l0 l1 l2 : Option zV} {st : List zV} {w : zW} {Q : Option zV → zW → Prop}  : zR 62 34 [l0, l1, l2] st w Q = zR 62 36 [l0, l1, l2] (.inl 16 :: st) w Q := zR_go (zst zT_62_34 rfl)
theorem zT_62_36 : zT 62 36 = some (.aload_n 0, 1, 0, []) := by decide +kernel
theorem zr_62_36 {l1 l2 : Option zV} {x : Option Nat} {st : List zV} {w : zW} {Q : Option zV → zW → Prop}  : zR 62 36 [some (.inr x), l1, l2] st w Q = zR 62 37 [some (.inr x), l1, l2] (.inr x :: st) w Q := zR_go (zst zT_62_36 rfl)
theorem zT_62_37 : zT 62 37 = some (.getfield 83, 3, 0, [(11, 25)]) := by decide +kernel
theorem zr_62_37 {l0 l1 l2 : Option zV} {h : Nat} {st : List zV} {w : zW} {Q : Option zV → zW → Prop} (hk : zk w h = 11) : zR 62 37 [l0, l1, l2] (.inr (some h) :: st) w Q = zR 62 40 [l0, l1, l2] (.inr (zp w 97 h) :: st) w Q := zR_go (zst zT_62_37 (zget_r hk rfl))
theorem zT_62_40 : zT 62 40 = some (.iload_n 1, 1, 0, []) := by decide +kernel
theorem zr_62_40 {l0 l2 : Option zV} {x : Int} {st : List zV} {w : zW} {Q : Option zV → zW → Prop}  : zR 62 40 [l0, some (.inl x), l2] st w Q = zR 62 41 [l0, some (.inl x), l2] (.inl x :: st) w Q := zR_go (zst zT_62_40 rfl)
theorem zT_62_41 : zT 62 41 = some (.iaload, 1, 0, []) := by decide +kernel
theorem zr_62_41 {l0 l1 l2 : Option zV} {j : Int} {h : Nat} {st : List zV} {w : zW} {Q : Option zV → zW → Prop} (hk : (zk w h = zNC ∨ zk w h = zNC + 2) ∧ 0 ≤ zN j ∧ zN j < zl w h) : zR 62 41 [l0, l1, l2] (.inl j :: .inr (some h) :: st) w Q = zR 62 42 [l0, l1, l2] (.inl (za w h (zN j).toNat) :: st) w Q := zR_go (zst zT_62_41 (if_pos hk))
theorem zT_62_42 : zT 62 42 = some (.iadd, 1, 0, []) := by decide +kernel
theorem zr_62_42 {l0 l1 l2 : Option zV} {x y : Int} {st : List zV} {w : zW} {Q : Option zV → zW → Prop}  : zR 62 42 [l0, l1, l2] (.inl y :: .inl x :: st) w Q = zR 62 43 [l0, l1, l2] (.inl (x + y) :: st) w Q := zR_go (zst zT_62_42 rfl)
theorem zT_62_43 : zT 62 43 = some (.invokevirtual 214, 3, 1, [(11, 47)]) := by decide +kernel
theorem zr_62_43 {l0 l1 l2 : Option zV} {a0 : zV} {h : Nat} {st : List zV} {w : zW} {Q : Option zV → zW → Prop} (hs : st.length ≤ 8) (hk : zk w h = 11) : zR 62 43 [l0, l1, l2] (a0 :: .inr (some h) :: st) w Q = zR 47 0 [some (.inr (some h)), some a0] [] w (fun r w2 => zR 62 46 [l0, l1, l2] (r.toList ++ st) w2 Q) := zR_call (zst zT_62_43 (zcall_v [a0] rfl hs hk rfl))
theorem zT_62_46 : zT 62 46 = some (.aload_n 0, 1, 0, []) := by decide +kernel
theorem zr_62_46 {l1 l2 : Option zV} {x : Option Nat} {st : List zV} {w : zW} {Q : Option zV → zW → Prop}  : zR 62 46 [some (.inr x), l1, l2] st w Q = zR 62 47 [some (.inr x), l1, l2] (.inr x :: st) w Q := zR_go (zst zT_62_46 rfl)
theorem zT_62_47 : zT 62 47 = some (.invokevirtual 220, 3, 0, [(11, 50)]) := by decide +kernel
theorem zr_62_47 {l0 l1 l2 : Option zV} {h : Nat} {st : List zV} {w : zW} {Q : Option zV → zW → Prop} (hs : st.length ≤ 8) (hk : zk w h = 11) : zR 62 47 [l0, l1, l2] (.inr (some h) :: st) w Q = zR 50 0 [some (.inr (some h)), none] [] w (fun r w2 => zR 62 50 [l0, l1, l2] (r.toList ++ st) w2 Q) := zR_call (zst zT_62_47 (zcall_v [] rfl hs hk rfl))
theorem zT_62_50 : zT 62 50 = some (.aload_n 0, 1, 0, []) := by decide +kernel
theorem zr_62_50 {l1 l2 : Option zV} {x : Option Nat} {st : List zV} {w : zW} {Q : Option zV → zW → Prop}  : zR 62 50 [some (.inr x), l1, l2] st w Q = zR 62 51 [some (.inr x), l1, l2] (.inr x :: st) w Q := zR_go (zst zT_62_50 rfl)
theorem zT_62_51 : zT 62 51 = some (.iload_n 1, 1, 0, []) := by decide +kernel
theorem zr_62_51 {l0 l2 : Option zV} {x : Int} {st : List zV} {w : zW} {Q : Option zV → zW → Prop}  : zR 62 51 [l0, some (.inl x), l2] st w Q = zR 62 52 [l0, some (.inl x), l2] (.inl x :: st) w Q := zR_go (zst zT_62_51 rfl)
theorem zT_62_52 : zT 62 52 = some (.invokevirtual 264, 3, 1, [(11, 59)]) := by decide +kernel
theorem zr_62_52 {l0 l1 l2 : Option zV} {a0 : zV} {h : Nat} {st : List zV} {w : zW} {Q : Option zV → zW → Prop} (hs : st.length ≤ 8) (hk : zk w h = 11) : zR 62 52 [l0, l1, l2] (a0 :: .inr (some h) :: st) w Q = zR 59 0 [some (.inr (some h)), some a0] [] w (fun r w2 => zR 62 55 [l0, l1, l2] (r.toList ++ st) w2 Q) := zR_call (zst zT_62_52 (zcall_v [a0] rfl hs hk rfl))
theorem zT_62_55 : zT 62 55 = some (.ifCond .ne 4, 3, 0, []) := by decide +kernel
theorem zr_62_55 {l0 l1 l2 : Option zV} {x : Int} {st : List zV} {w : zW} {Q : Option zV → zW → Prop}  : zR 62 55 [l0, l1, l2] (.inl x :: st) w Q = (if zN x ≠ 0 then zR 62 59 [l0, l1, l2] st w Q else zR 62 58 [l0, l1, l2] st w Q) := zR_if (zstB zT_62_55 rfl) (by simp [zcmp])
theorem zT_62_58 : zT 62 58 = some (.return_, 1, 0, []) := by decide +kernel
theorem zr_62_58 {l0 l1 l2 : Option zV} {w : zW} {Q : Option zV → zW → Prop} : zR 62 58 [l0, l1, l2] [] w Q = Q none w := zR_ret (zst zT_62_58 rfl)
theorem zT_62_59 : zT 62 59 = some (.iconst 0, 1, 0, []) := by decide +kernel
theorem zr_62_59 {l0 l1 l2 : Option zV} {st : List zV} {w : zW} {Q : Option zV → zW → Prop}  : zR 62 59 [l0, l1, l2] st w Q = zR 62 60 [l0, l1, l2] (.inl 0 :: st) w Q := zR_go (zst zT_62_59 rfl)
theorem zT_62_60 : zT 62 60 = some (.istore_n 2, 1, 0, []) := by decide +kernel
theorem zr_62_60 {l0 l1 l2 : Option zV} {x : Int} {st : List zV} {w : zW} {Q : Option zV → zW → Prop}  : zR 62 60 [l0, l1, l2] (.inl x :: st) w Q = zR 62 61 [l0, l1, some (.inl x)] st w Q := zR_go (zst zT_62_60 rfl)
theorem zT_62_61 : zT 62 61 = some (.iload_n 2, 1, 0, []) := by decide +kernel
theorem zr_62_61 {l0 l1 : Option zV} {x : Int} {st : List zV} {w : zW} {Q : Option zV → zW → Prop}  : zR 62 61 [l0, l1, some (.inl x)] st w Q = zR 62 62 [l0, l1, some (.inl x)] (.inl x :: st) w Q := zR_go (zst zT_62_61 rfl)
theorem zT_62_62 : zT 62 62 = some (.bipush 8, 2, 0, []) := by decide +kernel
theorem zr_62_62 {l0 l1 l2 : Option zV} {st : List zV} {w : zW} {Q : Option zV → zW → Prop}  : zR 62 62 [l0, l1, l2] st w Q = zR 62 64 [l0, l1, l2] (.inl 8 :: st) w Q := zR_go (zst zT_62_62 rfl)
theorem zT_62_64 : zT 62 64 = some (.if_icmp .ge 64, 3, 0, []) := by decide +kernel
theorem zr_62_64 {l0 l1 l2 : Option zV} {x y : Int} {st : List zV} {w : zW} {Q : Option zV → zW → Prop}  : zR 62 64 [l0, l1, l2] (.inl y :: .inl x :: st) w Q = (if zN y ≤ zN x then zR 62 128 [l0, l1, l2] st w Q else zR 62 67 [l0, l1, l2] st w Q) := zR_if (zstB zT_62_64 rfl) (by simp [zcmp])
theorem zT_62_67 : zT 62 67 = some (.aload_n 0, 1, 0, []) := by decide +kernel
theorem zr_62_67 {l1 l2 : Option zV} {x : Option Nat} {st : List zV} {w : zW} {Q : Option zV → zW → Prop}  : zR 62 67 [some (.inr x), l1, l2] st w Q = zR 62 68 [some (.inr x), l1, l2] (.inr x :: st) w Q := zR_go (zst zT_62_67 rfl)
theorem zT_62_68 : zT 62 68 = some (.iload_n 2, 1, 0, []) := by decide +kernel
theorem zr_62_68 {l0 l1 : Option zV} {x : Int} {st : List zV} {w : zW} {Q : Option zV → zW → Prop}  : zR 62 68 [l0, l1, some (.inl x)] st w Q = zR 62 69 [l0, l1, some (.inl x)] (.inl x :: st) w Q := zR_go (zst zT_62_68 rfl)
theorem zT_62_69 : zT 62 69 = some (.iload_n 1, 1, 0, []) := by decide +kernel
theorem zr_62_69 {l0 l2 : Option zV} {x : Int} {st : List zV} {w : zW} {Q : Option zV → zW → Prop}  : zR 62 69 [l0, some (.inl x), l2] st w Q = zR 62 70 [l0, some (.inl x), l2] (.inl x :: st) w Q := zR_go (zst zT_62_69 rfl)
theorem zT_62_70 : zT 62 70 = some (.invokevirtual 248, 3, 2, [(11, 56)]) := by decide +kernel
theorem zr_62_70 {l0 l1 l2 : Option zV} {a0 a1 : zV} {h : Nat} {st : List zV} {w : zW} {Q : Option zV → zW → Prop} (hs : st.length ≤ 8) (hk : zk w h = 11) : zR 62 70 [l0, l1, l2] (a1 :: a0 :: .inr (some h) :: st) w Q = zR 56 0 [some (.inr (some h)), some a0, some a1] [] w (fun r w2 => zR 62 73 [l0, l1, l2] (r.toList ++ st) w2 Q) := zR_call (zst zT_62_70 (zcall_v [a1, a0] rfl hs hk rfl))
theorem zT_62_73 : zT 62 73 = some (.ifCond .eq 49, 3, 0, []) := by decide +kernel
theorem zr_62_73 {l0 l1 l2 : Option zV} {x : Int} {st : List zV} {w : zW} {Q : Option zV → zW → Prop}  : zR 62 73 [l0, l1, l2] (.inl x :: st) w Q = (if zN x = 0 then zR 62 122 [l0, l1, l2] st w Q else zR 62 76 [l0, l1, l2] st w Q) := zR_if (zstB zT_62_73 rfl) (by simp [zcmp])
theorem zT_62_76 : zT 62 76 = some (.aload_n 0, 1, 0, []) := by decide +kernel
theorem zr_62_76 {l1 l2 : Option zV} {x : Option Nat} {st : List zV} {w : zW} {Q : Option zV → zW → Prop}  : zR 62 76 [some (.inr x), l1, l2] st w Q = zR 62 77 [some (.inr x), l1, l2] (.inr x :: st) w Q := zR_go (zst zT_62_76 rfl)
theorem zT_62_77 : zT 62 77 = some (.getfield 19, 3, 0, [(11, 4)]) := by decide +kernel
theorem zr_62_77 {l0 l1 l2 : Option zV} {h : Nat} {st : List zV} {w : zW} {Q : Option zV → zW → Prop} (hk : zk w h = 11) : zR 62 77 [l0, l1, l2] (.inr (some h) :: st) w Q = zR 62 80 [l0, l1, l2] (.inr (zp w 76 h) :: st) w Q := zR_go (zst zT_62_77 (zget_r hk rfl))
theorem zT_62_80 : zT 62 80 = some (.iload_n 2, 1, 0, []) := by decide +kernel
theorem zr_62_80 {l0 l1 : Option zV} {x : Int} {st : List zV} {w : zW} {Q : Option zV → zW → Prop}  : zR 62 80 [l0, l1, some (.inl x)] st w Q = zR 62 81 [l0, l1, some (.inl x)] (.inl x :: st) w Q := zR_go (zst zT_62_80 rfl)
theorem zT_62_81 : zT 62 81 = some (.baload, 1, 0, []) := by decide +kernel
theorem zr_62_81 {l0 l1 l2 : Option zV} {j : Int} {h : Nat} {st : List zV} {w : zW} {Q : Option zV → zW → Prop} (hk : zk w h = zNC + 1 ∧ 0 ≤ zN j ∧ zN j < zl w h) : zR 62 81 [l0, l1, l2] (.inl j :: .inr (some h) :: st) w Q = zR 62 82 [l0, l1, l2] (.inl (za w h (zN j).toNat) :: st) w Q := zR_go (zst zT_62_81 (if_pos hk))
theorem zT_62_82 : zT 62 82 = some (.ifCond .ne 40, 3, 0, []) := by decide +kernel
theorem zr_62_82 {l0 l1 l2 : Option zV} {x : Int} {st : List zV} {w : zW} {Q : Option zV → zW → Prop}  : zR 62 82 [l0, l1, l2] (.inl x :: st) w Q = (if zN x ≠ 0 then zR 62 122 [l0, l1, l2] st w Q else zR 62 85 [l0, l1, l2] st w Q) := zR_if (zstB zT_62_82 rfl) (by simp [zcmp])
theorem zT_62_85 : zT 62 85 = some (.aload_n 0, 1, 0, []) := by decide +kernel
theorem zr_62_85 {l1 l2 : Option zV} {x : Option Nat} {st : List zV} {w : zW} {Q : Option zV → zW → Prop}  : zR 62 85 [some (.inr x), l1, l2] st w Q = zR 62 86 [some (.inr x), l1, l2] (.inr x :: st) w Q := zR_go (zst zT_62_85 rfl)
theorem zT_62_86 : zT 62 86 = some (.getfield 13, 3, 0, [(11, 2)]) := by decide +kernel
theorem zr_62_86 {l0 l1 l2 : Option zV} {h : Nat} {st : List zV} {w : zW} {Q : Option zV → zW → Prop} (hk : zk w h = 11) : zR 62 86 [l0, l1, l2] (.inr (some h) :: st) w Q = zR 62 89 [l0, l1, l2] (.inr (zp w 74 h) :: st) w Q := zR_go (zst zT_62_86 (zget_r hk rfl))
theorem zT_62_89 : zT 62 89 = some (.iload_n 2, 1, 0, []) := by decide +kernel
theorem zr_62_89 {l0 l1 : Option zV} {x : Int} {st : List zV} {w : zW} {Q : Option zV → zW → Prop}  : zR 62 89 [l0, l1, some (.inl x)] st w Q = zR 62 90 [l0, l1, some (.inl x)] (.inl x :: st) w Q := zR_go (zst zT_62_89 rfl)
theorem zT_62_90 : zT 62 90 = some (.iaload, 1, 0, []) := by decide +kernel
theorem zr_62_90 {l0 l1 l2 : Option zV} {j : Int} {h : Nat} {st : List zV} {w : zW} {Q : Option zV → zW → Prop} (hk : (zk w h = zNC ∨ zk w h = zNC + 2) ∧ 0 ≤ zN j ∧ zN j < zl w h) : zR 62 90 [l0, l1, l2] (.inl j :: .inr (some h) :: st) w Q = zR 62 91 [l0, l1, l2] (.inl (za w h (zN j).toNat) :: st) w Q := zR_go (zst zT_62_90 (if_pos hk))
theorem zT_62_91 : zT 62 91 = some (.aload_n 0, 1, 0, []) := by decide +kernel
theorem zr_62_91 {l1 l2 : Option zV} {x : Option Nat} {st : List zV} {w : zW} {Q : Option zV → zW → Prop}  : zR 62 91 [some (.inr x), l1, l2] st w Q = zR 62 92 [some (.inr x), l1, l2] (.inr x :: st) w Q := zR_go (zst zT_62_91 rfl)
theorem zT_62_92 : zT 62 92 = some (.getfield 89, 3, 0, [(11, 27)]) := by decide +kernel
theorem zr_62_92 {l0 l1 l2 : Option zV} {h : Nat} {st : List zV} {w : zW} {Q : Option zV → zW → Prop} (hk : zk w h = 11) : zR 62 92 [l0, l1, l2] (.inr (some h) :: st) w Q = zR 62 95 [l0, l1, l2] (.inr (zp w 99 h) :: st) w Q := zR_go (zst zT_62_92 (zget_r hk rfl))
theorem zT_62_95 : zT 62 95 = some (.iload_n 1, 1, 0, []) := by decide +kernel
theorem zr_62_95 {l0 l2 : Option zV} {x : Int} {st : List zV} {w : zW} {Q : Option zV → zW → Prop}  : zR 62 95 [l0, some (.inl x), l2] st w Q = zR 62 96 [l0, some (.inl x), l2] (.inl x :: st) w Q := zR_go (zst zT_62_95 rfl)
theorem zT_62_96 : zT 62 96 = some (.iaload, 1, 0, []) := by decide +kernel
theorem zr_62_96 {l0 l1 l2 : Option zV} {j : Int} {h : Nat} {st : List zV} {w : zW} {Q : Option zV → zW → Prop} (hk : (zk w h = zNC ∨ zk w h = zNC + 2) ∧ 0 ≤ zN j ∧ zN j < zl w h) : zR 62 96 [l0, l1, l2] (.inl j :: .inr (some h) :: st) w Q = zR 62 97 [l0, l1, l2] (.inl (za w h (zN j).toNat) :: st) w Q := zR_go (zst zT_62_96 (if_pos hk))
theorem zT_62_97 : zT 62 97 = some (.if_icmp .ne 25, 3, 0, []) := by decide +kernel
theorem zr_62_97 {l0 l1 l2 : Option zV} {x y : Int} {st : List zV} {w : zW} {Q : Option zV → zW → Prop}  : zR 62 97 [l0, l1, l2] (.inl y :: .inl x :: st) w Q = (if zN x ≠ zN y then zR 62 122 [l0, l1, l2] st w Q else zR 62 100 [l0, l1, l2] st w Q) := zR_if (zstB zT_62_97 rfl) (by simp [zcmp])
theorem zT_62_100 : zT 62 100 = some (.aload_n 0, 1, 0, []) := by decide +kernel
theorem zr_62_100 {l1 l2 : Option zV} {x : Option Nat} {st : List zV} {w : zW} {Q : Option zV → zW → Prop}  : zR 62 100 [some (.inr x), l1, l2] st w Q = zR 62 101 [some (.inr x), l1, l2] (.inr x :: st) w Q := zR_go (zst zT_62_100 rfl)
theorem zT_62_101 : zT 62 101 = some (.getfield 16, 3, 0, [(11, 3)]) := by decide +kernel
theorem zr_62_101 {l0 l1 l2 : Option zV} {h : Nat} {st : List zV} {w : zW} {Q : Option zV → zW → Prop} (hk : zk w h = 11) : zR 62 101 [l0, l1, l2] (.inr (some h) :: st) w Q = zR 62 104 [l0, l1, l2] (.inr (zp w 75 h) :: st) w Q := zR_go (zst zT_62_101 (zget_r hk rfl))
theorem zT_62_104 : zT 62 104 = some (.iload_n 2, 1, 0, []) := by decide +kernel
theorem zr_62_104 {l0 l1 : Option zV} {x : Int} {st : List zV} {w : zW} {Q : Option zV → zW → Prop}  : zR 62 104 [l0, l1, some (.inl x)] st w Q = zR 62 105 [l0, l1, some (.inl x)] (.inl x :: st) w Q := zR_go (zst zT_62_104 rfl)
theorem zT_62_105 : zT 62 105 = some (.bipush 16, 2, 0, []) := by decide +kernel
theorem zr_62_105 {l0 l1 l2 : Option zV} {st : List zV} {w : zW} {Q : Option zV → zW → Prop}  : zR 62 105 [l0, l1, l2] st w Q = zR 62 107 [l0, l1, l2] (.inl 16 :: st) w Q := zR_go (zst zT_62_105 rfl)
theorem zT_62_107 : zT 62 107 = some (.aload_n 0, 1, 0, []) := by decide +kernel
theorem zr_62_107 {l1 l2 : Option zV} {x : Option Nat} {st : List zV} {w : zW} {Q : Option zV → zW → Prop}  : zR 62 107 [some (.inr x), l1, l2] st w Q = zR 62 108 [some (.inr x), l1, l2] (.inr x :: st) w Q := zR_go (zst zT_62_107 rfl)
theorem zT_62_108 : zT 62 108 = some (.getfield 83, 3, 0, [(11, 25)]) := by decide +kernel
theorem zr_62_108 {l0 l1 l2 : Option zV} {h : Nat} {st : List zV} {w : zW} {Q : Option zV → zW → Prop} (hk : zk w h = 11) : zR 62 108 [l0, l1, l2] (.inr (some h) :: st) w Q = zR 62 111 [l0, l1, l2] (.inr (zp w 97 h) :: st) w Q := zR_go (zst zT_62_108 (zget_r hk rfl))
theorem zT_62_111 : zT 62 111 = some (.iload_n 1, 1, 0, []) := by decide +kernel
theorem zr_62_111 {l0 l2 : Option zV} {x : Int} {st : List zV} {w : zW} {Q : Option zV → zW → Prop}  : zR 62 111 [l0, some (.inl x), l2] st w Q = zR 62 112 [l0, some (.inl x), l2] (.inl x :: st) w Q := zR_go (zst zT_62_111 rfl)
theorem zT_62_112 : zT 62 112 = some (.iaload, 1, 0, []) := by decide +kernel
theorem zr_62_112 {l0 l1 l2 : Option zV} {j : Int} {h : Nat} {st : List zV} {w : zW} {Q : Option zV → zW → Prop} (hk : (zk w h = zNC ∨ zk w h = zNC + 2) ∧ 0 ≤ zN j ∧ zN j < zl w h) : zR 62 112 [l0, l1, l2] (.inl j :: .inr (some h) :: st) w Q = zR 62 113 [l0, l1, l2] (.inl (za w h (zN j).toNat) :: st) w Q := zR_go (zst zT_62_112 (if_pos hk))
theorem zT_62_113 : zT 62 113 = some (.iadd, 1, 0, []) := by decide +kernel
theorem zr_62_113 {l0 l1 l2 : Option zV} {x y : Int} {st : List zV} {w : zW} {Q : Option zV → zW → Prop}  : zR 62 113 [l0, l1, l2] (.inl y :: .inl x :: st) w Q = zR 62 114 [l0, l1, l2] (.inl (x + y) :: st) w Q := zR_go (zst zT_62_113 rfl)
theorem zT_62_114 : zT 62 114 = some (.iastore, 1, 0, []) := by decide +kernel
theorem zr_62_114 {l0 l1 l2 : Option zV} {j x : Int} {h : Nat} {st : List zV} {w : zW} {Q : Option zV → zW → Prop} (hk : zk w h = zNC ∧ 0 ≤ zN j ∧ zN j < zl w h) : zR 62 114 [l0, l1, l2] (.inl x :: .inl j :: .inr (some h) :: st) w Q = zR 62 115 [l0, l1, l2] st (zsa w h (zN j).toNat x) Q := zR_go (zst zT_62_114 (if_pos hk))
theorem zT_62_115 : zT 62 115 = some (.aload_n 0, 1, 0, []) := by decide +kernel
theorem zr_62_115 {l1 l2 : Option zV} {x : Option Nat} {st : List zV} {w : zW} {Q : Option zV → zW → Prop}  : zR 62 115 [some (.inr x), l1, l2] st w Q = zR 62 116 [some (.inr x), l1, l2] (.inr x :: st) w Q := zR_go (zst zT_62_115 rfl)
theorem zT_62_116 : zT 62 116 = some (.getfield 19, 3, 0, [(11, 4)]) := by decide +kernel
theorem zr_62_116 {l0 l1 l2 : Option zV} {h : Nat} {st : List zV} {w : zW} {Q : Option zV → zW → Prop} (hk : zk w h = 11) : zR 62 116 [l0, l1, l2] (.inr (some h) :: st) w Q = zR 62 119 [l0, l1, l2] (.inr (zp w 76 h) :: st) w Q := zR_go (zst zT_62_116 (zget_r hk rfl))
theorem zT_62_119 : zT 62 119 = some (.iload_n 2, 1, 0, []) := by decide +kernel
theorem zr_62_119 {l0 l1 : Option zV} {x : Int} {st : List zV} {w : zW} {Q : Option zV → zW → Prop}  : zR 62 119 [l0, l1, some (.inl x)] st w Q = zR 62 120 [l0, l1, some (.inl x)] (.inl x :: st) w Q := zR_go (zst zT_62_119 rfl)
theorem zT_62_120 : zT 62 120 = some (.iconst 1, 1, 0, []) := by decide +kernel
theorem zr_62_120 {l0 l1 l2 : Option zV} {st : List zV} {w : zW} {Q : Option zV → zW → Prop}  : zR 62 120 [l0, l1, l2] st w Q = zR 62 121 [l0, l1, l2] (.inl 1 :: st) w Q := zR_go (zst zT_62_120 rfl)
theorem zT_62_121 : zT 62 121 = some (.bastore, 1, 0, []) := by decide +kernel
theorem zr_62_121 {l0 l1 l2 : Option zV} {j x : Int} {h : Nat} {st : List zV} {w : zW} {Q : Option zV → zW → Prop} (hk : zk w h = zNC + 1 ∧ 0 ≤ zN j ∧ zN j < zl w h ∧ (zN x = 0 ∨ zN x = 1)) : zR 62 121 [l0, l1, l2] (.inl x :: .inl j :: .inr (some h) :: st) w Q = zR 62 122 [l0, l1, l2] st (zsa w h (zN j).toNat x) Q := zR_go (zst zT_62_121 (if_pos hk))
theorem zT_62_122 : zT 62 122 = some (.iinc 2 1, 3, 0, []) := by decide +kernel
theorem zr_62_122 {l0 l1 : Option zV} {x : Int} {st : List zV} {w : zW} {Q : Option zV → zW → Prop}  : zR 62 122 [l0, l1, some (.inl x)] st w Q = zR 62 125 [l0, l1, some (.inl (x + 1))] st w Q := zR_go (zst zT_62_122 rfl)
theorem zT_62_125 : zT 62 125 = some (.goto (-64), 3, 0, []) := by decide +kernel
theorem zr_62_125 {l0 l1 l2 : Option zV} {st : List zV} {w : zW} {Q : Option zV → zW → Prop}  : zR 62 125 [l0, l1, l2] st w Q = zR 62 61 [l0, l1, l2] st w Q := zR_go (zst zT_62_125 rfl)
theorem zT_62_128 : zT 62 128 = some (.aload_n 0, 1, 0, []) := by decide +kernel
theorem zr_62_128 {l1 l2 : Option zV} {x : Option Nat} {st : List zV} {w : zW} {Q : Option zV → zW → Prop}  : zR 62 128 [some (.inr x), l1, l2] st w Q = zR 62 129 [some (.inr x), l1, l2] (.inr x :: st) w Q := zR_go (zst zT_62_128 rfl)
theorem zT_62_129 : zT 62 129 = some (.getfield 86, 3, 0, [(11, 26)]) := by decide +kernel
theorem zr_62_129 {l0 l1 l2 : Option zV} {h : Nat} {st : List zV} {w : zW} {Q : Option zV → zW → Prop} (hk : zk w h = 11) : zR 62 129 [l0, l1, l2] (.inr (some h) :: st) w Q = zR 62 132 [l0, l1, l2] (.inr (zp w 98 h) :: st) w Q := zR_go (zst zT_62_129 (zget_r hk rfl))
theorem zT_62_132 : zT 62 132 = some (.bipush 16, 2, 0, []) := by decide +kernel
theorem zr_62_132 {l0 l1 l2 : Option zV} {st : List zV} {w : zW} {Q : Option zV → zW → Prop}  : zR 62 132 [l0, l1, l2] st w Q = zR 62 134 [l0, l1, l2] (.inl 16 :: st) w Q := zR_go (zst zT_62_132 rfl)
theorem zT_62_134 : zT 62 134 = some (.iload_n 1, 1, 0, []) := by decide +kernel
theorem zr_62_134 {l0 l2 : Option zV} {x : Int} {st : List zV} {w : zW} {Q : Option zV → zW → Prop}  : zR 62 134 [l0, some (.inl x), l2] st w Q = zR 62 135 [l0, some (.inl x), l2] (.inl x :: st) w Q := zR_go (zst zT_62_134 rfl)
theorem zT_62_135 : zT 62 135 = some (.imul, 1, 0, []) := by decide +kernel
theorem zr_62_135 {l0 l1 l2 : Option zV} {x y : Int} {st : List zV} {w : zW} {Q : Option zV → zW → Prop}  : zR 62 135 [l0, l1, l2] (.inl y :: .inl x :: st) w Q = zR 62 136 [l0, l1, l2] (.inl (x * y) :: st) w Q := zR_go (zst zT_62_135 rfl)
theorem zT_62_136 : zT 62 136 = some (.aload_n 0, 1, 0, []) := by decide +kernel
theorem zr_62_136 {l1 l2 : Option zV} {x : Option Nat} {st : List zV} {w : zW} {Q : Option zV → zW → Prop}  : zR 62 136 [some (.inr x), l1, l2] st w Q = zR 62 137 [some (.inr x), l1, l2] (.inr x :: st) w Q := zR_go (zst zT_62_136 rfl)
theorem zT_62_137 : zT 62 137 = some (.getfield 83, 3, 0, [(11, 25)]) := by decide +kernel
theorem zr_62_137 {l0 l1 l2 : Option zV} {h : Nat} {st : List zV} {w : zW} {Q : Option zV → zW → Prop} (hk : zk w h = 11) : zR 62 137 [l0, l1, l2] (.inr (some h) :: st) w Q = zR 62 140 [l0, l1, l2] (.inr (zp w 97 h) :: st) w Q := zR_go (zst zT_62_137 (zget_r hk rfl))
theorem zT_62_140 : zT 62 140 = some (.iload_n 1, 1, 0, []) := by decide +kernel
theorem zr_62_140 {l0 l2 : Option zV} {x : Int} {st : List zV} {w : zW} {Q : Option zV → zW → Prop}  : zR 62 140 [l0, some (.inl x), l2] st w Q = zR 62 141 [l0, some (.inl x), l2] (.inl x :: st) w Q := zR_go (zst zT_62_140 rfl)
theorem zT_62_141 : zT 62 141 = some (.iaload, 1, 0, []) := by decide +kernel
theorem zr_62_141 {l0 l1 l2 : Option zV} {j : Int} {h : Nat} {st : List zV} {w : zW} {Q : Option zV → zW → Prop} (hk : (zk w h = zNC ∨ zk w h = zNC + 2) ∧ 0 ≤ zN j ∧ zN j < zl w h) : zR 62 141 [l0, l1, l2] (.inl j :: .inr (some h) :: st) w Q = zR 62 142 [l0, l1, l2] (.inl (za w h (zN j).toNat) :: st) w Q := zR_go (zst zT_62_141 (if_pos hk))
theorem zT_62_142 : zT 62 142 = some (.iadd, 1, 0, []) := by decide +kernel
theorem zr_62_142 {l0 l1 l2 : Option zV} {x y : Int} {st : List zV} {w : zW} {Q : Option zV → zW → Prop}  : zR 62 142 [l0, l1, l2] (.inl y :: .inl x :: st) w Q = zR 62 143 [l0, l1, l2] (.inl (x + y) :: st) w Q := zR_go (zst zT_62_142 rfl)
theorem zT_62_143 : zT 62 143 = some (.aload_n 0, 1, 0, []) := by decide +kernel
theorem zr_62_143 {l1 l2 : Option zV} {x : Option Nat} {st : List zV} {w : zW} {Q : Option zV → zW → Prop}  : zR 62 143 [some (.inr x), l1, l2] st w Q = zR 62 144 [some (.inr x), l1, l2] (.inr x :: st) w Q := zR_go (zst zT_62_143 rfl)
theorem zT_62_144 : zT 62 144 = some (.getfield 89, 3, 0, [(11, 27)]) := by decide +kernel
theorem zr_62_144 {l0 l1 l2 : Option zV} {h : Nat} {st : List zV} {w : zW} {Q : Option zV → zW → Prop} (hk : zk w h = 11) : zR 62 144 [l0, l1, l2] (.inr (some h) :: st) w Q = zR 62 147 [l0, l1, l2] (.inr (zp w 99 h) :: st) w Q := zR_go (zst zT_62_144 (zget_r hk rfl))
theorem zT_62_147 : zT 62 147 = some (.iload_n 1, 1, 0, []) := by decide +kernel
theorem zr_62_147 {l0 l2 : Option zV} {x : Int} {st : List zV} {w : zW} {Q : Option zV → zW → Prop}  : zR 62 147 [l0, some (.inl x), l2] st w Q = zR 62 148 [l0, some (.inl x), l2] (.inl x :: st) w Q := zR_go (zst zT_62_147 rfl)
theorem zT_62_148 : zT 62 148 = some (.iaload, 1, 0, []) := by decide +kernel
theorem zr_62_148 {l0 l1 l2 : Option zV} {j : Int} {h : Nat} {st : List zV} {w : zW} {Q : Option zV → zW → Prop} (hk : (zk w h = zNC ∨ zk w h = zNC + 2) ∧ 0 ≤ zN j ∧ zN j < zl w h) : zR 62 148 [l0, l1, l2] (.inl j :: .inr (some h) :: st) w Q = zR 62 149 [l0, l1, l2] (.inl (za w h (zN j).toNat) :: st) w Q := zR_go (zst zT_62_148 (if_pos hk))
theorem zT_62_149 : zT 62 149 = some (.iastore, 1, 0, []) := by decide +kernel
theorem zr_62_149 {l0 l1 l2 : Option zV} {j x : Int} {h : Nat} {st : List zV} {w : zW} {Q : Option zV → zW → Prop} (hk : zk w h = zNC ∧ 0 ≤ zN j ∧ zN j < zl w h) : zR 62 149 [l0, l1, l2] (.inl x :: .inl j :: .inr (some h) :: st) w Q = zR 62 150 [l0, l1, l2] st (zsa w h (zN j).toNat x) Q := zR_go (zst zT_62_149 (if_pos hk))
theorem zT_62_150 : zT 62 150 = some (.aload_n 0, 1, 0, []) := by decide +kernel
theorem zr_62_150 {l1 l2 : Option zV} {x : Option Nat} {st : List zV} {w : zW} {Q : Option zV → zW → Prop}  : zR 62 150 [some (.inr x), l1, l2] st w Q = zR 62 151 [some (.inr x), l1, l2] (.inr x :: st) w Q := zR_go (zst zT_62_150 rfl)
theorem zT_62_151 : zT 62 151 = some (.getfield 83, 3, 0, [(11, 25)]) := by decide +kernel
theorem zr_62_151 {l0 l1 l2 : Option zV} {h : Nat} {st : List zV} {w : zW} {Q : Option zV → zW → Prop} (hk : zk w h = 11) : zR 62 151 [l0, l1, l2] (.inr (some h) :: st) w Q = zR 62 154 [l0, l1, l2] (.inr (zp w 97 h) :: st) w Q := zR_go (zst zT_62_151 (zget_r hk rfl))
theorem zT_62_154 : zT 62 154 = some (.iload_n 1, 1, 0, []) := by decide +kernel
theorem zr_62_154 {l0 l2 : Option zV} {x : Int} {st : List zV} {w : zW} {Q : Option zV → zW → Prop}  : zR 62 154 [l0, some (.inl x), l2] st w Q = zR 62 155 [l0, some (.inl x), l2] (.inl x :: st) w Q := zR_go (zst zT_62_154 rfl)
theorem zT_62_155 : zT 62 155 = some (.dup2, 1, 0, []) := by decide +kernel
theorem zr_62_155 {l0 l1 l2 : Option zV} {u v : zV} {st : List zV} {w : zW} {Q : Option zV → zW → Prop}  : zR 62 155 [l0, l1, l2] (v :: u :: st) w Q = zR 62 156 [l0, l1, l2] (v :: u :: v :: u :: st) w Q := zR_go (zst zT_62_155 rfl)
theorem zT_62_156 : zT 62 156 = some (.iaload, 1, 0, []) := by decide +kernel
theorem zr_62_156 {l0 l1 l2 : Option zV} {j : Int} {h : Nat} {st : List zV} {w : zW} {Q : Option zV → zW → Prop} (hk : (zk w h = zNC ∨ zk w h = zNC + 2) ∧ 0 ≤ zN j ∧ zN j < zl w h) : zR 62 156 [l0, l1, l2] (.inl j :: .inr (some h) :: st) w Q = zR 62 157 [l0, l1, l2] (.inl (za w h (zN j).toNat) :: st) w Q := zR_go (zst zT_62_156 (if_pos hk))
theorem zT_62_157 : zT 62 157 = some (.iconst 1, 1, 0, []) := by decide +kernel
theorem zr_62_157 {l0 l1 l2 : Option zV} {st : List zV} {w : zW} {Q : Option zV → zW → Prop}  : zR 62 157 [l0, l1, l2] st w Q = zR 62 158 [l0, l1, l2] (.inl 1 :: st) w Q := zR_go (zst zT_62_157 rfl)
theorem zT_62_158 : zT 62 158 = some (.iadd, 1, 0, []) := by decide +kernel
theorem zr_62_158 {l0 l1 l2 : Option zV} {x y : Int} {st : List zV} {w : zW} {Q : Option zV → zW → Prop}  : zR 62 158 [l0, l1, l2] (.inl y :: .inl x :: st) w Q = zR 62 159 [l0, l1, l2] (.inl (x + y) :: st) w Q := zR_go (zst zT_62_158 rfl)
theorem zT_62_159 : zT 62 159 = some (.iastore, 1, 0, []) := by decide +kernel
theorem zr_62_159 {l0 l1 l2 : Option zV} {j x : Int} {h : Nat} {st : List zV} {w : zW} {Q : Option zV → zW → Prop} (hk : zk w h = zNC ∧ 0 ≤ zN j ∧ zN j < zl w h) : zR 62 159 [l0, l1, l2] (.inl x :: .inl j :: .inr (some h) :: st) w Q = zR 62 160 [l0, l1, l2] st (zsa w h (zN j).toNat x) Q := zR_go (zst zT_62_159 (if_pos hk))
theorem zT_62_160 : zT 62 160 = some (.aload_n 0, 1, 0, []) := by decide +kernel
theorem zr_62_160 {l1 l2 : Option zV} {x : Option Nat} {st : List zV} {w : zW} {Q : Option zV → zW → Prop}  : zR 62 160 [some (.inr x), l1, l2] st w Q = zR 62 161 [some (.inr x), l1, l2] (.inr x :: st) w Q := zR_go (zst zT_62_160 rfl)
theorem zT_62_161 : zT 62 161 = some (.iload_n 1, 1, 0, []) := by decide +kernel
theorem zr_62_161 {l0 l2 : Option zV} {x : Int} {st : List zV} {w : zW} {Q : Option zV → zW → Prop}  : zR 62 161 [l0, some (.inl x), l2] st w Q = zR 62 162 [l0, some (.inl x), l2] (.inl x :: st) w Q := zR_go (zst zT_62_161 rfl)
theorem zT_62_162 : zT 62 162 = some (.iconst 1, 1, 0, []) := by decide +kernel
theorem zr_62_162 {l0 l1 l2 : Option zV} {st : List zV} {w : zW} {Q : Option zV → zW → Prop}  : zR 62 162 [l0, l1, l2] st w Q = zR 62 163 [l0, l1, l2] (.inl 1 :: st) w Q := zR_go (zst zT_62_162 rfl)
theorem zT_62_163 : zT 62 163 = some (.invokevirtual 252, 3, 2, [(11, 58)]) := by decide +kernel
theorem zr_62_163 {l0 l1 l2 : Option zV} {a0 a1 : zV} {h : Nat} {st : List zV} {w : zW} {Q : Option zV → zW → Prop} (hs : st.length ≤ 8) (hk : zk w h = 11) : zR 62 163 [l0, l1, l2] (a1 :: a0 :: .inr (some h) :: st) w Q = zR 58 0 [some (.inr (some h)), some a0, some a1] [] w (fun r w2 => zR 62 166 [l0, l1, l2] (r.toList ++ st) w2 Q) := zR_call (zst zT_62_163 (zcall_v [a1, a0] rfl hs hk rfl))
theorem zT_62_166 : zT 62 166 = some (.return_, 1, 0, []) := by decide +kernel
theorem zr_62_166 {l0 l1 l2 : Option zV} {w : zW} {Q : Option zV → zW → Prop} : zR 62 166 [l0, l1, l2] [] w Q = Q none w := zR_ret (zst zT_62_166 rfl)
theorem zT_63_0 : zT 63 0 = some (.iload_n 1, 1, 0, []) := by decide +kernel
theorem zr_63_0 {l0 l2 l3 : Option zV} {x : Int} {st : List zV} {w : zW} {Q : Option zV → zW → Prop}  : zR 63 0 [l0, some (.inl x), l2, l3] st w Q = zR 63 1 [l0, some (.inl x), l2, l3] (.inl x :: st) w Q := zR_go (zst zT_63_0 rfl)
theorem zT_63_1 : zT 63 1 = some (.ifCond .ne 8, 3, 0, []) := by decide +kernel
theorem zr_63_1 {l0 l1 l2 l3 : Option zV} {x : Int} {st : List zV} {w : zW} {Q : Option zV → zW → Prop}  : zR 63 1 [l0, l1, l2, l3] (.inl x :: st) w Q = (if zN x ≠ 0 then zR 63 9 [l0, l1, l2, l3] st w Q else zR 63 4 [l0, l1, l2, l3] st w Q) := zR_if (zstB zT_63_1 rfl) (by simp [zcmp])
theorem zT_63_4 : zT 63 4 = some (.bipush 9, 2, 0, []) := by decide +kernel
theorem zr_63_4 {l0 l1 l2 l3 : Option zV} {st : List zV} {w : zW} {Q : Option zV → zW → Prop}  : zR 63 4 [l0, l1, l2, l3] st w Q = zR 63 6 [l0, l1, l2, l3] (.inl 9 :: st) w Q := zR_go (zst zT_63_4 rfl)
theorem zT_63_6 : zT 63 6 = some (.goto 5, 3, 0, []) := by decide +kernel
theorem zr_63_6 {l0 l1 l2 l3 : Option zV} {st : List zV} {w : zW} {Q : Option zV → zW → Prop}  : zR 63 6 [l0, l1, l2, l3] st w Q = zR 63 11 [l0, l1, l2, l3] st w Q := zR_go (zst zT_63_6 rfl)
theorem zT_63_9 : zT 63 9 = some (.bipush 32, 2, 0, []) := by decide +kernel
theorem zr_63_9 {l0 l1 l2 l3 : Option zV} {st : List zV} {w : zW} {Q : Option zV → zW → Prop}  : zR 63 9 [l0, l1, l2, l3] st w Q = zR 63 11 [l0, l1, l2, l3] (.inl 32 :: st) w Q := zR_go (zst zT_63_9 rfl)
theorem zT_63_11 : zT 63 11 = some (.aload_n 0, 1, 0, []) := by decide +kernel
theorem zr_63_11 {l1 l2 l3 : Option zV} {x : Option Nat} {st : List zV} {w : zW} {Q : Option zV → zW → Prop}  : zR 63 11 [some (.inr x), l1, l2, l3] st w Q = zR 63 12 [some (.inr x), l1, l2, l3] (.inr x :: st) w Q := zR_go (zst zT_63_11 rfl)
theorem zT_63_12 : zT 63 12 = some (.getfield 77, 3, 0, [(11, 23)]) := by decide +kernel
theorem zr_63_12 {l0 l1 l2 l3 : Option zV} {h : Nat} {st : List zV} {w : zW} {Q : Option zV → zW → Prop} (hk : zk w h = 11) : zR 63 12 [l0, l1, l2, l3] (.inr (some h) :: st) w Q = zR 63 15 [l0, l1, l2, l3] (.inr (zp w 95 h) :: st) w Q := zR_go (zst zT_63_12 (zget_r hk rfl))
theorem zT_63_15 : zT 63 15 = some (.iload_n 1, 1, 0, []) := by decide +kernel
theorem zr_63_15 {l0 l2 l3 : Option zV} {x : Int} {st : List zV} {w : zW} {Q : Option zV → zW → Prop}  : zR 63 15 [l0, some (.inl x), l2, l3] st w Q = zR 63 16 [l0, some (.inl x), l2, l3] (.inl x :: st) w Q := zR_go (zst zT_63_15 rfl)
theorem zT_63_16 : zT 63 16 = some (.iaload, 1, 0, []) := by decide +kernel
theorem zr_63_16 {l0 l1 l2 l3 : Option zV} {j : Int} {h : Nat} {st : List zV} {w : zW} {Q : Option zV → zW → Prop} (hk : (zk w h = zNC ∨ zk w h = zNC + 2) ∧ 0 ≤ zN j ∧ zN j < zl w h) : zR 63 16 [l0, l1, l2, l3] (.inl j :: .inr (some h) :: st) w Q = zR 63 17 [l0, l1, l2, l3] (.inl (za w h (zN j).toNat) :: st) w Q := zR_go (zst zT_63_16 (if_pos hk))
theorem zT_63_17 : zT 63 17 = some (.iadd, 1, 0, []) := by decide +kernel
theorem zr_63_17 {l0 l1 l2 l3 : Option zV} {x y : Int} {st : List zV} {w : zW} {Q : Option zV → zW → Prop}  : zR 63 17 [l0, l1, l2, l3] (.inl y :: .inl x :: st) w Q = zR 63 18 [l0, l1, l2, l3] (.inl (x + y) :: st) w Q := zR_go (zst zT_63_17 rfl)
theorem zT_63_18 : zT 63 18 = some (.istore_n 2, 1, 0, []) := by decide +kernel
theorem zr_63_18 {l0 l1 l2 l3 : Option zV} {x : Int} {st : List zV} {w : zW} {Q : Option zV → zW → Prop}  : zR 63 18 [l0, l1, l2, l3] (.inl x :: st) w Q = zR 63 19 [l0, l1, some (.inl x), l3] st w Q := zR_go (zst zT_63_18 rfl)
theorem zT_63_19 : zT 63 19 = some (.aload_n 0, 1, 0, []) := by decide +kernel
theorem zr_63_19 {l1 l2 l3 : Option zV} {x : Option Nat} {st : List zV} {w : zW} {Q : Option zV → zW → Prop}  : zR 63 19 [some (.inr x), l1, l2, l3] st w Q = zR 63 20 [some (.inr x), l1, l2, l3] (.inr x :: st) w Q := zR_go (zst zT_63_19 rfl)
theorem zT_63_20 : zT 63 20 = some (.iconst 0, 1, 0, []) := by decide +kernel
theorem zr_63_20 {l0 l1 l2 l3 : Option zV} {st : List zV} {w : zW} {Q : Option zV → zW → Prop}  : zR 63 20 [l0, l1, l2, l3] st w Q = zR 63 21 [l0, l1, l2, l3] (.inl 0 :: st) w Q := zR_go (zst zT_63_20 rfl)
theorem zT_63_21 : zT 63 21 = some (.putfield 205, 3, 0, [(11, 32)]) := by decide +kernel
theorem zr_63_21 {l0 l1 l2 l3 : Option zV} {h : Nat} {x : Int} {st : List zV} {w : zW} {Q : Option zV → zW → Prop} (hk : zk w h = 11) : zR 63 21 [l0, l1, l2, l3] (.inl x :: .inr (some h) :: st) w Q = zR 63 24 [l0, l1, l2, l3] st (zsf w 104 h x) Q := zR_go (zst zT_63_21 (zput_i hk rfl))
theorem zT_63_24 : zT 63 24 = some (.aload_n 0, 1, 0, []) := by decide +kernel
theorem zr_63_24 {l1 l2 l3 : Option zV} {x : Option Nat} {st : List zV} {w : zW} {Q : Option zV → zW → Prop}  : zR 63 24 [some (.inr x), l1, l2, l3] st w Q = zR 63 25 [some (.inr x), l1, l2, l3] (.inr x :: st) w Q := zR_go (zst zT_63_24 rfl)
theorem zT_63_25 : zT 63 25 = some (.bipush 16, 2, 0, []) := by decide +kernel
theorem zr_63_25 {l0 l1 l2 l3 : Option zV} {st : List zV} {w : zW} {Q : Option zV → zW → Prop}  : zR 63 25 [l0, l1, l2, l3] st w Q = zR 63 27 [l0, l1, l2, l3] (.inl 16 :: st) w Q := zR_go (zst zT_63_25 rfl)
theorem zT_63_27 : zT 63 27 = some (.aload_n 0, 1, 0, []) := by decide +kernel
theorem zr_63_27 {l1 l2 l3 : Option zV} {x : Option Nat} {st : List zV} {w : zW} {Q : Option zV → zW → Prop}  : zR 63 27 [some (.inr x), l1, l2, l3] st w Q = zR 63 28 [some (.inr x), l1, l2, l3] (.inr x :: st) w Q := zR_go (zst zT_63_27 rfl)
theorem zT_63_28 : zT 63 28 = some (.getfield 77, 3, 0, [(11, 23)]) := by decide +kernel
theorem zr_63_28 {l0 l1 l2 l3 : Option zV} {h : Nat} {st : List zV} {w : zW} {Q : Option zV → zW → Prop} (hk : zk w h = 11) : zR 63 28 [l0, l1, l2, l3] (.inr (some h) :: st) w Q = zR 63 31 [l0, l1, l2, l3] (.inr (zp w 95 h) :: st) w Q := zR_go (zst zT_63_28 (zget_r hk rfl))
theorem zT_63_31 : zT 63 31 = some (.iload_n 1, 1, 0, []) := by decide +kernel
theorem zr_63_31 {l0 l2 l3 : Option zV} {x : Int} {st : List zV} {w : zW} {Q : Option zV → zW → Prop}  : zR 63 31 [l0, some (.inl x), l2, l3] st w Q = zR 63 32 [l0, some (.inl x), l2, l3] (.inl x :: st) w Q := zR_go (zst zT_63_31 rfl)
theorem zT_63_32 : zT 63 32 = some (.iaload, 1, 0, []) := by decide +kernel
theorem zr_63_32 {l0 l1 l2 l3 : Option zV} {j : Int} {h : Nat} {st : List zV} {w : zW} {Q : Option zV → zW → Prop} (hk : (zk w h = zNC ∨ zk w h = zNC + 2) ∧ 0 ≤ zN j ∧ zN j < zl w h) : zR 63 32 [l0, l1, l2, l3] (.inl j :: .inr (some h) :: st) w Q = zR 63 33 [l0, l1, l2, l3] (.inl (za w h (zN j).toNat) :: st) w Q := zR_go (zst zT_63_32 (if_pos hk))
theorem zT_63_33 : zT 63 33 = some (.iadd, 1, 0, []) := by decide +kernel
theorem zr_63_33 {l0 l1 l2 l3 : Option zV} {x y : Int} {st : List zV} {w : zW} {Q : Option zV → zW → Prop}  : zR 63 33 [l0, l1, l2, l3] (.inl y :: .inl x :: st) w Q = zR 63 34 [l0, l1, l2, l3] (.inl (x + y) :: st) w Q := zR_go (zst zT_63_33 rfl)
theorem zT_63_34 : zT 63 34 = some (.invokevirtual 214, 3, 1, [(11, 47)]) := by decide +kernel
theorem zr_63_34 {l0 l1 l2 l3 : Option zV} {a0 : zV} {h : Nat} {st : List zV} {w : zW} {Q : Option zV → zW → Prop} (hs : st.length ≤ 8) (hk : zk w h = 11) : zR 63 34 [l0, l1, l2, l3] (a0 :: .inr (some h) :: st) w Q = zR 47 0 [some (.inr (some h)), some a0] [] w (fun r w2 => zR 63 37 [l0, l1, l2, l3] (r.toList ++ st) w2 Q) := zR_call (zst zT_63_34 (zcall_v [a0] rfl hs hk rfl))
theorem zT_63_37 : zT 63 37 = some (.aload_n 0, 1, 0, []) := by decide +kernel
theorem zr_63_37 {l1 l2 l3 : Option zV} {x : Option Nat} {st : List zV} {w : zW} {Q : Option zV → zW → Prop}  : zR 63 37 [some (.inr x), l1, l2, l3] st w Q = zR 63 38 [some (.inr x), l1, l2, l3] (.inr x :: st) w Q := zR_go (zst zT_63_37 rfl)
theorem zT_63_38 : zT 63 38 = some (.iload_n 2, 1, 0, []) := by decide +kernel
theorem zr_63_38 {l0 l1 l3 : Option zV} {x : Int} {st : List zV} {w : zW} {Q : Option zV → zW → Prop}  : zR 63 38 [l0, l1, some (.inl x), l3] st w Q = zR 63 39 [l0, l1, some (.inl x), l3] (.inl x :: st) w Q := zR_go (zst zT_63_38 rfl)
theorem zT_63_39 : zT 63 39 = some (.invokevirtual 214, 3, 1, [(11, 47)]) := by decide +kernel
theorem zr_63_39 {l0 l1 l2 l3 : Option zV} {a0 : zV} {h : Nat} {st : List zV} {w : zW} {Q : Option zV → zW → Prop} (hs : st.length ≤ 8) (hk : zk w h = 11) : zR 63 39 [l0, l1, l2, l3] (a0 :: .inr (some h) :: st) w Q = zR 47 0 [some (.inr (some h)), some a0] [] w (fun r w2 => zR 63 42 [l0, l1, l2, l3] (r.toList ++ st) w2 Q) := zR_call (zst zT_63_39 (zcall_v [a0] rfl hs hk rfl))
theorem zT_63_42 : zT 63 42 = some (.aload_n 0, 1, 0, []) := by decide +kernel
theorem zr_63_42 {l1 l2 l3 : Option zV} {x : Option Nat} {st : List zV} {w : zW} {Q : Option zV → zW → Prop}  : zR 63 42 [some (.inr x), l1, l2, l3] st w Q = zR 63 43 [some (.inr x), l1, l2, l3] (.inr x :: st) w Q := zR_go (zst zT_63_42 rfl)
theorem zT_63_43 : zT 63 43 = some (.invokevirtual 220, 3, 0, [(11, 50)]) := by decide +kernel
theorem zr_63_43 {l0 l1 l2 l3 : Option zV} {h : Nat} {st : List zV} {w : zW} {Q : Option zV → zW → Prop} (hs : st.length ≤ 8) (hk : zk w h = 11) : zR 63 43 [l0, l1, l2, l3] (.inr (some h) :: st) w Q = zR 50 0 [some (.inr (some h)), none] [] w (fun r w2 => zR 63 46 [l0, l1, l2, l3] (r.toList ++ st) w2 Q) := zR_call (zst zT_63_43 (zcall_v [] rfl hs hk rfl))
theorem zT_63_46 : zT 63 46 = some (.aload_n 0, 1, 0, []) := by decide +kernel
theorem zr_63_46 {l1 l2 l3 : Option zV} {x : Option Nat} {st : List zV} {w : zW} {Q : Option zV → zW → Prop}  : zR 63 46 [some (.inr x), l1, l2, l3] st w Q = zR 63 47 [some (.inr x), l1, l2, l3] (.inr x :: st) w Q := zR_go (zst zT_63_46 rfl)
theorem zT_63_47 : zT 63 47 = some (.iload_n 1, 1, 0, []) := by decide +kernel
theorem zr_63_47 {l0 l2 l3 : Option zV} {x : Int} {st : List zV} {w : zW} {Q : Option zV → zW → Prop}  : zR 63 47 [l0, some (.inl x), l2, l3] st w Q = zR 63 48 [l0, some (.inl x), l2, l3] (.inl x :: st) w Q := zR_go (zst zT_63_47 rfl)
theorem zT_63_48 : zT 63 48 = some (.invokevirtual 264, 3, 1, [(11, 59)]) := by decide +kernel
theorem zr_63_48 {l0 l1 l2 l3 : Option zV} {a0 : zV} {h : Nat} {st : List zV} {w : zW} {Q : Option zV → zW → Prop} (hs : st.length ≤ 8) (hk : zk w h = 11) : zR 63 48 [l0, l1, l2, l3] (a0 :: .inr (some h) :: st) w Q = zR 59 0 [some (.inr (some h)), some a0] [] w (fun r w2 => zR 63 51 [l0, l1, l2, l3] (r.toList ++ st) w2 Q) := zR_call (zst zT_63_48 (zcall_v [a0] rfl hs hk rfl))
theorem zT_63_51 : zT 63 51 = some (.ifCond .ne 4, 3, 0, []) := by decide +kernel
theorem zr_63_51 {l0 l1 l2 l3 : Option zV} {x : Int} {st : List zV} {w : zW} {Q : Option zV → zW → Prop}  : zR 63 51 [l0, l1, l2, l3] (.inl x :: st) w Q = (if zN x ≠ 0 then zR 63 55 [l0, l1, l2, l3] st w Q else zR 63 54 [l0, l1, l2, l3] st w Q) := zR_if (zstB zT_63_51 rfl) (by simp [zcmp])
theorem zT_63_54 : zT 63 54 = some (.return_, 1, 0, []) := by decide +kernel
theorem zr_63_54 {l0 l1 l2 l3 : Option zV} {w : zW} {Q : Option zV → zW → Prop} : zR 63 54 [l0, l1, l2, l3] [] w Q = Q none w := zR_ret (zst zT_63_54 rfl)
theorem zT_63_55 : zT 63 55 = some (.iconst 0, 1, 0, []) := by decide +kernel
theorem zr_63_55 {l0 l1 l2 l3 : Option zV} {st : List zV} {w : zW} {Q : Option zV → zW → Prop}  : zR 63 55 [l0, l1, l2, l3] st w Q = zR 63 56 [l0, l1, l2, l3] (.inl 0 :: st) w Q := zR_go (zst zT_63_55 rfl)
theorem zT_63_56 : zT 63 56 = some (.istore_n 3, 1, 0, []) := by decide +kernel
theorem zr_63_56 {l0 l1 l2 l3 : Option zV} {x : Int} {st : List zV} {w : zW} {Q : Option zV → zW → Prop}  : zR 63 56 [l0, l1, l2, l3] (.inl x :: st) w Q = zR 63 57 [l0, l1, l2, some (.inl x)] st w Q := zR_go (zst zT_63_56 rfl)
theorem zT_63_57 : zT 63 57 = some (.iload_n 3, 1, 0, []) := by decide +kernel
theorem zr_63_57 {l0 l1 l2 : Option zV} {x : Int} {st : List zV} {w : zW} {Q : Option zV → zW → Prop}  : zR 63 57 [l0, l1, l2, some (.inl x)] st w Q = zR 63 58 [l0, l1, l2, some (.inl x)] (.inl x :: st) w Q := zR_go (zst zT_63_57 rfl)
theorem zT_63_58 : zT 63 58 = some (.bipush 8, 2, 0, []) := by decide +kernel
theorem zr_63_58 {l0 l1 l2 l3 : Option zV} {st : List zV} {w : zW} {Q : Option zV → zW → Prop}  : zR 63 58 [l0, l1, l2, l3] st w Q = zR 63 60 [l0, l1, l2, l3] (.inl 8 :: st) w Q := zR_go (zst zT_63_58 rfl)
theorem zT_63_60 : zT 63 60 = some (.if_icmp .ge 46, 3, 0, []) := by decide +kernel
theorem zr_63_60 {l0 l1 l2 l3 : Option zV} {x y : Int} {st : List zV} {w : zW} {Q : Option zV → zW → Prop}  : zR 63 60 [l0, l1, l2, l3] (.inl y :: .inl x :: st) w Q = (if zN y ≤ zN x then zR 63 106 [l0, l1, l2, l3] st w Q else zR 63 63 [l0, l1, l2, l3] st w Q) := zR_if (zstB zT_63_60 rfl) (by simp [zcmp])
theorem zT_63_63 : zT 63 63 = some (.aload_n 0, 1, 0, []) := by decide +kernel
theorem zr_63_63 {l1 l2 l3 : Option zV} {x : Option Nat} {st : List zV} {w : zW} {Q : Option zV → zW → Prop}  : zR 63 63 [some (.inr x), l1, l2, l3] st w Q = zR 63 64 [some (.inr x), l1, l2, l3] (.inr x :: st) w Q := zR_go (zst zT_63_63 rfl)
theorem zT_63_64 : zT 63 64 = some (.iload_n 3, 1, 0, []) := by decide +kernel
theorem zr_63_64 {l0 l1 l2 : Option zV} {x : Int} {st : List zV} {w : zW} {Q : Option zV → zW → Prop}  : zR 63 64 [l0, l1, l2, some (.inl x)] st w Q = zR 63 65 [l0, l1, l2, some (.inl x)] (.inl x :: st) w Q := zR_go (zst zT_63_64 rfl)
theorem zT_63_65 : zT 63 65 = some (.iload_n 1, 1, 0, []) := by decide +kernel
theorem zr_63_65 {l0 l2 l3 : Option zV} {x : Int} {st : List zV} {w : zW} {Q : Option zV → zW → Prop}  : zR 63 65 [l0, some (.inl x), l2, l3] st w Q = zR 63 66 [l0, some (.inl x), l2, l3] (.inl x :: st) w Q := zR_go (zst zT_63_65 rfl)
theorem zT_63_66 : zT 63 66 = some (.invokevirtual 248, 3, 2, [(11, 56)]) := by decide +kernel
theorem zr_63_66 {l0 l1 l2 l3 : Option zV} {a0 a1 : zV} {h : Nat} {st : List zV} {w : zW} {Q : Option zV → zW → Prop} (hs : st.length ≤ 8) (hk : zk w h = 11) : zR 63 66 [l0, l1, l2, l3] (a1 :: a0 :: .inr (some h) :: st) w Q = zR 56 0 [some (.inr (some h)), some a0, some a1] [] w (fun r w2 => zR 63 69 [l0, l1, l2, l3] (r.toList ++ st) w2 Q) := zR_call (zst zT_63_66 (zcall_v [a1, a0] rfl hs hk rfl))
theorem zT_63_69 : zT 63 69 = some (.ifCond .eq 31, 3, 0, []) := by decide +kernel
theorem zr_63_69 {l0 l1 l2 l3 : Option zV} {x : Int} {st : List zV} {w : zW} {Q : Option zV → zW → Prop}  : zR 63 69 [l0, l1, l2, l3] (.inl x :: st) w Q = (if zN x = 0 then zR 63 100 [l0, l1, l2, l3] st w Q else zR 63 72 [l0, l1, l2, l3] st w Q) := zR_if (zstB zT_63_69 rfl) (by simp [zcmp])
theorem zT_63_72 : zT 63 72 = some (.aload_n 0, 1, 0, []) := by decide +kernel
theorem zr_63_72 {l1 l2 l3 : Option zV} {x : Option Nat} {st : List zV} {w : zW} {Q : Option zV → zW → Prop}  : zR 63 72 [some (.inr x), l1, l2, l3] st w Q = zR 63 73 [some (.inr x), l1, l2, l3] (.inr x :: st) w Q := zR_go (zst zT_63_72 rfl)
theorem zT_63_73 : zT 63 73 = some (.getfield 16, 3, 0, [(11, 3)]) := by decide +kernel
theorem zr_63_73 {l0 l1 l2 l3 : Option zV} {h : Nat} {st : List zV} {w : zW} {Q : Option zV → zW → Prop} (hk : zk w h = 11) : zR 63 73 [l0, l1, l2, l3] (.inr (some h) :: st) w Q = zR 63 76 [l0, l1, l2, l3] (.inr (zp w 75 h) :: st) w Q := zR_go (zst zT_63_73 (zget_r hk rfl))
theorem zT_63_76 : zT 63 76 = some (.iload_n 3, 1, 0, []) := by decide +kernel
theorem zr_63_76 {l0 l1 l2 : Option zV} {x : Int} {st : List zV} {w : zW} {Q : Option zV → zW → Prop}  : zR 63 76 [l0, l1, l2, some (.inl x)] st w Q = zR 63 77 [l0, l1, l2, some (.inl x)] (.inl x :: st) w Q := zR_go (zst zT_63_76 rfl)
theorem zT_63_77 : zT 63 77 = some (.iaload, 1, 0, []) := by decide +kernel
theorem zr_63_77 {l0 l1 l2 l3 : Option zV} {j : Int} {h : Nat} {st : List zV} {w : zW} {Q : Option zV → zW → Prop} (hk : (zk w h = zNC ∨ zk w h = zNC + 2) ∧ 0 ≤ zN j ∧ zN j < zl w h) : zR 63 77 [l0, l1, l2, l3] (.inl j :: .inr (some h) :: st) w Q = zR 63 78 [l0, l1, l2, l3] (.inl (za w h (zN j).toNat) :: st) w Q := zR_go (zst zT_63_77 (if_pos hk))
theorem zT_63_78 : zT 63 78 = some (.bipush 16, 2, 0, []) := by decide +kernel
theorem zr_63_78 {l0 l1 l2 l3 : Option zV} {st : List zV} {w : zW} {Q : Option zV → zW → Prop}  : zR 63 78 [l0, l1, l2, l3] st w Q = zR 63 80 [l0, l1, l2, l3] (.inl 16 :: st) w Q := zR_go (zst zT_63_78 rfl)
theorem zT_63_80 : zT 63 80 = some (.aload_n 0, 1, 0, []) := by decide +kernel
theorem zr_63_80 {l1 l2 l3 : Option zV} {x : Option Nat} {st : List zV} {w : zW} {Q : Option zV → zW → Prop}  : zR 63 80 [some (.inr x), l1, l2, l3] st w Q = zR 63 81 [some (.inr x), l1, l2, l3] (.inr x :: st) w Q := zR_go (zst zT_63_80 rfl)
theorem zT_63_81 : zT 63 81 = some (.getfield 77, 3, 0, [(11, 23)]) := by decide +kernel
theorem zr_63_81 {l0 l1 l2 l3 : Option zV} {h : Nat} {st : List zV} {w : zW} {Q : Option zV → zW → Prop} (hk : zk w h = 11) : zR 63 81 [l0, l1, l2, l3] (.inr (some h) :: st) w Q = zR 63 84 [l0, l1, l2, l3] (.inr (zp w 95 h) :: st) w Q := zR_go (zst zT_63_81 (zget_r hk rfl))
theorem zT_63_84 : zT 63 84 = some (.iload_n 1, 1, 0, []) := by decide +kernel
theorem zr_63_84 {l0 l2 l3 : Option zV} {x : Int} {st : List zV} {w : zW} {Q : Option zV → zW → Prop}  : zR 63 84 [l0, some (.inl x), l2, l3] st w Q = zR 63 85 [l0, some (.inl x), l2, l3] (.inl x :: st) w Q := zR_go (zst zT_63_84 rfl)
theorem zT_63_85 : zT 63 85 = some (.iaload, 1, 0, []) := by decide +kernel
theorem zr_63_85 {l0 l1 l2 l3 : Option zV} {j : Int} {h : Nat} {st : List zV} {w : zW} {Q : Option zV → zW → Prop} (hk : (zk w h = zNC ∨ zk w h = zNC + 2) ∧ 0 ≤ zN j ∧ zN j < zl w h) : zR 63 85 [l0, l1, l2, l3] (.inl j :: .inr (some h) :: st) w Q = zR 63 86 [l0, l1, l2, l3] (.inl (za w h (zN j).toNat) :: st) w Q := zR_go (zst zT_63_85 (if_pos hk))
theorem zT_63_86 : zT 63 86 = some (.iadd, 1, 0, []) := by decide +kernel
theorem zr_63_86 {l0 l1 l2 l3 : Option zV} {x y : Int} {st : List zV} {w : zW} {Q : Option zV → zW → Prop}  : zR 63 86 [l0, l1, l2, l3] (.inl y :: .inl x :: st) w Q = zR 63 87 [l0, l1, l2, l3] (.inl (x + y) :: st) w Q := zR_go (zst zT_63_86 rfl)
theorem zT_63_87 : zT 63 87 = some (.if_icmp .ne 13, 3, 0, []) := by decide +kernel
theorem zr_63_87 {l0 l1 l2 l3 : Option zV} {x y : Int} {st : List zV} {w : zW} {Q : Option zV → zW → Prop}  : zR 63 87 [l0, l1, l2, l3] (.inl y :: .inl x :: st) w Q = (if zN x ≠ zN y then zR 63 100 [l0, l1, l2, l3] st w Q else zR 63 90 [l0, l1, l2, l3] st w Q) := zR_if (zstB zT_63_87 rfl) (by simp [zcmp])
theorem zT_63_90 : zT 63 90 = some (.aload_n 0, 1, 0, []) := by decide +kernel
theorem zr_63_90 {l1 l2 l3 : Option zV} {x : Option Nat} {st : List zV} {w : zW} {Q : Option zV → zW → Prop}  : zR 63 90 [some (.inr x), l1, l2, l3] st w Q = zR 63 91 [some (.inr x), l1, l2, l3] (.inr x :: st) w Q := zR_go (zst zT_63_90 rfl)
theorem zT_63_91 : zT 63 91 = some (.getfield 32, 3, 0, [(11, 8)]) := by decide +kernel
theorem zr_63_91 {l0 l1 l2 l3 : Option zV} {h : Nat} {st : List zV} {w : zW} {Q : Option zV → zW → Prop} (hk : zk w h = 11) : zR 63 91 [l0, l1, l2, l3] (.inr (some h) :: st) w Q = zR 63 94 [l0, l1, l2, l3] (.inr (zp w 80 h) :: st) w Q := zR_go (zst zT_63_91 (zget_r hk rfl))
theorem zT_63_94 : zT 63 94 = some (.iload_n 3, 1, 0, []) := by decide +kernel
theorem zr_63_94 {l0 l1 l2 : Option zV} {x : Int} {st : List zV} {w : zW} {Q : Option zV → zW → Prop}  : zR 63 94 [l0, l1, l2, some (.inl x)] st w Q = zR 63 95 [l0, l1, l2, some (.inl x)] (.inl x :: st) w Q := zR_go (zst zT_63_94 rfl)
theorem zT_63_95 : zT 63 95 = some (.invokestatic 196, 3, 1, [(25, 1)]) := by decide +kernel
theorem zr_63_95 {l0 l1 l2 l3 : Option zV} {a0 : zV} {st : List zV} {w : zW} {Q : Option zV → zW → Prop} (hs : st.length ≤ 8) : zR 63 95 [l0, l1, l2, l3] (a0 :: st) w Q = zR 25 0 [some a0] [] w (fun r w2 => zR 63 98 [l0, l1, l2, l3] (r.toList ++ st) w2 Q) := zR_call (zst zT_63_95 ((zcall_s (z := 1) (pc := 95) (j := 25) (ls := [l0, l1, l2, l3]) (w := w) [a0] rfl hs : zi_static 1 [(25, 1)] 95 [l0, l1, l2, l3] ([a0] ++ st) w = _)))
theorem zT_63_98 : zT 63 98 = some (.iload_n 2, 1, 0, []) := by decide +kernel
theorem zr_63_98 {l0 l1 l3 : Option zV} {x : Int} {st : List zV} {w : zW} {Q : Option zV → zW → Prop}  : zR 63 98 [l0, l1, some (.inl x), l3] st w Q = zR 63 99 [l0, l1, some (.inl x), l3] (.inl x :: st) w Q := zR_go (zst zT_63_98 rfl)
theorem zT_63_99 : zT 63 99 = some (.iastore, 1, 0, []) := by decide +kernel
theorem zr_63_99 {l0 l1 l2 l3 : Option zV} {j x : Int} {h : Nat} {st : List zV} {w : zW} {Q : Option zV → zW → Prop} (hk : zk w h = zNC ∧ 0 ≤ zN j ∧ zN j < zl w h) : zR 63 99 [l0, l1, l2, l3] (.inl x :: .inl j :: .inr (some h) :: st) w Q = zR 63 100 [l0, l1, l2, l3] st (zsa w h (zN j).toNat x) Q := zR_go (zst zT_63_99 (if_pos hk))
theorem zT_63_100 : zT 63 100 = some (.iinc 3 1, 3, 0, []) := by decide +kernel
theorem zr_63_100 {l0 l1 l2 : Option zV} {x : Int} {st : List zV} {w : zW} {Q : Option zV → zW → Prop}  : zR 63 100 [l0, l1, l2, some (.inl x)] st w Q = zR 63 103 [l0, l1, l2, some (.inl (x + 1))] st w Q := zR_go (zst zT_63_100 rfl)
theorem zT_63_103 : zT 63 103 = some (.goto (-46), 3, 0, []) := by decide +kernel
theorem zr_63_103 {l0 l1 l2 l3 : Option zV} {st : List zV} {w : zW} {Q : Option zV → zW → Prop}  : zR 63 103 [l0, l1, l2, l3] st w Q = zR 63 57 [l0, l1, l2, l3] st w Q := zR_go (zst zT_63_103 rfl)
theorem zT_63_106 : zT 63 106 = some (.aload_n 0, 1, 0, []) := by decide +kernel
theorem zr_63_106 {l1 l2 l3 : Option zV} {x : Option Nat} {st : List zV} {w : zW} {Q : Option zV → zW → Prop}  : zR 63 106 [some (.inr x), l1, l2, l3] st w Q = zR 63 107 [some (.inr x), l1, l2, l3] (.inr x :: st) w Q := zR_go (zst zT_63_106 rfl)
theorem zT_63_107 : zT 63 107 = some (.getfield 77, 3, 0, [(11, 23)]) := by decide +kernel
theorem zr_63_107 {l0 l1 l2 l3 : Option zV} {h : Nat} {st : List zV} {w : zW} {Q : Option zV → zW → Prop} (hk : zk w h = 11) : zR 63 107 [l0, l1, l2, l3] (.inr (some h) :: st) w Q = zR 63 110 [l0, l1, l2, l3] (.inr (zp w 95 h) :: st) w Q := zR_go (zst zT_63_107 (zget_r hk rfl))
theorem zT_63_110 : zT 63 110 = some (.iload_n 1, 1, 0, []) := by decide +kernel
theorem zr_63_110 {l0 l2 l3 : Option zV} {x : Int} {st : List zV} {w : zW} {Q : Option zV → zW → Prop}  : zR 63 110 [l0, some (.inl x), l2, l3] st w Q = zR 63 111 [l0, some (.inl x), l2, l3] (.inl x :: st) w Q := zR_go (zst zT_63_110 rfl)
theorem zT_63_111 : zT 63 111 = some (.iaload, 1, 0, []) := by decide +kernel
theorem zr_63_111 {l0 l1 l2 l3 : Option zV} {j : Int} {h : Nat} {st : List zV} {w : zW} {Q : Option zV → zW → Prop} (hk : (zk w h = zNC ∨ zk w h = zNC + 2) ∧ 0 ≤ zN j ∧ zN j < zl w h) : zR 63 111 [l0, l1, l2, l3] (.inl j :: .inr (some h) :: st) w Q = zR 63 112 [l0, l1, l2, l3] (.inl (za w h (zN j).toNat) :: st) w Q := zR_go (zst zT_63_111 (if_pos hk))
theorem zT_63_112 : zT 63 112 = some (.iconst 1, 1, 0, []) := by decide +kernel
theorem zr_63_112 {l0 l1 l2 l3 : Option zV} {st : List zV} {w : zW} {Q : Option zV → zW → Prop}  : zR 63 112 [l0, l1, l2, l3] st w Q = zR 63 113 [l0, l1, l2, l3] (.inl 1 :: st) w Q := zR_go (zst zT_63_112 rfl)
theorem zT_63_113 : zT 63 113 = some (.iadd, 1, 0, []) := by decide +kernel
theorem zr_63_113 {l0 l1 l2 l3 : Option zV} {x y : Int} {st : List zV} {w : zW} {Q : Option zV → zW → Prop}  : zR 63 113 [l0, l1, l2, l3] (.inl y :: .inl x :: st) w Q = zR 63 114 [l0, l1, l2, l3] (.inl (x + y) :: st) w Q := zR_go (zst zT_63_113 rfl)
theorem zT_63_114 : zT 63 114 = some (.aload_n 0, 1, 0, []) := by decide +kernel
theorem zr_63_114 {l1 l2 l3 : Option zV} {x : Option Nat} {st : List zV} {w : zW} {Q : Option zV → zW → Prop}  : zR 63 114 [some (.inr x), l1, l2, l3] st w Q = zR 63 115 [some (.inr x), l1, l2, l3] (.inr x :: st) w Q := zR_go (zst zT_63_114 rfl)
theorem zT_63_115 : zT 63 115 = some (.getfield 83, 3, 0, [(11, 25)]) := by decide +kernel
theorem zr_63_115 {l0 l1 l2 l3 : Option zV} {h : Nat} {st : List zV} {w : zW} {Q : Option zV → zW → Prop} (hk : zk w h = 11) : zR 63 115 [l0, l1, l2, l3] (.inr (some h) :: st) w Q = zR 63 118 [l0, l1, l2, l3] (.inr (zp w 97 h) :: st) w Q := zR_go (zst zT_63_115 (zget_r hk rfl))
theorem zT_63_118 : zT 63 118 = some (.iload_n 1, 1, 0, []) := by decide +kernel
theorem zr_63_118 {l0 l2 l3 : Option zV} {x : Int} {st : List zV} {w : zW} {Q : Option zV → zW → Prop}  : zR 63 118 [l0, some (.inl x), l2, l3] st w Q = zR 63 119 [l0, some (.inl x), l2, l3] (.inl x :: st) w Q := zR_go (zst zT_63_118 rfl)
theorem zT_63_119 : zT 63 119 = some (.iaload, 1, 0, []) := by decide +kernel
theorem zr_63_119 {l0 l1 l2 l3 : Option zV} {j : Int} {h : Nat} {st : List zV} {w : zW} {Q : Option zV → zW → Prop} (hk : (zk w h = zNC ∨ zk w h = zNC + 2) ∧ 0 ≤ zN j ∧ zN j < zl w h) : zR 63 119 [l0, l1, l2, l3] (.inl j :: .inr (some h) :: st) w Q = zR 63 120 [l0, l1, l2, l3] (.inl (za w h (zN j).toNat) :: st) w Q := zR_go (zst zT_63_119 (if_pos hk))
theorem zT_63_120 : zT 63 120 = some (.if_icmp .ne 12, 3, 0, []) := by decide +kernel
theorem zr_63_120 {l0 l1 l2 l3 : Option zV} {x y : Int} {st : List zV} {w : zW} {Q : Option zV → zW → Prop}  : zR 63 120 [l0, l1, l2, l3] (.inl y :: .inl x :: st) w Q = (if zN x ≠ zN y then zR 63 132 [l0, l1, l2, l3] st w Q else zR 63 123 [l0, l1, l2, l3] st w Q) := zR_if (zstB zT_63_120 rfl) (by simp [zcmp])
theorem zT_63_123 : zT 63 123 = some (.aload_n 0, 1, 0, []) := by decide +kernel
theorem zr_63_123 {l1 l2 l3 : Option zV} {x : Option Nat} {st : List zV} {w : zW} {Q : Option zV → zW → Prop}  : zR 63 123 [some (.inr x), l1, l2, l3] st w Q = zR 63 124 [some (.inr x), l1, l2, l3] (.inr x :: st) w Q := zR_go (zst zT_63_123 rfl)
theorem zT_63_124 : zT 63 124 = some (.iload_n 1, 1, 0, []) := by decide +kernel
theorem zr_63_124 {l0 l2 l3 : Option zV} {x : Int} {st : List zV} {w : zW} {Q : Option zV → zW → Prop}  : zR 63 124 [l0, some (.inl x), l2, l3] st w Q = zR 63 125 [l0, some (.inl x), l2, l3] (.inl x :: st) w Q := zR_go (zst zT_63_124 rfl)
theorem zT_63_125 : zT 63 125 = some (.iconst 2, 1, 0, []) := by decide +kernel
theorem zr_63_125 {l0 l1 l2 l3 : Option zV} {st : List zV} {w : zW} {Q : Option zV → zW → Prop}  : zR 63 125 [l0, l1, l2, l3] st w Q = zR 63 126 [l0, l1, l2, l3] (.inl 2 :: st) w Q := zR_go (zst zT_63_125 rfl)
theorem zT_63_126 : zT 63 126 = some (.invokevirtual 245, 3, 2, [(11, 57)]) := by decide +kernel
theorem zr_63_126 {l0 l1 l2 l3 : Option zV} {a0 a1 : zV} {h : Nat} {st : List zV} {w : zW} {Q : Option zV → zW → Prop} (hs : st.length ≤ 8) (hk : zk w h = 11) : zR 63 126 [l0, l1, l2, l3] (a1 :: a0 :: .inr (some h) :: st) w Q = zR 57 0 [some (.inr (some h)), some a0, some a1, none] [] w (fun r w2 => zR 63 129 [l0, l1, l2, l3] (r.toList ++ st) w2 Q) := zR_call (zst zT_63_126 (zcall_v [a1, a0] rfl hs hk rfl))
theorem zT_63_129 : zT 63 129 = some (.goto 19, 3, 0, []) := by decide +kernel
theorem zr_63_129 {l0 l1 l2 l3 : Option zV} {st : List zV} {w : zW} {Q : Option zV → zW → Prop}  : zR 63 129 [l0, l1, l2, l3] st w Q = zR 63 148 [l0, l1, l2, l3] st w Q := zR_go (zst zT_63_129 rfl)
theorem zT_63_132 : zT 63 132 = some (.aload_n 0, 1, 0, []) := by decide +kernel
theorem zr_63_132 {l1 l2 l3 : Option zV} {x : Option Nat} {st : List zV} {w : zW} {Q : Option zV → zW → Prop}  : zR 63 132 [some (.inr x), l1, l2, l3] st w Q = zR 63 133 [some (.inr x), l1, l2, l3] (.inr x :: st) w Q := zR_go (zst zT_63_132 rfl)
theorem zT_63_133 : zT 63 133 = some (.getfield 77, 3, 0, [(11, 23)]) := by decide +kernel
theorem zr_63_133 {l0 l1 l2 l3 : Option zV} {h : Nat} {st : List zV} {w : zW} {Q : Option zV → zW → Prop} (hk : zk w h = 11) : zR 63 133 [l0, l1, l2, l3] (.inr (some h) :: st) w Q = zR 63 136 [l0, l1, l2, l3] (.inr (zp w 95 h) :: st) w Q := zR_go (zst zT_63_133 (zget_r hk rfl))
theorem zT_63_136 : zT 63 136 = some (.iload_n 1, 1, 0, []) := by decide +kernel
theorem zr_63_136 {l0 l2 l3 : Option zV} {x : Int} {st : List zV} {w : zW} {Q : Option zV → zW → Prop}  : zR 63 136 [l0, some (.inl x), l2, l3] st w Q = zR 63 137 [l0, some (.inl x), l2, l3] (.inl x :: st) w Q := zR_go (zst zT_63_136 rfl)
theorem zT_63_137 : zT 63 137 = some (.dup2, 1, 0, []) := by decide +kernel
theorem zr_63_137 {l0 l1 l2 l3 : Option zV} {u v : zV} {st : List zV} {w : zW} {Q : Option zV → zW → Prop}  : zR 63 137 [l0, l1, l2, l3] (v :: u :: st) w Q = zR 63 138 [l0, l1, l2, l3] (v :: u :: v :: u :: st) w Q := zR_go (zst zT_63_137 rfl)
theorem zT_63_138 : zT 63 138 = some (.iaload, 1, 0, []) := by decide +kernel
theorem zr_63_138 {l0 l1 l2 l3 : Option zV} {j : Int} {h : Nat} {st : List zV} {w : zW} {Q : Option zV → zW → Prop} (hk : (zk w h = zNC ∨ zk w h = zNC + 2) ∧ 0 ≤ zN j ∧ zN j < zl w h) : zR 63 138 [l0, l1, l2, l3] (.inl j :: .inr (some h) :: st) w Q = zR 63 139 [l0, l1, l2, l3] (.inl (za w h (zN j).toNat) :: st) w Q := zR_go (zst zT_63_138 (if_pos hk))
theorem zT_63_139 : zT 63 139 = some (.iconst 1, 1, 0, []) := by decide +kernel
theorem zr_63_139 {l0 l1 l2 l3 : Option zV} {st : List zV} {w : zW} {Q : Option zV → zW → Prop}  : zR 63 139 [l0, l1, l2, l3] st w Q = zR 63 140 [l0, l1, l2, l3] (.inl 1 :: st) w Q := zR_go (zst zT_63_139 rfl)
theorem zT_63_140 : zT 63 140 = some (.iadd, 1, 0, []) := by decide +kernel
theorem zr_63_140 {l0 l1 l2 l3 : Option zV} {x y : Int} {st : List zV} {w : zW} {Q : Option zV → zW → Prop}  : zR 63 140 [l0, l1, l2, l3] (.inl y :: .inl x :: st) w Q = zR 63 141 [l0, l1, l2, l3] (.inl (x + y) :: st) w Q := zR_go (zst zT_63_140 rfl)
theorem zT_63_141 : zT 63 141 = some (.iastore, 1, 0, []) := by decide +kernel
theorem zr_63_141 {l0 l1 l2 l3 : Option zV} {j x : Int} {h : Nat} {st : List zV} {w : zW} {Q : Option zV → zW → Prop} (hk : zk w h = zNC ∧ 0 ≤ zN j ∧ zN j < zl w h) : zR 63 141 [l0, l1, l2, l3] (.inl x :: .inl j :: .inr (some h) :: st) w Q = zR 63 142 [l0, l1, l2, l3] st (zsa w h (zN j).toNat x) Q := zR_go (zst zT_63_141 (if_pos hk))
theorem zT_63_142 : zT 63 142 = some (.aload_n 0, 1, 0, []) := by decide +kernel
theorem zr_63_142 {l1 l2 l3 : Option zV} {x : Option Nat} {st : List zV} {w : zW} {Q : Option zV → zW → Prop}  : zR 63 142 [some (.inr x), l1, l2, l3] st w Q = zR 63 143 [some (.inr x), l1, l2, l3] (.inr x :: st) w Q := zR_go (zst zT_63_142 rfl)
theorem zT_63_143 : zT 63 143 = some (.iload_n 1, 1, 0, []) := by decide +kernel
theorem zr_63_143 {l0 l2 l3 : Option zV} {x : Int} {st : List zV} {w : zW} {Q : Option zV → zW → Prop}  : zR 63 143 [l0, some (.inl x), l2, l3] st w Q = zR 63 144 [l0, some (.inl x), l2, l3] (.inl x :: st) w Q := zR_go (zst zT_63_143 rfl)
theorem zT_63_144 : zT 63 144 = some (.iconst 3, 1, 0, []) := by decide +kernel
theorem zr_63_144 {l0 l1 l2 l3 : Option zV} {st : List zV} {w : zW} {Q : Option zV → zW → Prop}  : zR 63 144 [l0, l1, l2, l3] st w Q = zR 63 145 [l0, l1, l2, l3] (.inl 3 :: st) w Q := zR_go (zst zT_63_144 rfl)
theorem zT_63_145 : zT 63 145 = some (.invokevirtual 252, 3, 2, [(11, 58)]) := by decide +kernel
theorem zr_63_145 {l0 l1 l2 l3 : Option zV} {a0 a1 : zV} {h : Nat} {st : List zV} {w : zW} {Q : Option zV → zW → Prop} (hs : st.length ≤ 8) (hk : zk w h = 11) : zR 63 145 [l0, l1, l2, l3] (a1 :: a0 :: .inr (some h) :: st) w Q = zR 58 0 [some (.inr (some h)), some a0, some a1] [] w (fun r w2 => zR 63 148 [l0, l1, l2, l3] (r.toList ++ st) w2 Q) := zR_call (zst zT_63_145 (zcall_v [a1, a0] rfl hs hk rfl))
theorem zT_63_148 : zT 63 148 = some (.return_, 1, 0, []) := by decide +kernel
theorem zr_63_148 {l0 l1 l2 l3 : Option zV} {w : zW} {Q : Option zV → zW → Prop} : zR 63 148 [l0, l1, l2, l3] [] w Q = Q none w := zR_ret (zst zT_63_148 rfl)
theorem zT_64_0 : zT 64 0 = some (.iconst 0, 1, 0, []) := by decide +kernel
theorem zr_64_0 {l0 l1 : Option zV} {st : List zV} {w : zW} {Q : Option zV → zW → Prop}  : zR 64 0 [l0, l1] st w Q = zR 64 1 [l0, l1] (.inl 0 :: st) w Q := zR_go (zst zT_64_0 rfl)
theorem zT_64_1 : zT 64 1 = some (.istore_n 1, 1, 0, []) := by decide +kernel
theorem zr_64_1 {l0 l1 : Option zV} {x : Int} {st : List zV} {w : zW} {Q : Option zV → zW → Prop}  : zR 64 1 [l0, l1] (.inl x :: st) w Q = zR 64 2 [l0, some (.inl x)] st w Q := zR_go (zst zT_64_1 rfl)
theorem zT_64_2 : zT 64 2 = some (.iload_n 1, 1, 0, []) := by decide +kernel
theorem zr_64_2 {l0 : Option zV} {x : Int} {st : List zV} {w : zW} {Q : Option zV → zW → Prop}  : zR 64 2 [l0, some (.inl x)] st w Q = zR 64 3 [l0, some (.inl x)] (.inl x :: st) w Q := zR_go (zst zT_64_2 rfl)
theorem zT_64_3 : zT 64 3 = some (.aload_n 0, 1, 0, []) := by decide +kernel
theorem zr_64_3 {l1 : Option zV} {x : Option Nat} {st : List zV} {w : zW} {Q : Option zV → zW → Prop}  : zR 64 3 [some (.inr x), l1] st w Q = zR 64 4 [some (.inr x), l1] (.inr x :: st) w Q := zR_go (zst zT_64_3 rfl)
theorem zT_64_4 : zT 64 4 = some (.getfield 155, 3, 0, [(11, 41)]) := by decide +kernel
theorem zr_64_4 {l0 l1 : Option zV} {h : Nat} {st : List zV} {w : zW} {Q : Option zV → zW → Prop} (hk : zk w h = 11) : zR 64 4 [l0, l1] (.inr (some h) :: st) w Q = zR 64 7 [l0, l1] (.inl (zf w 113 h) :: st) w Q := zR_go (zst zT_64_4 (zget_i hk (Or.inl rfl)))
theorem zT_64_7 : zT 64 7 = some (.if_icmp .ge 90, 3, 0, []) := by decide +kernel
theorem zr_64_7 {l0 l1 : Option zV} {x y : Int} {st : List zV} {w : zW} {Q : Option zV → zW → Prop}  : zR 64 7 [l0, l1] (.inl y :: .inl x :: st) w Q = (if zN y ≤ zN x then zR 64 97 [l0, l1] st w Q else zR 64 10 [l0, l1] st w Q) := zR_if (zstB zT_64_7 rfl) (by simp [zcmp])
theorem zT_64_10 : zT 64 10 = some (.aload_n 0, 1, 0, []) := by decide +kernel
theorem zr_64_10 {l1 : Option zV} {x : Option Nat} {st : List zV} {w : zW} {Q : Option zV → zW → Prop}  : zR 64 10 [some (.inr x), l1] st w Q = zR 64 11 [some (.inr x), l1] (.inr x :: st) w Q := zR_go (zst zT_64_10 rfl)
theorem zT_64_11 : zT 64 11 = some (.getfield 128, 3, 0, [(11, 45)]) := by decide +kernel
theorem zr_64_11 {l0 l1 : Option zV} {h : Nat} {st : List zV} {w : zW} {Q : Option zV → zW → Prop} (hk : zk w h = 11) : zR 64 11 [l0, l1] (.inr (some h) :: st) w Q = zR 64 14 [l0, l1] (.inr (zp w 117 h) :: st) w Q := zR_go (zst zT_64_11 (zget_r hk rfl))
theorem zT_64_14 : zT 64 14 = some (.iload_n 1, 1, 0, []) := by decide +kernel
theorem zr_64_14 {l0 : Option zV} {x : Int} {st : List zV} {w : zW} {Q : Option zV → zW → Prop}  : zR 64 14 [l0, some (.inl x)] st w Q = zR 64 15 [l0, some (.inl x)] (.inl x :: st) w Q := zR_go (zst zT_64_14 rfl)
theorem zT_64_15 : zT 64 15 = some (.iaload, 1, 0, []) := by decide +kernel
theorem zr_64_15 {l0 l1 : Option zV} {j : Int} {h : Nat} {st : List zV} {w : zW} {Q : Option zV → zW → Prop} (hk : (zk w h = zNC ∨ zk w h = zNC + 2) ∧ 0 ≤ zN j ∧ zN j < zl w h) : zR 64 15 [l0, l1] (.inl j :: .inr (some h) :: st) w Q = zR 64 16 [l0, l1] (.inl (za w h (zN j).toNat) :: st) w Q := zR_go (zst zT_64_15 (if_pos hk))
theorem zT_64_16 : zT 64 16 = some (.iconst 1, 1, 0, []) := by decide +kernel
theorem zr_64_16 {l0 l1 : Option zV} {st : List zV} {w : zW} {Q : Option zV → zW → Prop}  : zR 64 16 [l0, l1] st w Q = zR 64 17 [l0, l1] (.inl 1 :: st) w Q := zR_go (zst zT_64_16 rfl)
theorem zT_64_17 : zT 64 17 = some (.if_icmp .ne 74, 3, 0, []) := by decide +kernel
theorem zr_64_17 {l0 l1 : Option zV} {x y : Int} {st : List zV} {w : zW} {Q : Option zV → zW → Prop}  : zR 64 17 [l0, l1] (.inl y :: .inl x :: st) w Q = (if zN x ≠ zN y then zR 64 91 [l0, l1] st w Q else zR 64 20 [l0, l1] st w Q) := zR_if (zstB zT_64_17 rfl) (by simp [zcmp])
theorem zT_64_20 : zT 64 20 = some (.aload_n 0, 1, 0, []) := by decide +kernel
theorem zr_64_20 {l1 : Option zV} {x : Option Nat} {st : List zV} {w : zW} {Q : Option zV → zW → Prop}  : zR 64 20 [some (.inr x), l1] st w Q = zR 64 21 [some (.inr x), l1] (.inr x :: st) w Q := zR_go (zst zT_64_20 rfl)
theorem zT_64_21 : zT 64 21 = some (.getfield 131, 3, 0, [(11, 46)]) := by decide +kernel
theorem zr_64_21 {l0 l1 : Option zV} {h : Nat} {st : List zV} {w : zW} {Q : Option zV → zW → Prop} (hk : zk w h = 11) : zR 64 21 [l0, l1] (.inr (some h) :: st) w Q = zR 64 24 [l0, l1] (.inr (zp w 118 h) :: st) w Q := zR_go (zst zT_64_21 (zget_r hk rfl))
theorem zT_64_24 : zT 64 24 = some (.iload_n 1, 1, 0, []) := by decide +kernel
theorem zr_64_24 {l0 : Option zV} {x : Int} {st : List zV} {w : zW} {Q : Option zV → zW → Prop}  : zR 64 24 [l0, some (.inl x)] st w Q = zR 64 25 [l0, some (.inl x)] (.inl x :: st) w Q := zR_go (zst zT_64_24 rfl)
theorem zT_64_25 : zT 64 25 = some (.dup2, 1, 0, []) := by decide +kernel
theorem zr_64_25 {l0 l1 : Option zV} {u v : zV} {st : List zV} {w : zW} {Q : Option zV → zW → Prop}  : zR 64 25 [l0, l1] (v :: u :: st) w Q = zR 64 26 [l0, l1] (v :: u :: v :: u :: st) w Q := zR_go (zst zT_64_25 rfl)
theorem zT_64_26 : zT 64 26 = some (.iaload, 1, 0, []) := by decide +kernel
theorem zr_64_26 {l0 l1 : Option zV} {j : Int} {h : Nat} {st : List zV} {w : zW} {Q : Option zV → zW → Prop} (hk : (zk w h = zNC ∨ zk w h = zNC + 2) ∧ 0 ≤ zN j ∧ zN j < zl w h) : zR 64 26 [l0, l1] (.inl j :: .inr (some h) :: st) w Q = zR 64 27 [l0, l1] (.inl (za w h (zN j).toNat) :: st) w Q := zR_go (zst zT_64_26 (if_pos hk))
theorem zT_64_27 : zT 64 27 = some (.iconst 1, 1, 0, []) := by decide +kernel
theorem zr_64_27 {l0 l1 : Option zV} {st : List zV} {w : zW} {Q : Option zV → zW → Prop}  : zR 64 27 [l0, l1] st w Q = zR 64 28 [l0, l1] (.inl 1 :: st) w Q := zR_go (zst zT_64_27 rfl)
theorem zT_64_28 : zT 64 28 = some (.isub, 1, 0, []) := by decide +kernel
theorem zr_64_28 {l0 l1 : Option zV} {x y : Int} {st : List zV} {w : zW} {Q : Option zV → zW → Prop}  : zR 64 28 [l0, l1] (.inl y :: .inl x :: st) w Q = zR 64 29 [l0, l1] (.inl (x - y) :: st) w Q := zR_go (zst zT_64_28 rfl)
theorem zT_64_29 : zT 64 29 = some (.iastore, 1, 0, []) := by decide +kernel
theorem zr_64_29 {l0 l1 : Option zV} {j x : Int} {h : Nat} {st : List zV} {w : zW} {Q : Option zV → zW → Prop} (hk : zk w h = zNC ∧ 0 ≤ zN j ∧ zN j < zl w h) : zR 64 29 [l0, l1] (.inl x :: .inl j :: .inr (some h) :: st) w Q = zR 64 30 [l0, l1] st (zsa w h (zN j).toNat x) Q := zR_go (zst zT_64_29 (if_pos hk))
theorem zT_64_30 : zT 64 30 = some (.aload_n 0, 1, 0, []) := by decide +kernel
theorem zr_64_30 {l1 : Option zV} {x : Option Nat} {st : List zV} {w : zW} {Q : Option zV → zW → Prop}  : zR 64 30 [some (.inr x), l1] st w Q = zR 64 31 [some (.inr x), l1] (.inr x :: st) w Q := zR_go (zst zT_64_30 rfl)
theorem zT_64_31 : zT 64 31 = some (.getfield 131, 3, 0, [(11, 46)]) := by decide +kernel
theorem zr_64_31 {l0 l1 : Option zV} {h : Nat} {st : List zV} {w : zW} {Q : Option zV → zW → Prop} (hk : zk w h = 11) : zR 64 31 [l0, l1] (.inr (some h) :: st) w Q = zR 64 34 [l0, l1] (.inr (zp w 118 h) :: st) w Q := zR_go (zst zT_64_31 (zget_r hk rfl))
theorem zT_64_34 : zT 64 34 = some (.iload_n 1, 1, 0, []) := by decide +kernel
theorem zr_64_34 {l0 : Option zV} {x : Int} {st : List zV} {w : zW} {Q : Option zV → zW → Prop}  : zR 64 34 [l0, some (.inl x)] st w Q = zR 64 35 [l0, some (.inl x)] (.inl x :: st) w Q := zR_go (zst zT_64_34 rfl)
theorem zT_64_35 : zT 64 35 = some (.iaload, 1, 0, []) := by decide +kernel
theorem zr_64_35 {l0 l1 : Option zV} {j : Int} {h : Nat} {st : List zV} {w : zW} {Q : Option zV → zW → Prop} (hk : (zk w h = zNC ∨ zk w h = zNC + 2) ∧ 0 ≤ zN j ∧ zN j < zl w h) : zR 64 35 [l0, l1] (.inl j :: .inr (some h) :: st) w Q = zR 64 36 [l0, l1] (.inl (za w h (zN j).toNat) :: st) w Q := zR_go (zst zT_64_35 (if_pos hk))
theorem zT_64_36 : zT 64 36 = some (.ifCond .ne 23, 3, 0, []) := by decide +kernel
theorem zr_64_36 {l0 l1 : Option zV} {x : Int} {st : List zV} {w : zW} {Q : Option zV → zW → Prop}  : zR 64 36 [l0, l1] (.inl x :: st) w Q = (if zN x ≠ 0 then zR 64 59 [l0, l1] st w Q else zR 64 39 [l0, l1] st w Q) := zR_if (zstB zT_64_36 rfl) (by simp [zcmp])
theorem zT_64_39 : zT 64 39 = some (.aload_n 0, 1, 0, []) := by decide +kernel
theorem zr_64_39 {l1 : Option zV} {x : Option Nat} {st : List zV} {w : zW} {Q : Option zV → zW → Prop}  : zR 64 39 [some (.inr x), l1] st w Q = zR 64 40 [some (.inr x), l1] (.inr x :: st) w Q := zR_go (zst zT_64_39 rfl)
theorem zT_64_40 : zT 64 40 = some (.getfield 134, 3, 0, [(11, 47)]) := by decide +kernel
theorem zr_64_40 {l0 l1 : Option zV} {h : Nat} {st : List zV} {w : zW} {Q : Option zV → zW → Prop} (hk : zk w h = 11) : zR 64 40 [l0, l1] (.inr (some h) :: st) w Q = zR 64 43 [l0, l1] (.inr (zp w 119 h) :: st) w Q := zR_go (zst zT_64_40 (zget_r hk rfl))
theorem zT_64_43 : zT 64 43 = some (.iload_n 1, 1, 0, []) := by decide +kernel
theorem zr_64_43 {l0 : Option zV} {x : Int} {st : List zV} {w : zW} {Q : Option zV → zW → Prop}  : zR 64 43 [l0, some (.inl x)] st w Q = zR 64 44 [l0, some (.inl x)] (.inl x :: st) w Q := zR_go (zst zT_64_43 rfl)
theorem zT_64_44 : zT 64 44 = some (.iaload, 1, 0, []) := by decide +kernel
theorem zr_64_44 {l0 l1 : Option zV} {j : Int} {h : Nat} {st : List zV} {w : zW} {Q : Option zV → zW → Prop} (hk : (zk w h = zNC ∨ zk w h = zNC + 2) ∧ 0 ≤ zN j ∧ zN j < zl w h) : zR 64 44 [l0, l1] (.inl j :: .inr (some h) :: st) w Q = zR 64 45 [l0, l1] (.inl (za w h (zN j).toNat) :: st) w Q := zR_go (zst zT_64_44 (if_pos hk))
theorem zT_64_45 : zT 64 45 = some (.iconst 3, 1, 0, []) := by decide +kernel
theorem zr_64_45 {l0 l1 : Option zV} {st : List zV} {w : zW} {Q : Option zV → zW → Prop}  : zR 64 45 [l0, l1] st w Q = zR 64 46 [l0, l1] (.inl 3 :: st) w Q := zR_go (zst zT_64_45 rfl)
theorem zT_64_46 : zT 64 46 = some (.if_icmp .ne 13, 3, 0, []) := by decide +kernel
theorem zr_64_46 {l0 l1 : Option zV} {x y : Int} {st : List zV} {w : zW} {Q : Option zV → zW → Prop}  : zR 64 46 [l0, l1] (.inl y :: .inl x :: st) w Q = (if zN x ≠ zN y then zR 64 59 [l0, l1] st w Q else zR 64 49 [l0, l1] st w Q) := zR_if (zstB zT_64_46 rfl) (by simp [zcmp])
theorem zT_64_49 : zT 64 49 = some (.aload_n 0, 1, 0, []) := by decide +kernel
theorem zr_64_49 {l1 : Option zV} {x : Option Nat} {st : List zV} {w : zW} {Q : Option zV → zW → Prop}  : zR 64 49 [some (.inr x), l1] st w Q = zR 64 50 [some (.inr x), l1] (.inr x :: st) w Q := zR_go (zst zT_64_49 rfl)
theorem zT_64_50 : zT 64 50 = some (.getfield 128, 3, 0, [(11, 45)]) := by decide +kernel
theorem zr_64_50 {l0 l1 : Option zV} {h : Nat} {st : List zV} {w : zW} {Q : Option zV → zW → Prop} (hk : zk w h = 11) : zR 64 50 [l0, l1] (.inr (some h) :: st) w Q = zR 64 53 [l0, l1] (.inr (zp w 117 h) :: st) w Q := zR_go (zst zT_64_50 (zget_r hk rfl))
theorem zT_64_53 : zT 64 53 = some (.iload_n 1, 1, 0, []) := by decide +kernel
theorem zr_64_53 {l0 : Option zV} {x : Int} {st : List zV} {w : zW} {Q : Option zV → zW → Prop}  : zR 64 53 [l0, some (.inl x)] st w Q = zR 64 54 [l0, some (.inl x)] (.inl x :: st) w Q := zR_go (zst zT_64_53 rfl)
theorem zT_64_54 : zT 64 54 = some (.iconst 3, 1, 0, []) := by decide +kernel
theorem zr_64_54 {l0 l1 : Option zV} {st : List zV} {w : zW} {Q : Option zV → zW → Prop}  : zR 64 54 [l0, l1] st w Q = zR 64 55 [l0, l1] (.inl 3 :: st) w Q := zR_go (zst zT_64_54 rfl)
theorem zT_64_55 : zT 64 55 = some (.iastore, 1, 0, []) := by decide +kernel
theorem zr_64_55 {l0 l1 : Option zV} {j x : Int} {h : Nat} {st : List zV} {w : zW} {Q : Option zV → zW → Prop} (hk : zk w h = zNC ∧ 0 ≤ zN j ∧ zN j < zl w h) : zR 64 55 [l0, l1] (.inl x :: .inl j :: .inr (some h) :: st) w Q = zR 64 56 [l0, l1] st (zsa w h (zN j).toNat x) Q := zR_go (zst zT_64_55 (if_pos hk))
theorem zT_64_56 : zT 64 56 = some (.goto 35, 3, 0, []) := by decide +kernel
theorem zr_64_56 {l0 l1 : Option zV} {st : List zV} {w : zW} {Q : Option zV → zW → Prop}  : zR 64 56 [l0, l1] st w Q = zR 64 91 [l0, l1] st w Q := zR_go (zst zT_64_56 rfl)
theorem zT_64_59 : zT 64 59 = some (.aload_n 0, 1, 0, []) := by decide +kernel
theorem zr_64_59 {l1 : Option zV} {x : Option Nat} {st : List zV} {w : zW} {Q : Option zV → zW → Prop}  : zR 64 59 [some (.inr x), l1] st w Q = zR 64 60 [some (.inr x), l1] (.inr x :: st) w Q := zR_go (zst zT_64_59 rfl)
theorem zT_64_60 : zT 64 60 = some (.getfield 131, 3, 0, [(11, 46)]) := by decide +kernel
theorem zr_64_60 {l0 l1 : Option zV} {h : Nat} {st : List zV} {w : zW} {Q : Option zV → zW → Prop} (hk : zk w h = 11) : zR 64 60 [l0, l1] (.inr (some h) :: st) w Q = zR 64 63 [l0, l1] (.inr (zp w 118 h) :: st) w Q := zR_go (zst zT_64_60 (zget_r hk rfl))
theorem zT_64_63 : zT 64 63 = some (.iload_n 1, 1, 0, []) := by decide +kernel
theorem zr_64_63 {l0 : Option zV} {x : Int} {st : List zV} {w : zW} {Q : Option zV → zW → Prop}  : zR 64 63 [l0, some (.inl x)] st w Q = zR 64 64 [l0, some (.inl x)] (.inl x :: st) w Q := zR_go (zst zT_64_63 rfl)
theorem zT_64_64 : zT 64 64 = some (.iaload, 1, 0, []) := by decide +kernel
theorem zr_64_64 {l0 l1 : Option zV} {j : Int} {h : Nat} {st : List zV} {w : zW} {Q : Option zV → zW → Prop} (hk : (zk w h = zNC ∨ zk w h = zNC + 2) ∧ 0 ≤ zN j ∧ zN j < zl w h) : zR 64 64 [l0, l1] (.inl j :: .inr (some h) :: st) w Q = zR 64 65 [l0, l1] (.inl (za w h (zN j).toNat) :: st) w Q := zR_go (zst zT_64_64 (if_pos hk))
theorem zT_64_65 : zT 64 65 = some (.ifCond .ne 26, 3, 0, []) := by decide +kernel
theorem zr_64_65 {l0 l1 : Option zV} {x : Int} {st : List zV} {w : zW} {Q : Option zV → zW → Prop}  : zR 64 65 [l0, l1] (.inl x :: st) w Q = (if zN x ≠ 0 then zR 64 91 [l0, l1] st w Q else zR 64 68 [l0, l1] st w Q) := zR_if (zstB zT_64_65 rfl) (by simp [zcmp])
theorem zT_64_68 : zT 64 68 = some (.aload_n 0, 1, 0, []) := by decide +kernel
theorem zr_64_68 {l1 : Option zV} {x : Option Nat} {st : List zV} {w : zW} {Q : Option zV → zW → Prop}  : zR 64 68 [some (.inr x), l1] st w Q = zR 64 69 [some (.inr x), l1] (.inr x :: st) w Q := zR_go (zst zT_64_68 rfl)
theorem zT_64_69 : zT 64 69 = some (.getfield 134, 3, 0, [(11, 47)]) := by decide +kernel
theorem zr_64_69 {l0 l1 : Option zV} {h : Nat} {st : List zV} {w : zW} {Q : Option zV → zW → Prop} (hk : zk w h = 11) : zR 64 69 [l0, l1] (.inr (some h) :: st) w Q = zR 64 72 [l0, l1] (.inr (zp w 119 h) :: st) w Q := zR_go (zst zT_64_69 (zget_r hk rfl))
theorem zT_64_72 : zT 64 72 = some (.iload_n 1, 1, 0, []) := by decide +kernel
theorem zr_64_72 {l0 : Option zV} {x : Int} {st : List zV} {w : zW} {Q : Option zV → zW → Prop}  : zR 64 72 [l0, some (.inl x)] st w Q = zR 64 73 [l0, some (.inl x)] (.inl x :: st) w Q := zR_go (zst zT_64_72 rfl)
theorem zT_64_73 : zT 64 73 = some (.dup2, 1, 0, []) := by decide +kernel
theorem zr_64_73 {l0 l1 : Option zV} {u v : zV} {st : List zV} {w : zW} {Q : Option zV → zW → Prop}  : zR 64 73 [l0, l1] (v :: u :: st) w Q = zR 64 74 [l0, l1] (v :: u :: v :: u :: st) w Q := zR_go (zst zT_64_73 rfl)
theorem zT_64_74 : zT 64 74 = some (.iaload, 1, 0, []) := by decide +kernel
theorem zr_64_74 {l0 l1 : Option zV} {j : Int} {h : Nat} {st : List zV} {w : zW} {Q : Option zV → zW → Prop} (hk : (zk w h = zNC ∨ zk w h = zNC + 2) ∧ 0 ≤ zN j ∧ zN j < zl w h) : zR 64 74 [l0, l1] (.inl j :: .inr (some h) :: st) w Q = zR 64 75 [l0, l1] (.inl (za w h (zN j).toNat) :: st) w Q := zR_go (zst zT_64_74 (if_pos hk))
theorem zT_64_75 : zT 64 75 = some (.iconst 1, 1, 0, []) := by decide +kernel
theorem zr_64_75 {l0 l1 : Option zV} {st : List zV} {w : zW} {Q : Option zV → zW → Prop}  : zR 64 75 [l0, l1] st w Q = zR 64 76 [l0, l1] (.inl 1 :: st) w Q := zR_go (zst zT_64_75 rfl)
theorem zT_64_76 : zT 64 76 = some (.iadd, 1, 0, []) := by decide +kernel
theorem zr_64_76 {l0 l1 : Option zV} {x y : Int} {st : List zV} {w : zW} {Q : Option zV → zW → Prop}  : zR 64 76 [l0, l1] (.inl y :: .inl x :: st) w Q = zR 64 77 [l0, l1] (.inl (x + y) :: st) w Q := zR_go (zst zT_64_76 rfl)
theorem zT_64_77 : zT 64 77 = some (.iastore, 1, 0, []) := by decide +kernel
theorem zr_64_77 {l0 l1 : Option zV} {j x : Int} {h : Nat} {st : List zV} {w : zW} {Q : Option zV → zW → Prop} (hk : zk w h = zNC ∧ 0 ≤ zN j ∧ zN j < zl w h) : zR 64 77 [l0, l1] (.inl x :: .inl j :: .inr (some h) :: st) w Q = zR 64 78 [l0, l1] st (zsa w h (zN j).toNat x) Q := zR_go (zst zT_64_77 (if_pos hk))
theorem zT_64_78 : zT 64 78 = some (.aload_n 0, 1, 0, []) := by decide +kernel
theorem zr_64_78 {l1 : Option zV} {x : Option Nat} {st : List zV} {w : zW} {Q : Option zV → zW → Prop}  : zR 64 78 [some (.inr x), l1] st w Q = zR 64 79 [some (.inr x), l1] (.inr x :: st) w Q := zR_go (zst zT_64_78 rfl)
theorem zT_64_79 : zT 64 79 = some (.getfield 131, 3, 0, [(11, 46)]) := by decide +kernel
theorem zr_64_79 {l0 l1 : Option zV} {h : Nat} {st : List zV} {w : zW} {Q : Option zV → zW → Prop} (hk : zk w h = 11) : zR 64 79 [l0, l1] (.inr (some h) :: st) w Q = zR 64 82 [l0, l1] (.inr (zp w 118 h) :: st) w Q := zR_go (zst zT_64_79 (zget_r hk rfl))
theorem zT_64_82 : zT 64 82 = some (.iload_n 1, 1, 0, []) := by decide +kernel
theorem zr_64_82 {l0 : Option zV} {x : Int} {st : List zV} {w : zW} {Q : Option zV → zW → Prop}  : zR 64 82 [l0, some (.inl x)] st w Q = zR 64 83 [l0, some (.inl x)] (.inl x :: st) w Q := zR_go (zst zT_64_82 rfl)
theorem zT_64_83 : zT 64 83 = some (.bipush 30, 2, 0, []) := by decide +kernel
theorem zr_64_83 {l0 l1 : Option zV} {st : List zV} {w : zW} {Q : Option zV → zW → Prop}  : zR 64 83 [l0, l1] st w Q = zR 64 85 [l0, l1] (.inl 30 :: st) w Q := zR_go (zst zT_64_83 rfl)
theorem zT_64_85 : zT 64 85 = some (.iastore, 1, 0, []) := by decide +kernel
theorem zr_64_85 {l0 l1 : Option zV} {j x : Int} {h : Nat} {st : List zV} {w : zW} {Q : Option zV → zW → Prop} (hk : zk w h = zNC ∧ 0 ≤ zN j ∧ zN j < zl w h) : zR 64 85 [l0, l1] (.inl x :: .inl j :: .inr (some h) :: st) w Q = zR 64 86 [l0, l1] st (zsa w h (zN j).toNat x) Q := zR_go (zst zT_64_85 (if_pos hk))
theorem zT_64_86 : zT 64 86 = some (.aload_n 0, 1, 0, []) := by decide +kernel
theorem zr_64_86 {l1 : Option zV} {x : Option Nat} {st : List zV} {w : zW} {Q : Option zV → zW → Prop}  : zR 64 86 [some (.inr x), l1] st w Q = zR 64 87 [some (.inr x), l1] (.inr x :: st) w Q := zR_go (zst zT_64_86 rfl)
theorem zT_64_87 : zT 64 87 = some (.iload_n 1, 1, 0, []) := by decide +kernel
theorem zr_64_87 {l0 : Option zV} {x : Int} {st : List zV} {w : zW} {Q : Option zV → zW → Prop}  : zR 64 87 [l0, some (.inl x)] st w Q = zR 64 88 [l0, some (.inl x)] (.inl x :: st) w Q := zR_go (zst zT_64_87 rfl)
theorem zT_64_88 : zT 64 88 = some (.invokevirtual 159, 3, 1, [(11, 35)]) := by decide +kernel
theorem zr_64_88 {l0 l1 : Option zV} {a0 : zV} {h : Nat} {st : List zV} {w : zW} {Q : Option zV → zW → Prop} (hs : st.length ≤ 8) (hk : zk w h = 11) : zR 64 88 [l0, l1] (a0 :: .inr (some h) :: st) w Q = zR 35 0 [some (.inr (some h)), some a0, none] [] w (fun r w2 => zR 64 91 [l0, l1] (r.toList ++ st) w2 Q) := zR_call (zst zT_64_88 (zcall_v [a0] rfl hs hk rfl))
theorem zT_64_91 : zT 64 91 = some (.iinc 1 1, 3, 0, []) := by decide +kernel
theorem zr_64_91 {l0 : Option zV} {x : Int} {st : List zV} {w : zW} {Q : Option zV → zW → Prop}  : zR 64 91 [l0, some (.inl x)] st w Q = zR 64 94 [l0, some (.inl (x + 1))] st w Q := zR_go (zst zT_64_91 rfl)
theorem zT_64_94 : zT 64 94 = some (.goto (-92), 3, 0, []) := by decide +kernel
theorem zr_64_94 {l0 l1 : Option zV} {st : List zV} {w : zW} {Q : Option zV → zW → Prop}  : zR 64 94 [l0, l1] st w Q = zR 64 2 [l0, l1] st w Q := zR_go (zst zT_64_94 rfl)
theorem zT_64_97 : zT 64 97 = some (.return_, 1, 0, []) := by decide +kernel
theorem zr_64_97 {l0 l1 : Option zV} {w : zW} {Q : Option zV → zW → Prop} : zR 64 97 [l0, l1] [] w Q = Q none w := zR_ret (zst zT_64_97 rfl)
theorem zT_65_0 : zT 65 0 = some (.iload_n 1, 1, 0, []) := by decide +kernel
theorem zr_65_0 {l0 l2 l3 : Option zV} {x : Int} {st : List zV} {w : zW} {Q : Option zV → zW → Prop}  : zR 65 0 [l0, some (.inl x), l2, l3] st w Q = zR 65 1 [l0, some (.inl x), l2, l3] (.inl x :: st) w Q := zR_go (zst zT_65_0 rfl)
theorem zT_65_1 : zT 65 1 = some (.iconst 1, 1, 0, []) := by decide +kernel
theorem zr_65_1 {l0 l1 l2 l3 : Option zV} {st : List zV} {w : zW} {Q : Option zV → zW → Prop}  : zR 65 1 [l0, l1, l2, l3] st w Q = zR 65 2 [l0, l1, l2, l3] (.inl 1 :: st) w Q := zR_go (zst zT_65_1 rfl)
theorem zT_65_2 : zT 65 2 = some (.bipush 100, 2, 0, []) := by decide +kernel
theorem zr_65_2 {l0 l1 l2 l3 : Option zV} {st : List zV} {w : zW} {Q : Option zV → zW → Prop}  : zR 65 2 [l0, l1, l2, l3] st w Q = zR 65 4 [l0, l1, l2, l3] (.inl 100 :: st) w Q := zR_go (zst zT_65_2 rfl)
theorem zT_65_4 : zT 65 4 = some (.invokestatic 150, 3, 3, [(24, 1)]) := by decide +kernel
theorem zr_65_4 {l0 l1 l2 l3 : Option zV} {a0 a1 a2 : zV} {st : List zV} {w : zW} {Q : Option zV → zW → Prop} (hs : st.length ≤ 8) : zR 65 4 [l0, l1, l2, l3] (a2 :: a1 :: a0 :: st) w Q = zR 24 0 [some a0, some a1, some a2] [] w (fun r w2 => zR 65 7 [l0, l1, l2, l3] (r.toList ++ st) w2 Q) := zR_call (zst zT_65_4 ((zcall_s (z := 3) (pc := 4) (j := 24) (ls := [l0, l1, l2, l3]) (w := w) [a2, a1, a0] rfl hs : zi_static 3 [(24, 1)] 4 [l0, l1, l2, l3] ([a2, a1, a0] ++ st) w = _)))
theorem zT_65_7 : zT 65 7 = some (.ifCond .ne 5, 3, 0, []) := by decide +kernel
theorem zr_65_7 {l0 l1 l2 l3 : Option zV} {x : Int} {st : List zV} {w : zW} {Q : Option zV → zW → Prop}  : zR 65 7 [l0, l1, l2, l3] (.inl x :: st) w Q = (if zN x ≠ 0 then zR 65 12 [l0, l1, l2, l3] st w Q else zR 65 10 [l0, l1, l2, l3] st w Q) := zR_if (zstB zT_65_7 rfl) (by simp [zcmp])
theorem zT_65_10 : zT 65 10 = some (.iconst (-1), 1, 0, []) := by decide +kernel
theorem zr_65_10 {l0 l1 l2 l3 : Option zV} {st : List zV} {w : zW} {Q : Option zV → zW → Prop}  : zR 65 10 [l0, l1, l2, l3] st w Q = zR 65 11 [l0, l1, l2, l3] (.inl (-1) :: st) w Q := zR_go (zst zT_65_10 rfl)
theorem zT_65_11 : zT 65 11 = some (.ireturn, 1, 0, []) := by decide +kernel
theorem zr_65_11 {l0 l1 l2 l3 : Option zV} {x : Int} {w : zW} {Q : Option zV → zW → Prop}  : zR 65 11 [l0, l1, l2, l3] [.inl x] w Q = Q (some (.inl x)) w := zR_ret (zst zT_65_11 rfl)
theorem zT_65_12 : zT 65 12 = some (.iconst 0, 1, 0, []) := by decide +kernel
theorem zr_65_12 {l0 l1 l2 l3 : Option zV} {st : List zV} {w : zW} {Q : Option zV → zW → Prop}  : zR 65 12 [l0, l1, l2, l3] st w Q = zR 65 13 [l0, l1, l2, l3] (.inl 0 :: st) w Q := zR_go (zst zT_65_12 rfl)
theorem zT_65_13 : zT 65 13 = some (.istore_n 2, 1, 0, []) := by decide +kernel
theorem zr_65_13 {l0 l1 l2 l3 : Option zV} {x : Int} {st : List zV} {w : zW} {Q : Option zV → zW → Prop}  : zR 65 13 [l0, l1, l2, l3] (.inl x :: st) w Q = zR 65 14 [l0, l1, some (.inl x), l3] st w Q := zR_go (zst zT_65_13 rfl)
theorem zT_65_14 : zT 65 14 = some (.iload_n 2, 1, 0, []) := by decide +kernel
theorem zr_65_14 {l0 l1 l3 : Option zV} {x : Int} {st : List zV} {w : zW} {Q : Option zV → zW → Prop}  : zR 65 14 [l0, l1, some (.inl x), l3] st w Q = zR 65 15 [l0, l1, some (.inl x), l3] (.inl x :: st) w Q := zR_go (zst zT_65_14 rfl)
theorem zT_65_15 : zT 65 15 = some (.iload_n 1, 1, 0, []) := by decide +kernel
theorem zr_65_15 {l0 l2 l3 : Option zV} {x : Int} {st : List zV} {w : zW} {Q : Option zV → zW → Prop}  : zR 65 15 [l0, some (.inl x), l2, l3] st w Q = zR 65 16 [l0, some (.inl x), l2, l3] (.inl x :: st) w Q := zR_go (zst zT_65_15 rfl)
theorem zT_65_16 : zT 65 16 = some (.if_icmp .ge 59, 3, 0, []) := by decide +kernel
theorem zr_65_16 {l0 l1 l2 l3 : Option zV} {x y : Int} {st : List zV} {w : zW} {Q : Option zV → zW → Prop}  : zR 65 16 [l0, l1, l2, l3] (.inl y :: .inl x :: st) w Q = (if zN y ≤ zN x then zR 65 75 [l0, l1, l2, l3] st w Q else zR 65 19 [l0, l1, l2, l3] st w Q) := zR_if (zstB zT_65_16 rfl) (by simp [zcmp])
theorem zT_65_19 : zT 65 19 = some (.aload_n 0, 1, 0, []) := by decide +kernel
theorem zr_65_19 {l1 l2 l3 : Option zV} {x : Option Nat} {st : List zV} {w : zW} {Q : Option zV → zW → Prop}  : zR 65 19 [some (.inr x), l1, l2, l3] st w Q = zR 65 20 [some (.inr x), l1, l2, l3] (.inr x :: st) w Q := zR_go (zst zT_65_19 rfl)
theorem zT_65_20 : zT 65 20 = some (.dup, 1, 0, []) := by decide +kernel
theorem zr_65_20 {l0 l1 l2 l3 : Option zV} {v : zV} {st : List zV} {w : zW} {Q : Option zV → zW → Prop}  : zR 65 20 [l0, l1, l2, l3] (v :: st) w Q = zR 65 21 [l0, l1, l2, l3] (v :: v :: st) w Q := zR_go (zst zT_65_20 rfl)
theorem zT_65_21 : zT 65 21 = some (.getfield 267, 3, 0, [(11, 0)]) := by decide +kernel
theorem zr_65_21 {l0 l1 l2 l3 : Option zV} {h : Nat} {st : List zV} {w : zW} {Q : Option zV → zW → Prop} (hk : zk w h = 11) : zR 65 21 [l0, l1, l2, l3] (.inr (some h) :: st) w Q = zR 65 24 [l0, l1, l2, l3] (.inl (zf w 72 h) :: st) w Q := zR_go (zst zT_65_21 (zget_i hk (Or.inl rfl)))
theorem zT_65_24 : zT 65 24 = some (.iconst 1, 1, 0, []) := by decide +kernel
theorem zr_65_24 {l0 l1 l2 l3 : Option zV} {st : List zV} {w : zW} {Q : Option zV → zW → Prop}  : zR 65 24 [l0, l1, l2, l3] st w Q = zR 65 25 [l0, l1, l2, l3] (.inl 1 :: st) w Q := zR_go (zst zT_65_24 rfl)
theorem zT_65_25 : zT 65 25 = some (.iadd, 1, 0, []) := by decide +kernel
theorem zr_65_25 {l0 l1 l2 l3 : Option zV} {x y : Int} {st : List zV} {w : zW} {Q : Option zV → zW → Prop}  : zR 65 25 [l0, l1, l2, l3] (.inl y :: .inl x :: st) w Q = zR 65 26 [l0, l1, l2, l3] (.inl (x + y) :: st) w Q := zR_go (zst zT_65_25 rfl)
theorem zT_65_26 : zT 65 26 = some (.putfield 267, 3, 0, [(11, 0)]) := by decide +kernel
theorem zr_65_26 {l0 l1 l2 l3 : Option zV} {h : Nat} {x : Int} {st : List zV} {w : zW} {Q : Option zV → zW → Prop} (hk : zk w h = 11) : zR 65 26 [l0, l1, l2, l3] (.inl x :: .inr (some h) :: st) w Q = zR 65 29 [l0, l1, l2, l3] st (zsf w 72 h x) Q := zR_go (zst zT_65_26 (zput_i hk rfl))
theorem zT_65_29 : zT 65 29 = some (.iconst 0, 1, 0, []) := by decide +kernel
theorem zr_65_29 {l0 l1 l2 l3 : Option zV} {st : List zV} {w : zW} {Q : Option zV → zW → Prop}  : zR 65 29 [l0, l1, l2, l3] st w Q = zR 65 30 [l0, l1, l2, l3] (.inl 0 :: st) w Q := zR_go (zst zT_65_29 rfl)
theorem zT_65_30 : zT 65 30 = some (.istore_n 3, 1, 0, []) := by decide +kernel
theorem zr_65_30 {l0 l1 l2 l3 : Option zV} {x : Int} {st : List zV} {w : zW} {Q : Option zV → zW → Prop}  : zR 65 30 [l0, l1, l2, l3] (.inl x :: st) w Q = zR 65 31 [l0, l1, l2, some (.inl x)] st w Q := zR_go (zst zT_65_30 rfl)
theorem zT_65_31 : zT 65 31 = some (.iload_n 3, 1, 0, []) := by decide +kernel
theorem zr_65_31 {l0 l1 l2 : Option zV} {x : Int} {st : List zV} {w : zW} {Q : Option zV → zW → Prop}  : zR 65 31 [l0, l1, l2, some (.inl x)] st w Q = zR 65 32 [l0, l1, l2, some (.inl x)] (.inl x :: st) w Q := zR_go (zst zT_65_31 rfl)
theorem zT_65_32 : zT 65 32 = some (.iconst 2, 1, 0, []) := by decide +kernel
theorem zr_65_32 {l0 l1 l2 l3 : Option zV} {st : List zV} {w : zW} {Q : Option zV → zW → Prop}  : zR 65 32 [l0, l1, l2, l3] st w Q = zR 65 33 [l0, l1, l2, l3] (.inl 2 :: st) w Q := zR_go (zst zT_65_32 rfl)
theorem zT_65_33 : zT 65 33 = some (.if_icmp .ge 32, 3, 0, []) := by decide +kernel
theorem zr_65_33 {l0 l1 l2 l3 : Option zV} {x y : Int} {st : List zV} {w : zW} {Q : Option zV → zW → Prop}  : zR 65 33 [l0, l1, l2, l3] (.inl y :: .inl x :: st) w Q = (if zN y ≤ zN x then zR 65 65 [l0, l1, l2, l3] st w Q else zR 65 36 [l0, l1, l2, l3] st w Q) := zR_if (zstB zT_65_33 rfl) (by simp [zcmp])
theorem zT_65_36 : zT 65 36 = some (.aload_n 0, 1, 0, []) := by decide +kernel
theorem zr_65_36 {l1 l2 l3 : Option zV} {x : Option Nat} {st : List zV} {w : zW} {Q : Option zV → zW → Prop}  : zR 65 36 [some (.inr x), l1, l2, l3] st w Q = zR 65 37 [some (.inr x), l1, l2, l3] (.inr x :: st) w Q := zR_go (zst zT_65_36 rfl)
theorem zT_65_37 : zT 65 37 = some (.getfield 71, 3, 0, [(11, 21)]) := by decide +kernel
theorem zr_65_37 {l0 l1 l2 l3 : Option zV} {h : Nat} {st : List zV} {w : zW} {Q : Option zV → zW → Prop} (hk : zk w h = 11) : zR 65 37 [l0, l1, l2, l3] (.inr (some h) :: st) w Q = zR 65 40 [l0, l1, l2, l3] (.inr (zp w 93 h) :: st) w Q := zR_go (zst zT_65_37 (zget_r hk rfl))
theorem zT_65_40 : zT 65 40 = some (.iload_n 3, 1, 0, []) := by decide +kernel
theorem zr_65_40 {l0 l1 l2 : Option zV} {x : Int} {st : List zV} {w : zW} {Q : Option zV → zW → Prop}  : zR 65 40 [l0, l1, l2, some (.inl x)] st w Q = zR 65 41 [l0, l1, l2, some (.inl x)] (.inl x :: st) w Q := zR_go (zst zT_65_40 rfl)
theorem zT_65_41 : zT 65 41 = some (.iaload, 1, 0, []) := by decide +kernel
theorem zr_65_41 {l0 l1 l2 l3 : Option zV} {j : Int} {h : Nat} {st : List zV} {w : zW} {Q : Option zV → zW → Prop} (hk : (zk w h = zNC ∨ zk w h = zNC + 2) ∧ 0 ≤ zN j ∧ zN j < zl w h) : zR 65 41 [l0, l1, l2, l3] (.inl j :: .inr (some h) :: st) w Q = zR 65 42 [l0, l1, l2, l3] (.inl (za w h (zN j).toNat) :: st) w Q := zR_go (zst zT_65_41 (if_pos hk))
theorem zT_65_42 : zT 65 42 = some (.iconst 1, 1, 0, []) := by decide +kernel
theorem zr_65_42 {l0 l1 l2 l3 : Option zV} {st : List zV} {w : zW} {Q : Option zV → zW → Prop}  : zR 65 42 [l0, l1, l2, l3] st w Q = zR 65 43 [l0, l1, l2, l3] (.inl 1 :: st) w Q := zR_go (zst zT_65_42 rfl)
theorem zT_65_43 : zT 65 43 = some (.if_icmp .ne 11, 3, 0, []) := by decide +kernel
theorem zr_65_43 {l0 l1 l2 l3 : Option zV} {x y : Int} {st : List zV} {w : zW} {Q : Option zV → zW → Prop}  : zR 65 43 [l0, l1, l2, l3] (.inl y :: .inl x :: st) w Q = (if zN x ≠ zN y then zR 65 54 [l0, l1, l2, l3] st w Q else zR 65 46 [l0, l1, l2, l3] st w Q) := zR_if (zstB zT_65_43 rfl) (by simp [zcmp])
theorem zT_65_46 : zT 65 46 = some (.aload_n 0, 1, 0, []) := by decide +kernel
theorem zr_65_46 {l1 l2 l3 : Option zV} {x : Option Nat} {st : List zV} {w : zW} {Q : Option zV → zW → Prop}  : zR 65 46 [some (.inr x), l1, l2, l3] st w Q = zR 65 47 [some (.inr x), l1, l2, l3] (.inr x :: st) w Q := zR_go (zst zT_65_46 rfl)
theorem zT_65_47 : zT 65 47 = some (.iload_n 3, 1, 0, []) := by decide +kernel
theorem zr_65_47 {l0 l1 l2 : Option zV} {x : Int} {st : List zV} {w : zW} {Q : Option zV → zW → Prop}  : zR 65 47 [l0, l1, l2, some (.inl x)] st w Q = zR 65 48 [l0, l1, l2, some (.inl x)] (.inl x :: st) w Q := zR_go (zst zT_65_47 rfl)
theorem zT_65_48 : zT 65 48 = some (.invokevirtual 270, 3, 1, [(11, 60)]) := by decide +kernel
theorem zr_65_48 {l0 l1 l2 l3 : Option zV} {a0 : zV} {h : Nat} {st : List zV} {w : zW} {Q : Option zV → zW → Prop} (hs : st.length ≤ 8) (hk : zk w h = 11) : zR 65 48 [l0, l1, l2, l3] (a0 :: .inr (some h) :: st) w Q = zR 60 0 [some (.inr (some h)), some a0, none] [] w (fun r w2 => zR 65 51 [l0, l1, l2, l3] (r.toList ++ st) w2 Q) := zR_call (zst zT_65_48 (zcall_v [a0] rfl hs hk rfl))
theorem zT_65_51 : zT 65 51 = some (.goto 8, 3, 0, []) := by decide +kernel
theorem zr_65_51 {l0 l1 l2 l3 : Option zV} {st : List zV} {w : zW} {Q : Option zV → zW → Prop}  : zR 65 51 [l0, l1, l2, l3] st w Q = zR 65 59 [l0, l1, l2, l3] st w Q := zR_go (zst zT_65_51 rfl)
theorem zT_65_54 : zT 65 54 = some (.aload_n 0, 1, 0, []) := by decide +kernel
theorem zr_65_54 {l1 l2 l3 : Option zV} {x : Option Nat} {st : List zV} {w : zW} {Q : Option zV → zW → Prop}  : zR 65 54 [some (.inr x), l1, l2, l3] st w Q = zR 65 55 [some (.inr x), l1, l2, l3] (.inr x :: st) w Q := zR_go (zst zT_65_54 rfl)
theorem zT_65_55 : zT 65 55 = some (.iload_n 3, 1, 0, []) := by decide +kernel
theorem zr_65_55 {l0 l1 l2 : Option zV} {x : Int} {st : List zV} {w : zW} {Q : Option zV → zW → Prop}  : zR 65 55 [l0, l1, l2, some (.inl x)] st w Q = zR 65 56 [l0, l1, l2, some (.inl x)] (.inl x :: st) w Q := zR_go (zst zT_65_55 rfl)
theorem zT_65_56 : zT 65 56 = some (.invokevirtual 273, 3, 1, [(11, 54)]) := by decide +kernel
theorem zr_65_56 {l0 l1 l2 l3 : Option zV} {a0 : zV} {h : Nat} {st : List zV} {w : zW} {Q : Option zV → zW → Prop} (hs : st.length ≤ 8) (hk : zk w h = 11) : zR 65 56 [l0, l1, l2, l3] (a0 :: .inr (some h) :: st) w Q = zR 54 0 [some (.inr (some h)), some a0, none, none, none, none, none] [] w (fun r w2 => zR 65 59 [l0, l1, l2, l3] (r.toList ++ st) w2 Q) := zR_call (zst zT_65_56 (zcall_v [a0] rfl hs hk rfl))
theorem zT_65_59 : zT 65 59 = some (.iinc 3 1, 3, 0, []) := by decide +kernel
theorem zr_65_59 {l0 l1 l2 : Option zV} {x : Int} {st : List zV} {w : zW} {Q : Option zV → zW → Prop}  : zR 65 59 [l0, l1, l2, some (.inl x)] st w Q = zR 65 62 [l0, l1, l2, some (.inl (x + 1))] st w Q := zR_go (zst zT_65_59 rfl)
theorem zT_65_62 : zT 65 62 = some (.goto (-31), 3, 0, []) := by decide +kernel
theorem zr_65_62 {l0 l1 l2 l3 : Option zV} {st : List zV} {w : zW} {Q : Option zV → zW → Prop}  : zR 65 62 [l0, l1, l2, l3] st w Q = zR 65 31 [l0, l1, l2, l3] st w Q := zR_go (zst zT_65_62 rfl)
theorem zT_65_65 : zT 65 65 = some (.aload_n 0, 1, 0, []) := by decide +kernel
theorem zr_65_65 {l1 l2 l3 : Option zV} {x : Option Nat} {st : List zV} {w : zW} {Q : Option zV → zW → Prop}  : zR 65 65 [some (.inr x), l1, l2, l3] st w Q = zR 65 66 [some (.inr x), l1, l2, l3] (.inr x :: st) w Q := zR_go (zst zT_65_65 rfl)
theorem zT_65_66 : zT 65 66 = some (.invokevirtual 276, 3, 0, [(11, 64)]) := by decide +kernel
theorem zr_65_66 {l0 l1 l2 l3 : Option zV} {h : Nat} {st : List zV} {w : zW} {Q : Option zV → zW → Prop} (hs : st.length ≤ 8) (hk : zk w h = 11) : zR 65 66 [l0, l1, l2, l3] (.inr (some h) :: st) w Q = zR 64 0 [some (.inr (some h)), none] [] w (fun r w2 => zR 65 69 [l0, l1, l2, l3] (r.toList ++ st) w2 Q) := zR_call (zst zT_65_66 (zcall_v [] rfl hs hk rfl))
theorem zT_65_69 : zT 65 69 = some (.iinc 2 1, 3, 0, []) := by decide +kernel
theorem zr_65_69 {l0 l1 l3 : Option zV} {x : Int} {st : List zV} {w : zW} {Q : Option zV → zW → Prop}  : zR 65 69 [l0, l1, some (.inl x), l3] st w Q = zR 65 72 [l0, l1, some (.inl (x + 1)), l3] st w Q := zR_go (zst zT_65_69 rfl)
theorem zT_65_72 : zT 65 72 = some (.goto (-58), 3, 0, []) := by decide +kernel
theorem zr_65_72 {l0 l1 l2 l3 : Option zV} {st : List zV} {w : zW} {Q : Option zV → zW → Prop}  : zR 65 72 [l0, l1, l2, l3] st w Q = zR 65 14 [l0, l1, l2, l3] st w Q := zR_go (zst zT_65_72 rfl)
theorem zT_65_75 : zT 65 75 = some (.aload_n 0, 1, 0, []) := by decide +kernel
theorem zr_65_75 {l1 l2 l3 : Option zV} {x : Option Nat} {st : List zV} {w : zW} {Q : Option zV → zW → Prop}  : zR 65 75 [some (.inr x), l1, l2, l3] st w Q = zR 65 76 [some (.inr x), l1, l2, l3] (.inr x :: st) w Q := zR_go (zst zT_65_75 rfl)
theorem zT_65_76 : zT 65 76 = some (.getfield 267, 3, 0, [(11, 0)]) := by decide +kernel
theorem zr_65_76 {l0 l1 l2 l3 : Option zV} {h : Nat} {st : List zV} {w : zW} {Q : Option zV → zW → Prop} (hk : zk w h = 11) : zR 65 76 [l0, l1, l2, l3] (.inr (some h) :: st) w Q = zR 65 79 [l0, l1, l2, l3] (.inl (zf w 72 h) :: st) w Q := zR_go (zst zT_65_76 (zget_i hk (Or.inl rfl)))
theorem zT_65_79 : zT 65 79 = some (.ireturn, 1, 0, []) := by decide +kernel
theorem zr_65_79 {l0 l1 l2 l3 : Option zV} {x : Int} {w : zW} {Q : Option zV → zW → Prop}  : zR 65 79 [l0, l1, l2, l3] [.inl x] w Q = Q (some (.inl x)) w := zR_ret (zst zT_65_79 rfl)
theorem zT_66_0 : zT 66 0 = some (.iload_n 1, 1, 0, []) := by decide +kernel
theorem zr_66_0 {l0 l2 : Option zV} {x : Int} {st : List zV} {w : zW} {Q : Option zV → zW → Prop}  : zR 66 0 [l0, some (.inl x), l2] st w Q = zR 66 1 [l0, some (.inl x), l2] (.inl x :: st) w Q := zR_go (zst zT_66_0 rfl)
theorem zT_66_1 : zT 66 1 = some (.iconst 0, 1, 0, []) := by decide +kernel
theorem zr_66_1 {l0 l1 l2 : Option zV} {st : List zV} {w : zW} {Q : Option zV → zW → Prop}  : zR 66 1 [l0, l1, l2] st w Q = zR 66 2 [l0, l1, l2] (.inl 0 :: st) w Q := zR_go (zst zT_66_1 rfl)
theorem zT_66_2 : zT 66 2 = some (.iconst 1, 1, 0, []) := by decide +kernel
theorem zr_66_2 {l0 l1 l2 : Option zV} {st : List zV} {w : zW} {Q : Option zV → zW → Prop}  : zR 66 2 [l0, l1, l2] st w Q = zR 66 3 [l0, l1, l2] (.inl 1 :: st) w Q := zR_go (zst zT_66_2 rfl)
theorem zT_66_3 : zT 66 3 = some (.invokestatic 150, 3, 3, [(24, 1)]) := by decide +kernel
theorem zr_66_3 {l0 l1 l2 : Option zV} {a0 a1 a2 : zV} {st : List zV} {w : zW} {Q : Option zV → zW → Prop} (hs : st.length ≤ 8) : zR 66 3 [l0, l1, l2] (a2 :: a1 :: a0 :: st) w Q = zR 24 0 [some a0, some a1, some a2] [] w (fun r w2 => zR 66 6 [l0, l1, l2] (r.toList ++ st) w2 Q) := zR_call (zst zT_66_3 ((zcall_s (z := 3) (pc := 3) (j := 24) (ls := [l0, l1, l2]) (w := w) [a2, a1, a0] rfl hs : zi_static 3 [(24, 1)] 3 [l0, l1, l2] ([a2, a1, a0] ++ st) w = _)))
theorem zT_66_6 : zT 66 6 = some (.ifCond .eq 12, 3, 0, []) := by decide +kernel
theorem zr_66_6 {l0 l1 l2 : Option zV} {x : Int} {st : List zV} {w : zW} {Q : Option zV → zW → Prop}  : zR 66 6 [l0, l1, l2] (.inl x :: st) w Q = (if zN x = 0 then zR 66 18 [l0, l1, l2] st w Q else zR 66 9 [l0, l1, l2] st w Q) := zR_if (zstB zT_66_6 rfl) (by simp [zcmp])
theorem zT_66_9 : zT 66 9 = some (.iload_n 2, 1, 0, []) := by decide +kernel
theorem zr_66_9 {l0 l1 : Option zV} {x : Int} {st : List zV} {w : zW} {Q : Option zV → zW → Prop}  : zR 66 9 [l0, l1, some (.inl x)] st w Q = zR 66 10 [l0, l1, some (.inl x)] (.inl x :: st) w Q := zR_go (zst zT_66_9 rfl)
theorem zT_66_10 : zT 66 10 = some (.iconst 0, 1, 0, []) := by decide +kernel
theorem zr_66_10 {l0 l1 l2 : Option zV} {st : List zV} {w : zW} {Q : Option zV → zW → Prop}  : zR 66 10 [l0, l1, l2] st w Q = zR 66 11 [l0, l1, l2] (.inl 0 :: st) w Q := zR_go (zst zT_66_10 rfl)
theorem zT_66_11 : zT 66 11 = some (.iconst 2, 1, 0, []) := by decide +kernel
theorem zr_66_11 {l0 l1 l2 : Option zV} {st : List zV} {w : zW} {Q : Option zV → zW → Prop}  : zR 66 11 [l0, l1, l2] st w Q = zR 66 12 [l0, l1, l2] (.inl 2 :: st) w Q := zR_go (zst zT_66_11 rfl)
theorem zT_66_12 : zT 66 12 = some (.invokestatic 150, 3, 3, [(24, 1)]) := by decide +kernel
theorem zr_66_12 {l0 l1 l2 : Option zV} {a0 a1 a2 : zV} {st : List zV} {w : zW} {Q : Option zV → zW → Prop} (hs : st.length ≤ 8) : zR 66 12 [l0, l1, l2] (a2 :: a1 :: a0 :: st) w Q = zR 24 0 [some a0, some a1, some a2] [] w (fun r w2 => zR 66 15 [l0, l1, l2] (r.toList ++ st) w2 Q) := zR_call (zst zT_66_12 ((zcall_s (z := 3) (pc := 12) (j := 24) (ls := [l0, l1, l2]) (w := w) [a2, a1, a0] rfl hs : zi_static 3 [(24, 1)] 12 [l0, l1, l2] ([a2, a1, a0] ++ st) w = _)))
theorem zT_66_15 : zT 66 15 = some (.ifCond .ne 5, 3, 0, []) := by decide +kernel
theorem zr_66_15 {l0 l1 l2 : Option zV} {x : Int} {st : List zV} {w : zW} {Q : Option zV → zW → Prop}  : zR 66 15 [l0, l1, l2] (.inl x :: st) w Q = (if zN x ≠ 0 then zR 66 20 [l0, l1, l2] st w Q else zR 66 18 [l0, l1, l2] st w Q) := zR_if (zstB zT_66_15 rfl) (by simp [zcmp])
theorem zT_66_18 : zT 66 18 = some (.iconst (-1), 1, 0, []) := by decide +kernel
theorem zr_66_18 {l0 l1 l2 : Option zV} {st : List zV} {w : zW} {Q : Option zV → zW → Prop}  : zR 66 18 [l0, l1, l2] st w Q = zR 66 19 [l0, l1, l2] (.inl (-1) :: st) w Q := zR_go (zst zT_66_18 rfl)
theorem zT_66_19 : zT 66 19 = some (.ireturn, 1, 0, []) := by decide +kernel
theorem zr_66_19 {l0 l1 l2 : Option zV} {x : Int} {w : zW} {Q : Option zV → zW → Prop}  : zR 66 19 [l0, l1, l2] [.inl x] w Q = Q (some (.inl x)) w := zR_ret (zst zT_66_19 rfl)
theorem zT_66_20 : zT 66 20 = some (.iload_n 2, 1, 0, []) := by decide +kernel
theorem zr_66_20 {l0 l1 : Option zV} {x : Int} {st : List zV} {w : zW} {Q : Option zV → zW → Prop}  : zR 66 20 [l0, l1, some (.inl x)] st w Q = zR 66 21 [l0, l1, some (.inl x)] (.inl x :: st) w Q := zR_go (zst zT_66_20 rfl)
theorem zT_66_21 : zT 66 21 = some (.ifCond .ne 12, 3, 0, []) := by decide +kernel
theorem zr_66_21 {l0 l1 l2 : Option zV} {x : Int} {st : List zV} {w : zW} {Q : Option zV → zW → Prop}  : zR 66 21 [l0, l1, l2] (.inl x :: st) w Q = (if zN x ≠ 0 then zR 66 33 [l0, l1, l2] st w Q else zR 66 24 [l0, l1, l2] st w Q) := zR_if (zstB zT_66_21 rfl) (by simp [zcmp])
theorem zT_66_24 : zT 66 24 = some (.aload_n 0, 1, 0, []) := by decide +kernel
theorem zr_66_24 {l1 l2 : Option zV} {x : Option Nat} {st : List zV} {w : zW} {Q : Option zV → zW → Prop}  : zR 66 24 [some (.inr x), l1, l2] st w Q = zR 66 25 [some (.inr x), l1, l2] (.inr x :: st) w Q := zR_go (zst zT_66_24 rfl)
theorem zT_66_25 : zT 66 25 = some (.getfield 71, 3, 0, [(11, 21)]) := by decide +kernel
theorem zr_66_25 {l0 l1 l2 : Option zV} {h : Nat} {st : List zV} {w : zW} {Q : Option zV → zW → Prop} (hk : zk w h = 11) : zR 66 25 [l0, l1, l2] (.inr (some h) :: st) w Q = zR 66 28 [l0, l1, l2] (.inr (zp w 93 h) :: st) w Q := zR_go (zst zT_66_25 (zget_r hk rfl))
theorem zT_66_28 : zT 66 28 = some (.iload_n 1, 1, 0, []) := by decide +kernel
theorem zr_66_28 {l0 l2 : Option zV} {x : Int} {st : List zV} {w : zW} {Q : Option zV → zW → Prop}  : zR 66 28 [l0, some (.inl x), l2] st w Q = zR 66 29 [l0, some (.inl x), l2] (.inl x :: st) w Q := zR_go (zst zT_66_28 rfl)
theorem zT_66_29 : zT 66 29 = some (.iaload, 1, 0, []) := by decide +kernel
theorem zr_66_29 {l0 l1 l2 : Option zV} {j : Int} {h : Nat} {st : List zV} {w : zW} {Q : Option zV → zW → Prop} (hk : (zk w h = zNC ∨ zk w h = zNC + 2) ∧ 0 ≤ zN j ∧ zN j < zl w h) : zR 66 29 [l0, l1, l2] (.inl j :: .inr (some h) :: st) w Q = zR 66 30 [l0, l1, l2] (.inl (za w h (zN j).toNat) :: st) w Q := zR_go (zst zT_66_29 (if_pos hk))
theorem zT_66_30 : zT 66 30 = some (.goto 23, 3, 0, []) := by decide +kernel
theorem zr_66_30 {l0 l1 l2 : Option zV} {st : List zV} {w : zW} {Q : Option zV → zW → Prop}  : zR 66 30 [l0, l1, l2] st w Q = zR 66 53 [l0, l1, l2] st w Q := zR_go (zst zT_66_30 rfl)
theorem zT_66_33 : zT 66 33 = some (.iload_n 2, 1, 0, []) := by decide +kernel
theorem zr_66_33 {l0 l1 : Option zV} {x : Int} {st : List zV} {w : zW} {Q : Option zV → zW → Prop}  : zR 66 33 [l0, l1, some (.inl x)] st w Q = zR 66 34 [l0, l1, some (.inl x)] (.inl x :: st) w Q := zR_go (zst zT_66_33 rfl)
theorem zT_66_34 : zT 66 34 = some (.iconst 1, 1, 0, []) := by decide +kernel
theorem zr_66_34 {l0 l1 l2 : Option zV} {st : List zV} {w : zW} {Q : Option zV → zW → Prop}  : zR 66 34 [l0, l1, l2] st w Q = zR 66 35 [l0, l1, l2] (.inl 1 :: st) w Q := zR_go (zst zT_66_34 rfl)
theorem zT_66_35 : zT 66 35 = some (.if_icmp .ne 12, 3, 0, []) := by decide +kernel
theorem zr_66_35 {l0 l1 l2 : Option zV} {x y : Int} {st : List zV} {w : zW} {Q : Option zV → zW → Prop}  : zR 66 35 [l0, l1, l2] (.inl y :: .inl x :: st) w Q = (if zN x ≠ zN y then zR 66 47 [l0, l1, l2] st w Q else zR 66 38 [l0, l1, l2] st w Q) := zR_if (zstB zT_66_35 rfl) (by simp [zcmp])
theorem zT_66_38 : zT 66 38 = some (.aload_n 0, 1, 0, []) := by decide +kernel
theorem zr_66_38 {l1 l2 : Option zV} {x : Option Nat} {st : List zV} {w : zW} {Q : Option zV → zW → Prop}  : zR 66 38 [some (.inr x), l1, l2] st w Q = zR 66 39 [some (.inr x), l1, l2] (.inr x :: st) w Q := zR_go (zst zT_66_38 rfl)
theorem zT_66_39 : zT 66 39 = some (.getfield 83, 3, 0, [(11, 25)]) := by decide +kernel
theorem zr_66_39 {l0 l1 l2 : Option zV} {h : Nat} {st : List zV} {w : zW} {Q : Option zV → zW → Prop} (hk : zk w h = 11) : zR 66 39 [l0, l1, l2] (.inr (some h) :: st) w Q = zR 66 42 [l0, l1, l2] (.inr (zp w 97 h) :: st) w Q := zR_go (zst zT_66_39 (zget_r hk rfl))
theorem zT_66_42 : zT 66 42 = some (.iload_n 1, 1, 0, []) := by decide +kernel
theorem zr_66_42 {l0 l2 : Option zV} {x : Int} {st : List zV} {w : zW} {Q : Option zV → zW → Prop}  : zR 66 42 [l0, some (.inl x), l2] st w Q = zR 66 43 [l0, some (.inl x), l2] (.inl x :: st) w Q := zR_go (zst zT_66_42 rfl)
theorem zT_66_43 : zT 66 43 = some (.iaload, 1, 0, []) := by decide +kernel
theorem zr_66_43 {l0 l1 l2 : Option zV} {j : Int} {h : Nat} {st : List zV} {w : zW} {Q : Option zV → zW → Prop} (hk : (zk w h = zNC ∨ zk w h = zNC + 2) ∧ 0 ≤ zN j ∧ zN j < zl w h) : zR 66 43 [l0, l1, l2] (.inl j :: .inr (some h) :: st) w Q = zR 66 44 [l0, l1, l2] (.inl (za w h (zN j).toNat) :: st) w Q := zR_go (zst zT_66_43 (if_pos hk))
theorem zT_66_44 : zT 66 44 = some (.goto 9, 3, 0, []) := by decide +kernel
theorem zr_66_44 {l0 l1 l2 : Option zV} {st : List zV} {w : zW} {Q : Option zV → zW → Prop}  : zR 66 44 [l0, l1, l2] st w Q = zR 66 53 [l0, l1, l2] st w Q := zR_go (zst zT_66_44 rfl)
theorem zT_66_47 : zT 66 47 = some (.aload_n 0, 1, 0, []) := by decide +kernel
theorem zr_66_47 {l1 l2 : Option zV} {x : Option Nat} {st : List zV} {w : zW} {Q : Option zV → zW → Prop}  : zR 66 47 [some (.inr x), l1, l2] st w Q = zR 66 48 [some (.inr x), l1, l2] (.inr x :: st) w Q := zR_go (zst zT_66_47 rfl)
theorem zT_66_48 : zT 66 48 = some (.getfield 80, 3, 0, [(11, 24)]) := by decide +kernel
theorem zr_66_48 {l0 l1 l2 : Option zV} {h : Nat} {st : List zV} {w : zW} {Q : Option zV → zW → Prop} (hk : zk w h = 11) : zR 66 48 [l0, l1, l2] (.inr (some h) :: st) w Q = zR 66 51 [l0, l1, l2] (.inr (zp w 96 h) :: st) w Q := zR_go (zst zT_66_48 (zget_r hk rfl))
theorem zT_66_51 : zT 66 51 = some (.iload_n 1, 1, 0, []) := by decide +kernel
theorem zr_66_51 {l0 l2 : Option zV} {x : Int} {st : List zV} {w : zW} {Q : Option zV → zW → Prop}  : zR 66 51 [l0, some (.inl x), l2] st w Q = zR 66 52 [l0, some (.inl x), l2] (.inl x :: st) w Q := zR_go (zst zT_66_51 rfl)
theorem zT_66_52 : zT 66 52 = some (.iaload, 1, 0, []) := by decide +kernel
theorem zr_66_52 {l0 l1 l2 : Option zV} {j : Int} {h : Nat} {st : List zV} {w : zW} {Q : Option zV → zW → Prop} (hk : (zk w h = zNC ∨ zk w h = zNC + 2) ∧ 0 ≤ zN j ∧ zN j < zl w h) : zR 66 52 [l0, l1, l2] (.inl j :: .inr (some h) :: st) w Q = zR 66 53 [l0, l1, l2] (.inl (za w h (zN j).toNat) :: st) w Q := zR_go (zst zT_66_52 (if_pos hk))
theorem zT_66_53 : zT 66 53 = some (.ireturn, 1, 0, []) := by decide +kernel
theorem zr_66_53 {l0 l1 l2 : Option zV} {x : Int} {w : zW} {Q : Option zV → zW → Prop}  : zR 66 53 [l0, l1, l2] [.inl x] w Q = Q (some (.inl x)) w := zR_ret (zst zT_66_53 rfl)
theorem zT_67_0 : zT 67 0 = some (.iload_n 1, 1, 0, []) := by decide +kernel
theorem zr_67_0 {l0 l2 : Option zV} {x : Int} {st : List zV} {w : zW} {Q : Option zV → zW → Prop}  : zR 67 0 [l0, some (.inl x), l2] st w Q = zR 67 1 [l0, some (.inl x), l2] (.inl x :: st) w Q := zR_go (zst zT_67_0 rfl)
theorem zT_67_1 : zT 67 1 = some (.iconst 0, 1, 0, []) := by decide +kernel
theorem zr_67_1 {l0 l1 l2 : Option zV} {st : List zV} {w : zW} {Q : Option zV → zW → Prop}  : zR 67 1 [l0, l1, l2] st w Q = zR 67 2 [l0, l1, l2] (.inl 0 :: st) w Q := zR_go (zst zT_67_1 rfl)
theorem zT_67_2 : zT 67 2 = some (.bipush 6, 2, 0, []) := by decide +kernel
theorem zr_67_2 {l0 l1 l2 : Option zV} {st : List zV} {w : zW} {Q : Option zV → zW → Prop}  : zR 67 2 [l0, l1, l2] st w Q = zR 67 4 [l0, l1, l2] (.inl 6 :: st) w Q := zR_go (zst zT_67_2 rfl)
theorem zT_67_4 : zT 67 4 = some (.invokestatic 150, 3, 3, [(24, 1)]) := by decide +kernel
theorem zr_67_4 {l0 l1 l2 : Option zV} {a0 a1 a2 : zV} {st : List zV} {w : zW} {Q : Option zV → zW → Prop} (hs : st.length ≤ 8) : zR 67 4 [l0, l1, l2] (a2 :: a1 :: a0 :: st) w Q = zR 24 0 [some a0, some a1, some a2] [] w (fun r w2 => zR 67 7 [l0, l1, l2] (r.toList ++ st) w2 Q) := zR_call (zst zT_67_4 ((zcall_s (z := 3) (pc := 4) (j := 24) (ls := [l0, l1, l2]) (w := w) [a2, a1, a0] rfl hs : zi_static 3 [(24, 1)] 4 [l0, l1, l2] ([a2, a1, a0] ++ st) w = _)))
theorem zT_67_7 : zT 67 7 = some (.ifCond .eq 22, 3, 0, []) := by decide +kernel
theorem zr_67_7 {l0 l1 l2 : Option zV} {x : Int} {st : List zV} {w : zW} {Q : Option zV → zW → Prop}  : zR 67 7 [l0, l1, l2] (.inl x :: st) w Q = (if zN x = 0 then zR 67 29 [l0, l1, l2] st w Q else zR 67 10 [l0, l1, l2] st w Q) := zR_if (zstB zT_67_7 rfl) (by simp [zcmp])
theorem zT_67_10 : zT 67 10 = some (.iload_n 2, 1, 0, []) := by decide +kernel
theorem zr_67_10 {l0 l1 : Option zV} {x : Int} {st : List zV} {w : zW} {Q : Option zV → zW → Prop}  : zR 67 10 [l0, l1, some (.inl x)] st w Q = zR 67 11 [l0, l1, some (.inl x)] (.inl x :: st) w Q := zR_go (zst zT_67_10 rfl)
theorem zT_67_11 : zT 67 11 = some (.iconst 0, 1, 0, []) := by decide +kernel
theorem zr_67_11 {l0 l1 l2 : Option zV} {st : List zV} {w : zW} {Q : Option zV → zW → Prop}  : zR 67 11 [l0, l1, l2] st w Q = zR 67 12 [l0, l1, l2] (.inl 0 :: st) w Q := zR_go (zst zT_67_11 rfl)
theorem zT_67_12 : zT 67 12 = some (.bipush 7, 2, 0, []) := by decide +kernel
theorem zr_67_12 {l0 l1 l2 : Option zV} {st : List zV} {w : zW} {Q : Option zV → zW → Prop}  : zR 67 12 [l0, l1, l2] st w Q = zR 67 14 [l0, l1, l2] (.inl 7 :: st) w Q := zR_go (zst zT_67_12 rfl)
theorem zT_67_14 : zT 67 14 = some (.invokestatic 150, 3, 3, [(24, 1)]) := by decide +kernel
theorem zr_67_14 {l0 l1 l2 : Option zV} {a0 a1 a2 : zV} {st : List zV} {w : zW} {Q : Option zV → zW → Prop} (hs : st.length ≤ 8) : zR 67 14 [l0, l1, l2] (a2 :: a1 :: a0 :: st) w Q = zR 24 0 [some a0, some a1, some a2] [] w (fun r w2 => zR 67 17 [l0, l1, l2] (r.toList ++ st) w2 Q) := zR_call (zst zT_67_14 ((zcall_s (z := 3) (pc := 14) (j := 24) (ls := [l0, l1, l2]) (w := w) [a2, a1, a0] rfl hs : zi_static 3 [(24, 1)] 14 [l0, l1, l2] ([a2, a1, a0] ++ st) w = _)))
theorem zT_67_17 : zT 67 17 = some (.ifCond .eq 12, 3, 0, []) := by decide +kernel
theorem zr_67_17 {l0 l1 l2 : Option zV} {x : Int} {st : List zV} {w : zW} {Q : Option zV → zW → Prop}  : zR 67 17 [l0, l1, l2] (.inl x :: st) w Q = (if zN x = 0 then zR 67 29 [l0, l1, l2] st w Q else zR 67 20 [l0, l1, l2] st w Q) := zR_if (zstB zT_67_17 rfl) (by simp [zcmp])
theorem zT_67_20 : zT 67 20 = some (.aload_n 0, 1, 0, []) := by decide +kernel
theorem zr_67_20 {l1 l2 : Option zV} {x : Option Nat} {st : List zV} {w : zW} {Q : Option zV → zW → Prop}  : zR 67 20 [some (.inr x), l1, l2] st w Q = zR 67 21 [some (.inr x), l1, l2] (.inr x :: st) w Q := zR_go (zst zT_67_20 rfl)
theorem zT_67_21 : zT 67 21 = some (.getfield 7, 3, 0, [(11, 1)]) := by decide +kernel
theorem zr_67_21 {l0 l1 l2 : Option zV} {h : Nat} {st : List zV} {w : zW} {Q : Option zV → zW → Prop} (hk : zk w h = 11) : zR 67 21 [l0, l1, l2] (.inr (some h) :: st) w Q = zR 67 24 [l0, l1, l2] (.inr (zp w 73 h) :: st) w Q := zR_go (zst zT_67_21 (zget_r hk rfl))
theorem zT_67_24 : zT 67 24 = some (.iload_n 1, 1, 0, []) := by decide +kernel
theorem zr_67_24 {l0 l2 : Option zV} {x : Int} {st : List zV} {w : zW} {Q : Option zV → zW → Prop}  : zR 67 24 [l0, some (.inl x), l2] st w Q = zR 67 25 [l0, some (.inl x), l2] (.inl x :: st) w Q := zR_go (zst zT_67_24 rfl)
theorem zT_67_25 : zT 67 25 = some (.iaload, 1, 0, []) := by decide +kernel
theorem zr_67_25 {l0 l1 l2 : Option zV} {j : Int} {h : Nat} {st : List zV} {w : zW} {Q : Option zV → zW → Prop} (hk : (zk w h = zNC ∨ zk w h = zNC + 2) ∧ 0 ≤ zN j ∧ zN j < zl w h) : zR 67 25 [l0, l1, l2] (.inl j :: .inr (some h) :: st) w Q = zR 67 26 [l0, l1, l2] (.inl (za w h (zN j).toNat) :: st) w Q := zR_go (zst zT_67_25 (if_pos hk))
theorem zT_67_26 : zT 67 26 = some (.ifCond .ge 5, 3, 0, []) := by decide +kernel
theorem zr_67_26 {l0 l1 l2 : Option zV} {x : Int} {st : List zV} {w : zW} {Q : Option zV → zW → Prop}  : zR 67 26 [l0, l1, l2] (.inl x :: st) w Q = (if 0 ≤ zN x then zR 67 31 [l0, l1, l2] st w Q else zR 67 29 [l0, l1, l2] st w Q) := zR_if (zstB zT_67_26 rfl) (by simp [zcmp])
theorem zT_67_29 : zT 67 29 = some (.iconst (-1), 1, 0, []) := by decide +kernel
theorem zr_67_29 {l0 l1 l2 : Option zV} {st : List zV} {w : zW} {Q : Option zV → zW → Prop}  : zR 67 29 [l0, l1, l2] st w Q = zR 67 30 [l0, l1, l2] (.inl (-1) :: st) w Q := zR_go (zst zT_67_29 rfl)
theorem zT_67_30 : zT 67 30 = some (.ireturn, 1, 0, []) := by decide +kernel
theorem zr_67_30 {l0 l1 l2 : Option zV} {x : Int} {w : zW} {Q : Option zV → zW → Prop}  : zR 67 30 [l0, l1, l2] [.inl x] w Q = Q (some (.inl x)) w := zR_ret (zst zT_67_30 rfl)
theorem zT_67_31 : zT 67 31 = some (.iload_n 2, 1, 0, []) := by decide +kernel
theorem zr_67_31 {l0 l1 : Option zV} {x : Int} {st : List zV} {w : zW} {Q : Option zV → zW → Prop}  : zR 67 31 [l0, l1, some (.inl x)] st w Q = zR 67 32 [l0, l1, some (.inl x)] (.inl x :: st) w Q := zR_go (zst zT_67_31 rfl)
theorem zT_67_32 : zT 67 32 = some (.iconst 3, 1, 0, []) := by decide +kernel
theorem zr_67_32 {l0 l1 l2 : Option zV} {st : List zV} {w : zW} {Q : Option zV → zW → Prop}  : zR 67 32 [l0, l1, l2] st w Q = zR 67 33 [l0, l1, l2] (.inl 3 :: st) w Q := zR_go (zst zT_67_32 rfl)
theorem zT_67_33 : zT 67 33 = some (.if_icmp .ge 37, 3, 0, []) := by decide +kernel
theorem zr_67_33 {l0 l1 l2 : Option zV} {x y : Int} {st : List zV} {w : zW} {Q : Option zV → zW → Prop}  : zR 67 33 [l0, l1, l2] (.inl y :: .inl x :: st) w Q = (if zN y ≤ zN x then zR 67 70 [l0, l1, l2] st w Q else zR 67 36 [l0, l1, l2] st w Q) := zR_if (zstB zT_67_33 rfl) (by simp [zcmp])
theorem zT_67_36 : zT 67 36 = some (.iload_n 2, 1, 0, []) := by decide +kernel
theorem zr_67_36 {l0 l1 : Option zV} {x : Int} {st : List zV} {w : zW} {Q : Option zV → zW → Prop}  : zR 67 36 [l0, l1, some (.inl x)] st w Q = zR 67 37 [l0, l1, some (.inl x)] (.inl x :: st) w Q := zR_go (zst zT_67_36 rfl)
theorem zT_67_37 : zT 67 37 = some (.ifCond .ne 12, 3, 0, []) := by decide +kernel
theorem zr_67_37 {l0 l1 l2 : Option zV} {x : Int} {st : List zV} {w : zW} {Q : Option zV → zW → Prop}  : zR 67 37 [l0, l1, l2] (.inl x :: st) w Q = (if zN x ≠ 0 then zR 67 49 [l0, l1, l2] st w Q else zR 67 40 [l0, l1, l2] st w Q) := zR_if (zstB zT_67_37 rfl) (by simp [zcmp])
theorem zT_67_40 : zT 67 40 = some (.aload_n 0, 1, 0, []) := by decide +kernel
theorem zr_67_40 {l1 l2 : Option zV} {x : Option Nat} {st : List zV} {w : zW} {Q : Option zV → zW → Prop}  : zR 67 40 [some (.inr x), l1, l2] st w Q = zR 67 41 [some (.inr x), l1, l2] (.inr x :: st) w Q := zR_go (zst zT_67_40 rfl)
theorem zT_67_41 : zT 67 41 = some (.getfield 7, 3, 0, [(11, 1)]) := by decide +kernel
theorem zr_67_41 {l0 l1 l2 : Option zV} {h : Nat} {st : List zV} {w : zW} {Q : Option zV → zW → Prop} (hk : zk w h = 11) : zR 67 41 [l0, l1, l2] (.inr (some h) :: st) w Q = zR 67 44 [l0, l1, l2] (.inr (zp w 73 h) :: st) w Q := zR_go (zst zT_67_41 (zget_r hk rfl))
theorem zT_67_44 : zT 67 44 = some (.iload_n 1, 1, 0, []) := by decide +kernel
theorem zr_67_44 {l0 l2 : Option zV} {x : Int} {st : List zV} {w : zW} {Q : Option zV → zW → Prop}  : zR 67 44 [l0, some (.inl x), l2] st w Q = zR 67 45 [l0, some (.inl x), l2] (.inl x :: st) w Q := zR_go (zst zT_67_44 rfl)
theorem zT_67_45 : zT 67 45 = some (.iaload, 1, 0, []) := by decide +kernel
theorem zr_67_45 {l0 l1 l2 : Option zV} {j : Int} {h : Nat} {st : List zV} {w : zW} {Q : Option zV → zW → Prop} (hk : (zk w h = zNC ∨ zk w h = zNC + 2) ∧ 0 ≤ zN j ∧ zN j < zl w h) : zR 67 45 [l0, l1, l2] (.inl j :: .inr (some h) :: st) w Q = zR 67 46 [l0, l1, l2] (.inl (za w h (zN j).toNat) :: st) w Q := zR_go (zst zT_67_45 (if_pos hk))
theorem zT_67_46 : zT 67 46 = some (.goto 23, 3, 0, []) := by decide +kernel
theorem zr_67_46 {l0 l1 l2 : Option zV} {st : List zV} {w : zW} {Q : Option zV → zW → Prop}  : zR 67 46 [l0, l1, l2] st w Q = zR 67 69 [l0, l1, l2] st w Q := zR_go (zst zT_67_46 rfl)
theorem zT_67_49 : zT 67 49 = some (.iload_n 2, 1, 0, []) := by decide +kernel
theorem zr_67_49 {l0 l1 : Option zV} {x : Int} {st : List zV} {w : zW} {Q : Option zV → zW → Prop}  : zR 67 49 [l0, l1, some (.inl x)] st w Q = zR 67 50 [l0, l1, some (.inl x)] (.inl x :: st) w Q := zR_go (zst zT_67_49 rfl)
theorem zT_67_50 : zT 67 50 = some (.iconst 1, 1, 0, []) := by decide +kernel
theorem zr_67_50 {l0 l1 l2 : Option zV} {st : List zV} {w : zW} {Q : Option zV → zW → Prop}  : zR 67 50 [l0, l1, l2] st w Q = zR 67 51 [l0, l1, l2] (.inl 1 :: st) w Q := zR_go (zst zT_67_50 rfl)
theorem zT_67_51 : zT 67 51 = some (.if_icmp .ne 12, 3, 0, []) := by decide +kernel
theorem zr_67_51 {l0 l1 l2 : Option zV} {x y : Int} {st : List zV} {w : zW} {Q : Option zV → zW → Prop}  : zR 67 51 [l0, l1, l2] (.inl y :: .inl x :: st) w Q = (if zN x ≠ zN y then zR 67 63 [l0, l1, l2] st w Q else zR 67 54 [l0, l1, l2] st w Q) := zR_if (zstB zT_67_51 rfl) (by simp [zcmp])
theorem zT_67_54 : zT 67 54 = some (.aload_n 0, 1, 0, []) := by decide +kernel
theorem zr_67_54 {l1 l2 : Option zV} {x : Option Nat} {st : List zV} {w : zW} {Q : Option zV → zW → Prop}  : zR 67 54 [some (.inr x), l1, l2] st w Q = zR 67 55 [some (.inr x), l1, l2] (.inr x :: st) w Q := zR_go (zst zT_67_54 rfl)
theorem zT_67_55 : zT 67 55 = some (.getfield 13, 3, 0, [(11, 2)]) := by decide +kernel
theorem zr_67_55 {l0 l1 l2 : Option zV} {h : Nat} {st : List zV} {w : zW} {Q : Option zV → zW → Prop} (hk : zk w h = 11) : zR 67 55 [l0, l1, l2] (.inr (some h) :: st) w Q = zR 67 58 [l0, l1, l2] (.inr (zp w 74 h) :: st) w Q := zR_go (zst zT_67_55 (zget_r hk rfl))
theorem zT_67_58 : zT 67 58 = some (.iload_n 1, 1, 0, []) := by decide +kernel
theorem zr_67_58 {l0 l2 : Option zV} {x : Int} {st : List zV} {w : zW} {Q : Option zV → zW → Prop}  : zR 67 58 [l0, some (.inl x), l2] st w Q = zR 67 59 [l0, some (.inl x), l2] (.inl x :: st) w Q := zR_go (zst zT_67_58 rfl)
theorem zT_67_59 : zT 67 59 = some (.iaload, 1, 0, []) := by decide +kernel
theorem zr_67_59 {l0 l1 l2 : Option zV} {j : Int} {h : Nat} {st : List zV} {w : zW} {Q : Option zV → zW → Prop} (hk : (zk w h = zNC ∨ zk w h = zNC + 2) ∧ 0 ≤ zN j ∧ zN j < zl w h) : zR 67 59 [l0, l1, l2] (.inl j :: .inr (some h) :: st) w Q = zR 67 60 [l0, l1, l2] (.inl (za w h (zN j).toNat) :: st) w Q := zR_go (zst zT_67_59 (if_pos hk))
theorem zT_67_60 : zT 67 60 = some (.goto 9, 3, 0, []) := by decide +kernel
theorem zr_67_60 {l0 l1 l2 : Option zV} {st : List zV} {w : zW} {Q : Option zV → zW → Prop}  : zR 67 60 [l0, l1, l2] st w Q = zR 67 69 [l0, l1, l2] st w Q := zR_go (zst zT_67_60 rfl)
theorem zT_67_63 : zT 67 63 = some (.aload_n 0, 1, 0, []) := by decide +kernel
theorem zr_67_63 {l1 l2 : Option zV} {x : Option Nat} {st : List zV} {w : zW} {Q : Option zV → zW → Prop}  : zR 67 63 [some (.inr x), l1, l2] st w Q = zR 67 64 [some (.inr x), l1, l2] (.inr x :: st) w Q := zR_go (zst zT_67_63 rfl)
theorem zT_67_64 : zT 67 64 = some (.getfield 16, 3, 0, [(11, 3)]) := by decide +kernel
theorem zr_67_64 {l0 l1 l2 : Option zV} {h : Nat} {st : List zV} {w : zW} {Q : Option zV → zW → Prop} (hk : zk w h = 11) : zR 67 64 [l0, l1, l2] (.inr (some h) :: st) w Q = zR 67 67 [l0, l1, l2] (.inr (zp w 75 h) :: st) w Q := zR_go (zst zT_67_64 (zget_r hk rfl))
theorem zT_67_67 : zT 67 67 = some (.iload_n 1, 1, 0, []) := by decide +kernel
theorem zr_67_67 {l0 l2 : Option zV} {x : Int} {st : List zV} {w : zW} {Q : Option zV → zW → Prop}  : zR 67 67 [l0, some (.inl x), l2] st w Q = zR 67 68 [l0, some (.inl x), l2] (.inl x :: st) w Q := zR_go (zst zT_67_67 rfl)
theorem zT_67_68 : zT 67 68 = some (.iaload, 1, 0, []) := by decide +kernel
theorem zr_67_68 {l0 l1 l2 : Option zV} {j : Int} {h : Nat} {st : List zV} {w : zW} {Q : Option zV → zW → Prop} (hk : (zk w h = zNC ∨ zk w h = zNC + 2) ∧ 0 ≤ zN j ∧ zN j < zl w h) : zR 67 68 [l0, l1, l2] (.inl j :: .inr (some h) :: st) w Q = zR 67 69 [l0, l1, l2] (.inl (za w h (zN j).toNat) :: st) w Q := zR_go (zst zT_67_68 (if_pos hk))
theorem zT_67_69 : zT 67 69 = some (.ireturn, 1, 0, []) := by decide +kernel
theorem zr_67_69 {l0 l1 l2 : Option zV} {x : Int} {w : zW} {Q : Option zV → zW → Prop}  : zR 67 69 [l0, l1, l2] [.inl x] w Q = Q (some (.inl x)) w := zR_ret (zst zT_67_69 rfl)
theorem zT_67_70 : zT 67 70 = some (.iload_n 2, 1, 0, []) := by decide +kernel
theorem zr_67_70 {l0 l1 : Option zV} {x : Int} {st : List zV} {w : zW} {Q : Option zV → zW → Prop}  : zR 67 70 [l0, l1, some (.inl x)] st w Q = zR 67 71 [l0, l1, some (.inl x)] (.inl x :: st) w Q := zR_go (zst zT_67_70 rfl)
theorem zT_67_71 : zT 67 71 = some (.iconst 3, 1, 0, []) := by decide +kernel
theorem zr_67_71 {l0 l1 l2 : Option zV} {st : List zV} {w : zW} {Q : Option zV → zW → Prop}  : zR 67 71 [l0, l1, l2] st w Q = zR 67 72 [l0, l1, l2] (.inl 3 :: st) w Q := zR_go (zst zT_67_71 rfl)
theorem zT_67_72 : zT 67 72 = some (.if_icmp .ne 22, 3, 0, []) := by decide +kernel
theorem zr_67_72 {l0 l1 l2 : Option zV} {x y : Int} {st : List zV} {w : zW} {Q : Option zV → zW → Prop}  : zR 67 72 [l0, l1, l2] (.inl y :: .inl x :: st) w Q = (if zN x ≠ zN y then zR 67 94 [l0, l1, l2] st w Q else zR 67 75 [l0, l1, l2] st w Q) := zR_if (zstB zT_67_72 rfl) (by simp [zcmp])
theorem zT_67_75 : zT 67 75 = some (.iload_n 1, 1, 0, []) := by decide +kernel
theorem zr_67_75 {l0 l2 : Option zV} {x : Int} {st : List zV} {w : zW} {Q : Option zV → zW → Prop}  : zR 67 75 [l0, some (.inl x), l2] st w Q = zR 67 76 [l0, some (.inl x), l2] (.inl x :: st) w Q := zR_go (zst zT_67_75 rfl)
theorem zT_67_76 : zT 67 76 = some (.ifCond .eq 12, 3, 0, []) := by decide +kernel
theorem zr_67_76 {l0 l1 l2 : Option zV} {x : Int} {st : List zV} {w : zW} {Q : Option zV → zW → Prop}  : zR 67 76 [l0, l1, l2] (.inl x :: st) w Q = (if zN x = 0 then zR 67 88 [l0, l1, l2] st w Q else zR 67 79 [l0, l1, l2] st w Q) := zR_if (zstB zT_67_76 rfl) (by simp [zcmp])
theorem zT_67_79 : zT 67 79 = some (.aload_n 0, 1, 0, []) := by decide +kernel
theorem zr_67_79 {l1 l2 : Option zV} {x : Option Nat} {st : List zV} {w : zW} {Q : Option zV → zW → Prop}  : zR 67 79 [some (.inr x), l1, l2] st w Q = zR 67 80 [some (.inr x), l1, l2] (.inr x :: st) w Q := zR_go (zst zT_67_79 rfl)
theorem zT_67_80 : zT 67 80 = some (.getfield 19, 3, 0, [(11, 4)]) := by decide +kernel
theorem zr_67_80 {l0 l1 l2 : Option zV} {h : Nat} {st : List zV} {w : zW} {Q : Option zV → zW → Prop} (hk : zk w h = 11) : zR 67 80 [l0, l1, l2] (.inr (some h) :: st) w Q = zR 67 83 [l0, l1, l2] (.inr (zp w 76 h) :: st) w Q := zR_go (zst zT_67_80 (zget_r hk rfl))
theorem zT_67_83 : zT 67 83 = some (.iload_n 1, 1, 0, []) := by decide +kernel
theorem zr_67_83 {l0 l2 : Option zV} {x : Int} {st : List zV} {w : zW} {Q : Option zV → zW → Prop}  : zR 67 83 [l0, some (.inl x), l2] st w Q = zR 67 84 [l0, some (.inl x), l2] (.inl x :: st) w Q := zR_go (zst zT_67_83 rfl)
theorem zT_67_84 : zT 67 84 = some (.baload, 1, 0, []) := by decide +kernel
theorem zr_67_84 {l0 l1 l2 : Option zV} {j : Int} {h : Nat} {st : List zV} {w : zW} {Q : Option zV → zW → Prop} (hk : zk w h = zNC + 1 ∧ 0 ≤ zN j ∧ zN j < zl w h) : zR 67 84 [l0, l1, l2] (.inl j :: .inr (some h) :: st) w Q = zR 67 85 [l0, l1, l2] (.inl (za w h (zN j).toNat) :: st) w Q := zR_go (zst zT_67_84 (if_pos hk))
theorem zT_67_85 : zT 67 85 = some (.ifCond .eq 7, 3, 0, []) := by decide +kernel
theorem zr_67_85 {l0 l1 l2 : Option zV} {x : Int} {st : List zV} {w : zW} {Q : Option zV → zW → Prop}  : zR 67 85 [l0, l1, l2] (.inl x :: st) w Q = (if zN x = 0 then zR 67 92 [l0, l1, l2] st w Q else zR 67 88 [l0, l1, l2] st w Q) := zR_if (zstB zT_67_85 rfl) (by simp [zcmp])
theorem zT_67_88 : zT 67 88 = some (.iconst 1, 1, 0, []) := by decide +kernel
theorem zr_67_88 {l0 l1 l2 : Option zV} {st : List zV} {w : zW} {Q : Option zV → zW → Prop}  : zR 67 88 [l0, l1, l2] st w Q = zR 67 89 [l0, l1, l2] (.inl 1 :: st) w Q := zR_go (zst zT_67_88 rfl)
theorem zT_67_89 : zT 67 89 = some (.goto 4, 3, 0, []) := by decide +kernel
theorem zr_67_89 {l0 l1 l2 : Option zV} {st : List zV} {w : zW} {Q : Option zV → zW → Prop}  : zR 67 89 [l0, l1, l2] st w Q = zR 67 93 [l0, l1, l2] st w Q := zR_go (zst zT_67_89 rfl)
theorem zT_67_92 : zT 67 92 = some (.iconst 0, 1, 0, []) := by decide +kernel
theorem zr_67_92 {l0 l1 l2 : Option zV} {st : List zV} {w : zW} {Q : Option zV → zW → Prop}  : zR 67 92 [l0, l1, l2] st w Q = zR 67 93 [l0, l1, l2] (.inl 0 :: st) w Q := zR_go (zst zT_67_92 rfl)
theorem zT_67_93 : zT 67 93 = some (.ireturn, 1, 0, []) := by decide +kernel
theorem zr_67_93 {l0 l1 l2 : Option zV} {x : Int} {w : zW} {Q : Option zV → zW → Prop}  : zR 67 93 [l0, l1, l2] [.inl x] w Q = Q (some (.inl x)) w := zR_ret (zst zT_67_93 rfl)
theorem zT_67_94 : zT 67 94 = some (.iload_n 2, 1, 0, []) := by decide +kernel
theorem zr_67_94 {l0 l1 : Option zV} {x : Int} {st : List zV} {w : zW} {Q : Option zV → zW → Prop}  : zR 67 94 [l0, l1, some (.inl x)] st w Q = zR 67 95 [l0, l1, some (.inl x)] (.inl x :: st) w Q := zR_go (zst zT_67_94 rfl)
theorem zT_67_95 : zT 67 95 = some (.bipush 6, 2, 0, []) := by decide +kernel
theorem zr_67_95 {l0 l1 l2 : Option zV} {st : List zV} {w : zW} {Q : Option zV → zW → Prop}  : zR 67 95 [l0, l1, l2] st w Q = zR 67 97 [l0, l1, l2] (.inl 6 :: st) w Q := zR_go (zst zT_67_95 rfl)
theorem zT_67_97 : zT 67 97 = some (.if_icmp .ne 20, 3, 0, []) := by decide +kernel
theorem zr_67_97 {l0 l1 l2 : Option zV} {x y : Int} {st : List zV} {w : zW} {Q : Option zV → zW → Prop}  : zR 67 97 [l0, l1, l2] (.inl y :: .inl x :: st) w Q = (if zN x ≠ zN y then zR 67 117 [l0, l1, l2] st w Q else zR 67 100 [l0, l1, l2] st w Q) := zR_if (zstB zT_67_97 rfl) (by simp [zcmp])
theorem zT_67_100 : zT 67 100 = some (.iload_n 1, 1, 0, []) := by decide +kernel
theorem zr_67_100 {l0 l2 : Option zV} {x : Int} {st : List zV} {w : zW} {Q : Option zV → zW → Prop}  : zR 67 100 [l0, some (.inl x), l2] st w Q = zR 67 101 [l0, some (.inl x), l2] (.inl x :: st) w Q := zR_go (zst zT_67_100 rfl)
theorem zT_67_101 : zT 67 101 = some (.iconst 1, 1, 0, []) := by decide +kernel
theorem zr_67_101 {l0 l1 l2 : Option zV} {st : List zV} {w : zW} {Q : Option zV → zW → Prop}  : zR 67 101 [l0, l1, l2] st w Q = zR 67 102 [l0, l1, l2] (.inl 1 :: st) w Q := zR_go (zst zT_67_101 rfl)
theorem zT_67_102 : zT 67 102 = some (.if_icmp .ne 13, 3, 0, []) := by decide +kernel
theorem zr_67_102 {l0 l1 l2 : Option zV} {x y : Int} {st : List zV} {w : zW} {Q : Option zV → zW → Prop}  : zR 67 102 [l0, l1, l2] (.inl y :: .inl x :: st) w Q = (if zN x ≠ zN y then zR 67 115 [l0, l1, l2] st w Q else zR 67 105 [l0, l1, l2] st w Q) := zR_if (zstB zT_67_102 rfl) (by simp [zcmp])
theorem zT_67_105 : zT 67 105 = some (.aload_n 0, 1, 0, []) := by decide +kernel
theorem zr_67_105 {l1 l2 : Option zV} {x : Option Nat} {st : List zV} {w : zW} {Q : Option zV → zW → Prop}  : zR 67 105 [some (.inr x), l1, l2] st w Q = zR 67 106 [some (.inr x), l1, l2] (.inr x :: st) w Q := zR_go (zst zT_67_105 rfl)
theorem zT_67_106 : zT 67 106 = some (.getfield 26, 3, 0, [(11, 6)]) := by decide +kernel
theorem zr_67_106 {l0 l1 l2 : Option zV} {h : Nat} {st : List zV} {w : zW} {Q : Option zV → zW → Prop} (hk : zk w h = 11) : zR 67 106 [l0, l1, l2] (.inr (some h) :: st) w Q = zR 67 109 [l0, l1, l2] (.inr (zp w 78 h) :: st) w Q := zR_go (zst zT_67_106 (zget_r hk rfl))
theorem zT_67_109 : zT 67 109 = some (.bipush 7, 2, 0, []) := by decide +kernel
theorem zr_67_109 {l0 l1 l2 : Option zV} {st : List zV} {w : zW} {Q : Option zV → zW → Prop}  : zR 67 109 [l0, l1, l2] st w Q = zR 67 111 [l0, l1, l2] (.inl 7 :: st) w Q := zR_go (zst zT_67_109 rfl)
theorem zT_67_111 : zT 67 111 = some (.iaload, 1, 0, []) := by decide +kernel
theorem zr_67_111 {l0 l1 l2 : Option zV} {j : Int} {h : Nat} {st : List zV} {w : zW} {Q : Option zV → zW → Prop} (hk : (zk w h = zNC ∨ zk w h = zNC + 2) ∧ 0 ≤ zN j ∧ zN j < zl w h) : zR 67 111 [l0, l1, l2] (.inl j :: .inr (some h) :: st) w Q = zR 67 112 [l0, l1, l2] (.inl (za w h (zN j).toNat) :: st) w Q := zR_go (zst zT_67_111 (if_pos hk))
theorem zT_67_112 : zT 67 112 = some (.goto 4, 3, 0, []) := by decide +kernel
theorem zr_67_112 {l0 l1 l2 : Option zV} {st : List zV} {w : zW} {Q : Option zV → zW → Prop}  : zR 67 112 [l0, l1, l2] st w Q = zR 67 116 [l0, l1, l2] st w Q := zR_go (zst zT_67_112 rfl)
theorem zT_67_115 : zT 67 115 = some (.iconst 0, 1, 0, []) := by decide +kernel
theorem zr_67_115 {l0 l1 l2 : Option zV} {st : List zV} {w : zW} {Q : Option zV → zW → Prop}  : zR 67 115 [l0, l1, l2] st w Q = zR 67 116 [l0, l1, l2] (.inl 0 :: st) w Q := zR_go (zst zT_67_115 rfl)
theorem zT_67_116 : zT 67 116 = some (.ireturn, 1, 0, []) := by decide +kernel
theorem zr_67_116 {l0 l1 l2 : Option zV} {x : Int} {w : zW} {Q : Option zV → zW → Prop}  : zR 67 116 [l0, l1, l2] [.inl x] w Q = Q (some (.inl x)) w := zR_ret (zst zT_67_116 rfl)
theorem zT_67_117 : zT 67 117 = some (.iload_n 2, 1, 0, []) := by decide +kernel
theorem zr_67_117 {l0 l1 : Option zV} {x : Int} {st : List zV} {w : zW} {Q : Option zV → zW → Prop}  : zR 67 117 [l0, l1, some (.inl x)] st w Q = zR 67 118 [l0, l1, some (.inl x)] (.inl x :: st) w Q := zR_go (zst zT_67_117 rfl)
theorem zT_67_118 : zT 67 118 = some (.iconst 4, 1, 0, []) := by decide +kernel
theorem zr_67_118 {l0 l1 l2 : Option zV} {st : List zV} {w : zW} {Q : Option zV → zW → Prop}  : zR 67 118 [l0, l1, l2] st w Q = zR 67 119 [l0, l1, l2] (.inl 4 :: st) w Q := zR_go (zst zT_67_118 rfl)
theorem zT_67_119 : zT 67 119 = some (.if_icmp .ne 12, 3, 0, []) := by decide +kernel
theorem zr_67_119 {l0 l1 l2 : Option zV} {x y : Int} {st : List zV} {w : zW} {Q : Option zV → zW → Prop}  : zR 67 119 [l0, l1, l2] (.inl y :: .inl x :: st) w Q = (if zN x ≠ zN y then zR 67 131 [l0, l1, l2] st w Q else zR 67 122 [l0, l1, l2] st w Q) := zR_if (zstB zT_67_119 rfl) (by simp [zcmp])
theorem zT_67_122 : zT 67 122 = some (.aload_n 0, 1, 0, []) := by decide +kernel
theorem zr_67_122 {l1 l2 : Option zV} {x : Option Nat} {st : List zV} {w : zW} {Q : Option zV → zW → Prop}  : zR 67 122 [some (.inr x), l1, l2] st w Q = zR 67 123 [some (.inr x), l1, l2] (.inr x :: st) w Q := zR_go (zst zT_67_122 rfl)
theorem zT_67_123 : zT 67 123 = some (.getfield 32, 3, 0, [(11, 8)]) := by decide +kernel
theorem zr_67_123 {l0 l1 l2 : Option zV} {h : Nat} {st : List zV} {w : zW} {Q : Option zV → zW → Prop} (hk : zk w h = 11) : zR 67 123 [l0, l1, l2] (.inr (some h) :: st) w Q = zR 67 126 [l0, l1, l2] (.inr (zp w 80 h) :: st) w Q := zR_go (zst zT_67_123 (zget_r hk rfl))
theorem zT_67_126 : zT 67 126 = some (.iload_n 1, 1, 0, []) := by decide +kernel
theorem zr_67_126 {l0 l2 : Option zV} {x : Int} {st : List zV} {w : zW} {Q : Option zV → zW → Prop}  : zR 67 126 [l0, some (.inl x), l2] st w Q = zR 67 127 [l0, some (.inl x), l2] (.inl x :: st) w Q := zR_go (zst zT_67_126 rfl)
theorem zT_67_127 : zT 67 127 = some (.iaload, 1, 0, []) := by decide +kernel
theorem zr_67_127 {l0 l1 l2 : Option zV} {j : Int} {h : Nat} {st : List zV} {w : zW} {Q : Option zV → zW → Prop} (hk : (zk w h = zNC ∨ zk w h = zNC + 2) ∧ 0 ≤ zN j ∧ zN j < zl w h) : zR 67 127 [l0, l1, l2] (.inl j :: .inr (some h) :: st) w Q = zR 67 128 [l0, l1, l2] (.inl (za w h (zN j).toNat) :: st) w Q := zR_go (zst zT_67_127 (if_pos hk))
theorem zT_67_128 : zT 67 128 = some (.goto 23, 3, 0, []) := by decide +kernel
theorem zr_67_128 {l0 l1 l2 : Option zV} {st : List zV} {w : zW} {Q : Option zV → zW → Prop}  : zR 67 128 [l0, l1, l2] st w Q = zR 67 151 [l0, l1, l2] st w Q := zR_go (zst zT_67_128 rfl)
theorem zT_67_131 : zT 67 131 = some (.iload_n 2, 1, 0, []) := by decide +kernel
theorem zr_67_131 {l0 l1 : Option zV} {x : Int} {st : List zV} {w : zW} {Q : Option zV → zW → Prop}  : zR 67 131 [l0, l1, some (.inl x)] st w Q = zR 67 132 [l0, l1, some (.inl x)] (.inl x :: st) w Q := zR_go (zst zT_67_131 rfl)
theorem zT_67_132 : zT 67 132 = some (.iconst 5, 1, 0, []) := by decide +kernel
theorem zr_67_132 {l0 l1 l2 : Option zV} {st : List zV} {w : zW} {Q : Option zV → zW → Prop}  : zR 67 132 [l0, l1, l2] st w Q = zR 67 133 [l0, l1, l2] (.inl 5 :: st) w Q := zR_go (zst zT_67_132 rfl)
theorem zT_67_133 : zT 67 133 = some (.if_icmp .ne 12, 3, 0, []) := by decide +kernel
theorem zr_67_133 {l0 l1 l2 : Option zV} {x y : Int} {st : List zV} {w : zW} {Q : Option zV → zW → Prop}  : zR 67 133 [l0, l1, l2] (.inl y :: .inl x :: st) w Q = (if zN x ≠ zN y then zR 67 145 [l0, l1, l2] st w Q else zR 67 136 [l0, l1, l2] st w Q) := zR_if (zstB zT_67_133 rfl) (by simp [zcmp])
theorem zT_67_136 : zT 67 136 = some (.aload_n 0, 1, 0, []) := by decide +kernel
theorem zr_67_136 {l1 l2 : Option zV} {x : Option Nat} {st : List zV} {w : zW} {Q : Option zV → zW → Prop}  : zR 67 136 [some (.inr x), l1, l2] st w Q = zR 67 137 [some (.inr x), l1, l2] (.inr x :: st) w Q := zR_go (zst zT_67_136 rfl)
theorem zT_67_137 : zT 67 137 = some (.getfield 26, 3, 0, [(11, 6)]) := by decide +kernel
theorem zr_67_137 {l0 l1 l2 : Option zV} {h : Nat} {st : List zV} {w : zW} {Q : Option zV → zW → Prop} (hk : zk w h = 11) : zR 67 137 [l0, l1, l2] (.inr (some h) :: st) w Q = zR 67 140 [l0, l1, l2] (.inr (zp w 78 h) :: st) w Q := zR_go (zst zT_67_137 (zget_r hk rfl))
theorem zT_67_140 : zT 67 140 = some (.iload_n 1, 1, 0, []) := by decide +kernel
theorem zr_67_140 {l0 l2 : Option zV} {x : Int} {st : List zV} {w : zW} {Q : Option zV → zW → Prop}  : zR 67 140 [l0, some (.inl x), l2] st w Q = zR 67 141 [l0, some (.inl x), l2] (.inl x :: st) w Q := zR_go (zst zT_67_140 rfl)
theorem zT_67_141 : zT 67 141 = some (.iaload, 1, 0, []) := by decide +kernel
theorem zr_67_141 {l0 l1 l2 : Option zV} {j : Int} {h : Nat} {st : List zV} {w : zW} {Q : Option zV → zW → Prop} (hk : (zk w h = zNC ∨ zk w h = zNC + 2) ∧ 0 ≤ zN j ∧ zN j < zl w h) : zR 67 141 [l0, l1, l2] (.inl j :: .inr (some h) :: st) w Q = zR 67 142 [l0, l1, l2] (.inl (za w h (zN j).toNat) :: st) w Q := zR_go (zst zT_67_141 (if_pos hk))
theorem zT_67_142 : zT 67 142 = some (.goto 9, 3, 0, []) := by decide +kernel
theorem zr_67_142 {l0 l1 l2 : Option zV} {st : List zV} {w : zW} {Q : Option zV → zW → Prop}  : zR 67 142 [l0, l1, l2] st w Q = zR 67 151 [l0, l1, l2] st w Q := zR_go (zst zT_67_142 rfl)
theorem zT_67_145 : zT 67 145 = some (.aload_n 0, 1, 0, []) := by decide +kernel
theorem zr_67_145 {l1 l2 : Option zV} {x : Option Nat} {st : List zV} {w : zW} {Q : Option zV → zW → Prop}  : zR 67 145 [some (.inr x), l1, l2] st w Q = zR 67 146 [some (.inr x), l1, l2] (.inr x :: st) w Q := zR_go (zst zT_67_145 rfl)
theorem zT_67_146 : zT 67 146 = some (.getfield 23, 3, 0, [(11, 5)]) := by decide +kernel
theorem zr_67_146 {l0 l1 l2 : Option zV} {h : Nat} {st : List zV} {w : zW} {Q : Option zV → zW → Prop} (hk : zk w h = 11) : zR 67 146 [l0, l1, l2] (.inr (some h) :: st) w Q = zR 67 149 [l0, l1, l2] (.inr (zp w 77 h) :: st) w Q := zR_go (zst zT_67_146 (zget_r hk rfl))
theorem zT_67_149 : zT 67 149 = some (.iload_n 1, 1, 0, []) := by decide +kernel
theorem zr_67_149 {l0 l2 : Option zV} {x : Int} {st : List zV} {w : zW} {Q : Option zV → zW → Prop}  : zR 67 149 [l0, some (.inl x), l2] st w Q = zR 67 150 [l0, some (.inl x), l2] (.inl x :: st) w Q := zR_go (zst zT_67_149 rfl)
theorem zT_67_150 : zT 67 150 = some (.iaload, 1, 0, []) := by decide +kernel
theorem zr_67_150 {l0 l1 l2 : Option zV} {j : Int} {h : Nat} {st : List zV} {w : zW} {Q : Option zV → zW → Prop} (hk : (zk w h = zNC ∨ zk w h = zNC + 2) ∧ 0 ≤ zN j ∧ zN j < zl w h) : zR 67 150 [l0, l1, l2] (.inl j :: .inr (some h) :: st) w Q = zR 67 151 [l0, l1, l2] (.inl (za w h (zN j).toNat) :: st) w Q := zR_go (zst zT_67_150 (if_pos hk))
theorem zT_67_151 : zT 67 151 = some (.ireturn, 1, 0, []) := by decide +kernel
theorem zr_67_151 {l0 l1 l2 : Option zV} {x : Int} {w : zW} {Q : Option zV → zW → Prop}  : zR 67 151 [l0, l1, l2] [.inl x] w Q = Q (some (.inl x)) w := zR_ret (zst zT_67_151 rfl)
theorem zT_68_0 : zT 68 0 = some (.aload_n 0, 1, 0, []) := by decide +kernel
theorem zr_68_0 {l1 l2 : Option zV} {x : Option Nat} {st : List zV} {w : zW} {Q : Option zV → zW → Prop}  : zR 68 0 [some (.inr x), l1, l2] st w Q = zR 68 1 [some (.inr x), l1, l2] (.inr x :: st) w Q := zR_go (zst zT_68_0 rfl)
theorem zT_68_1 : zT 68 1 = some (.iload_n 1, 1, 0, []) := by decide +kernel
theorem zr_68_1 {l0 l2 : Option zV} {x : Int} {st : List zV} {w : zW} {Q : Option zV → zW → Prop}  : zR 68 1 [l0, some (.inl x), l2] st w Q = zR 68 2 [l0, some (.inl x), l2] (.inl x :: st) w Q := zR_go (zst zT_68_1 rfl)
theorem zT_68_2 : zT 68 2 = some (.invokevirtual 170, 3, 1, [(11, 28)]) := by decide +kernel
theorem zr_68_2 {l0 l1 l2 : Option zV} {a0 : zV} {h : Nat} {st : List zV} {w : zW} {Q : Option zV → zW → Prop} (hs : st.length ≤ 8) (hk : zk w h = 11) : zR 68 2 [l0, l1, l2] (a0 :: .inr (some h) :: st) w Q = zR 28 0 [some (.inr (some h)), some a0] [] w (fun r w2 => zR 68 5 [l0, l1, l2] (r.toList ++ st) w2 Q) := zR_call (zst zT_68_2 (zcall_v [a0] rfl hs hk rfl))
theorem zT_68_5 : zT 68 5 = some (.ifCond .ne 5, 3, 0, []) := by decide +kernel
theorem zr_68_5 {l0 l1 l2 : Option zV} {x : Int} {st : List zV} {w : zW} {Q : Option zV → zW → Prop}  : zR 68 5 [l0, l1, l2] (.inl x :: st) w Q = (if zN x ≠ 0 then zR 68 10 [l0, l1, l2] st w Q else zR 68 8 [l0, l1, l2] st w Q) := zR_if (zstB zT_68_5 rfl) (by simp [zcmp])
theorem zT_68_8 : zT 68 8 = some (.iconst 0, 1, 0, []) := by decide +kernel
theorem zr_68_8 {l0 l1 l2 : Option zV} {st : List zV} {w : zW} {Q : Option zV → zW → Prop}  : zR 68 8 [l0, l1, l2] st w Q = zR 68 9 [l0, l1, l2] (.inl 0 :: st) w Q := zR_go (zst zT_68_8 rfl)
theorem zT_68_9 : zT 68 9 = some (.ireturn, 1, 0, []) := by decide +kernel
theorem zr_68_9 {l0 l1 l2 : Option zV} {x : Int} {w : zW} {Q : Option zV → zW → Prop}  : zR 68 9 [l0, l1, l2] [.inl x] w Q = Q (some (.inl x)) w := zR_ret (zst zT_68_9 rfl)
theorem zT_68_10 : zT 68 10 = some (.iload_n 2, 1, 0, []) := by decide +kernel
theorem zr_68_10 {l0 l1 : Option zV} {x : Int} {st : List zV} {w : zW} {Q : Option zV → zW → Prop}  : zR 68 10 [l0, l1, some (.inl x)] st w Q = zR 68 11 [l0, l1, some (.inl x)] (.inl x :: st) w Q := zR_go (zst zT_68_10 rfl)
theorem zT_68_11 : zT 68 11 = some (.tableswitch 90 0 6 #[41, 48, 55, 62, 69, 76, 83], 41, 0, []) := by decide +kernel
theorem zr_68_11k0 {l0 l1 l2 : Option zV} {x : Int} {st : List zV} {w : zW} {Q : Option zV → zW → Prop} (hx : zN x = 0) : zR 68 11 [l0, l1, l2] (.inl x :: st) w Q = zR 68 52 [l0, l1, l2] st w Q := zR_go (zst zT_68_11 (by simp [zins, zi_table, zgo, zto, hx]))
theorem zr_68_11k1 {l0 l1 l2 : Option zV} {x : Int} {st : List zV} {w : zW} {Q : Option zV → zW → Prop} (hx : zN x = 1) : zR 68 11 [l0, l1, l2] (.inl x :: st) w Q = zR 68 59 [l0, l1, l2] st w Q := zR_go (zst zT_68_11 (by simp [zins, zi_table, zgo, zto, hx]))
theorem zr_68_11k2 {l0 l1 l2 : Option zV} {x : Int} {st : List zV} {w : zW} {Q : Option zV → zW → Prop} (hx : zN x = 2) : zR 68 11 [l0, l1, l2] (.inl x :: st) w Q = zR 68 66 [l0, l1, l2] st w Q := zR_go (zst zT_68_11 (by simp [zins, zi_table, zgo, zto, hx]))
theorem zr_68_11k3 {l0 l1 l2 : Option zV} {x : Int} {st : List zV} {w : zW} {Q : Option zV → zW → Prop} (hx : zN x = 3) : zR 68 11 [l0, l1, l2] (.inl x :: st) w Q = zR 68 73 [l0, l1, l2] st w Q := zR_go (zst zT_68_11 (by simp [zins, zi_table, zgo, zto, hx]))
theorem zr_68_11k4 {l0 l1 l2 : Option zV} {x : Int} {st : List zV} {w : zW} {Q : Option zV → zW → Prop} (hx : zN x = 4) : zR 68 11 [l0, l1, l2] (.inl x :: st) w Q = zR 68 80 [l0, l1, l2] st w Q := zR_go (zst zT_68_11 (by simp [zins, zi_table, zgo, zto, hx]))
theorem zr_68_11k5 {l0 l1 l2 : Option zV} {x : Int} {st : List zV} {w : zW} {Q : Option zV → zW → Prop} (hx : zN x = 5) : zR 68 11 [l0, l1, l2] (.inl x :: st) w Q = zR 68 87 [l0, l1, l2] st w Q := zR_go (zst zT_68_11 (by simp [zins, zi_table, zgo, zto, hx]))
theorem zr_68_11k6 {l0 l1 l2 : Option zV} {x : Int} {st : List zV} {w : zW} {Q : Option zV → zW → Prop} (hx : zN x = 6) : zR 68 11 [l0, l1, l2] (.inl x :: st) w Q = zR 68 94 [l0, l1, l2] st w Q := zR_go (zst zT_68_11 (by simp [zins, zi_table, zgo, zto, hx]))
theorem zr_68_11d {l0 l1 l2 : Option zV} {x : Int} {st : List zV} {w : zW} {Q : Option zV → zW → Prop} (hx : zN x < 0 ∨ 6 < zN x) : zR 68 11 [l0, l1, l2] (.inl x :: st) w Q = zR 68 101 [l0, l1, l2] st w Q := zR_go (zst zT_68_11 (by simp [zins, zi_table, zgo, zto, hx]))
theorem zT_68_52 : zT 68 52 = some (.aload_n 0, 1, 0, []) := by decide +kernel
theorem zr_68_52 {l1 l2 : Option zV} {x : Option Nat} {st : List zV} {w : zW} {Q : Option zV → zW → Prop}  : zR 68 52 [some (.inr x), l1, l2] st w Q = zR 68 53 [some (.inr x), l1, l2] (.inr x :: st) w Q := zR_go (zst zT_68_52 rfl)
theorem zT_68_53 : zT 68 53 = some (.getfield 47, 3, 0, [(11, 13)]) := by decide +kernel
theorem zr_68_53 {l0 l1 l2 : Option zV} {h : Nat} {st : List zV} {w : zW} {Q : Option zV → zW → Prop} (hk : zk w h = 11) : zR 68 53 [l0, l1, l2] (.inr (some h) :: st) w Q = zR 68 56 [l0, l1, l2] (.inr (zp w 85 h) :: st) w Q := zR_go (zst zT_68_53 (zget_r hk rfl))
theorem zT_68_56 : zT 68 56 = some (.iload_n 1, 1, 0, []) := by decide +kernel
theorem zr_68_56 {l0 l2 : Option zV} {x : Int} {st : List zV} {w : zW} {Q : Option zV → zW → Prop}  : zR 68 56 [l0, some (.inl x), l2] st w Q = zR 68 57 [l0, some (.inl x), l2] (.inl x :: st) w Q := zR_go (zst zT_68_56 rfl)
theorem zT_68_57 : zT 68 57 = some (.iaload, 1, 0, []) := by decide +kernel
theorem zr_68_57 {l0 l1 l2 : Option zV} {j : Int} {h : Nat} {st : List zV} {w : zW} {Q : Option zV → zW → Prop} (hk : (zk w h = zNC ∨ zk w h = zNC + 2) ∧ 0 ≤ zN j ∧ zN j < zl w h) : zR 68 57 [l0, l1, l2] (.inl j :: .inr (some h) :: st) w Q = zR 68 58 [l0, l1, l2] (.inl (za w h (zN j).toNat) :: st) w Q := zR_go (zst zT_68_57 (if_pos hk))
theorem zT_68_58 : zT 68 58 = some (.ireturn, 1, 0, []) := by decide +kernel
theorem zr_68_58 {l0 l1 l2 : Option zV} {x : Int} {w : zW} {Q : Option zV → zW → Prop}  : zR 68 58 [l0, l1, l2] [.inl x] w Q = Q (some (.inl x)) w := zR_ret (zst zT_68_58 rfl)
theorem zT_68_59 : zT 68 59 = some (.aload_n 0, 1, 0, []) := by decide +kernel
theorem zr_68_59 {l1 l2 : Option zV} {x : Option Nat} {st : List zV} {w : zW} {Q : Option zV → zW → Prop}  : zR 68 59 [some (.inr x), l1, l2] st w Q = zR 68 60 [some (.inr x), l1, l2] (.inr x :: st) w Q := zR_go (zst zT_68_59 rfl)
theorem zT_68_60 : zT 68 60 = some (.getfield 59, 3, 0, [(11, 17)]) := by decide +kernel
theorem zr_68_60 {l0 l1 l2 : Option zV} {h : Nat} {st : List zV} {w : zW} {Q : Option zV → zW → Prop} (hk : zk w h = 11) : zR 68 60 [l0, l1, l2] (.inr (some h) :: st) w Q = zR 68 63 [l0, l1, l2] (.inr (zp w 89 h) :: st) w Q := zR_go (zst zT_68_60 (zget_r hk rfl))
theorem zT_68_63 : zT 68 63 = some (.iload_n 1, 1, 0, []) := by decide +kernel
theorem zr_68_63 {l0 l2 : Option zV} {x : Int} {st : List zV} {w : zW} {Q : Option zV → zW → Prop}  : zR 68 63 [l0, some (.inl x), l2] st w Q = zR 68 64 [l0, some (.inl x), l2] (.inl x :: st) w Q := zR_go (zst zT_68_63 rfl)
theorem zT_68_64 : zT 68 64 = some (.iaload, 1, 0, []) := by decide +kernel
theorem zr_68_64 {l0 l1 l2 : Option zV} {j : Int} {h : Nat} {st : List zV} {w : zW} {Q : Option zV → zW → Prop} (hk : (zk w h = zNC ∨ zk w h = zNC + 2) ∧ 0 ≤ zN j ∧ zN j < zl w h) : zR 68 64 [l0, l1, l2] (.inl j :: .inr (some h) :: st) w Q = zR 68 65 [l0, l1, l2] (.inl (za w h (zN j).toNat) :: st) w Q := zR_go (zst zT_68_64 (if_pos hk))
theorem zT_68_65 : zT 68 65 = some (.ireturn, 1, 0, []) := by decide +kernel
theorem zr_68_65 {l0 l1 l2 : Option zV} {x : Int} {w : zW} {Q : Option zV → zW → Prop}  : zR 68 65 [l0, l1, l2] [.inl x] w Q = Q (some (.inl x)) w := zR_ret (zst zT_68_65 rfl)
theorem zT_68_66 : zT 68 66 = some (.aload_n 0, 1, 0, []) := by decide +kernel
theorem zr_68_66 {l1 l2 : Option zV} {x : Option Nat} {st : List zV} {w : zW} {Q : Option zV → zW → Prop}  : zR 68 66 [some (.inr x), l1, l2] st w Q = zR 68 67 [some (.inr x), l1, l2] (.inr x :: st) w Q := zR_go (zst zT_68_66 rfl)
theorem zT_68_67 : zT 68 67 = some (.getfield 50, 3, 0, [(11, 14)]) := by decide +kernel
theorem zr_68_67 {l0 l1 l2 : Option zV} {h : Nat} {st : List zV} {w : zW} {Q : Option zV → zW → Prop} (hk : zk w h = 11) : zR 68 67 [l0, l1, l2] (.inr (some h) :: st) w Q = zR 68 70 [l0, l1, l2] (.inr (zp w 86 h) :: st) w Q := zR_go (zst zT_68_67 (zget_r hk rfl))
theorem zT_68_70 : zT 68 70 = some (.iload_n 1, 1, 0, []) := by decide +kernel
theorem zr_68_70 {l0 l2 : Option zV} {x : Int} {st : List zV} {w : zW} {Q : Option zV → zW → Prop}  : zR 68 70 [l0, some (.inl x), l2] st w Q = zR 68 71 [l0, some (.inl x), l2] (.inl x :: st) w Q := zR_go (zst zT_68_70 rfl)
theorem zT_68_71 : zT 68 71 = some (.iaload, 1, 0, []) := by decide +kernel
theorem zr_68_71 {l0 l1 l2 : Option zV} {j : Int} {h : Nat} {st : List zV} {w : zW} {Q : Option zV → zW → Prop} (hk : (zk w h = zNC ∨ zk w h = zNC + 2) ∧ 0 ≤ zN j ∧ zN j < zl w h) : zR 68 71 [l0, l1, l2] (.inl j :: .inr (some h) :: st) w Q = zR 68 72 [l0, l1, l2] (.inl (za w h (zN j).toNat) :: st) w Q := zR_go (zst zT_68_71 (if_pos hk))
theorem zT_68_72 : zT 68 72 = some (.ireturn, 1, 0, []) := by decide +kernel
theorem zr_68_72 {l0 l1 l2 : Option zV} {x : Int} {w : zW} {Q : Option zV → zW → Prop}  : zR 68 72 [l0, l1, l2] [.inl x] w Q = Q (some (.inl x)) w := zR_ret (zst zT_68_72 rfl)
theorem zT_68_73 : zT 68 73 = some (.aload_n 0, 1, 0, []) := by decide +kernel
theorem zr_68_73 {l1 l2 : Option zV} {x : Option Nat} {st : List zV} {w : zW} {Q : Option zV → zW → Prop}  : zR 68 73 [some (.inr x), l1, l2] st w Q = zR 68 74 [some (.inr x), l1, l2] (.inr x :: st) w Q := zR_go (zst zT_68_73 rfl)
theorem zT_68_74 : zT 68 74 = some (.getfield 53, 3, 0, [(11, 15)]) := by decide +kernel
theorem zr_68_74 {l0 l1 l2 : Option zV} {h : Nat} {st : List zV} {w : zW} {Q : Option zV → zW → Prop} (hk : zk w h = 11) : zR 68 74 [l0, l1, l2] (.inr (some h) :: st) w Q = zR 68 77 [l0, l1, l2] (.inr (zp w 87 h) :: st) w Q := zR_go (zst zT_68_74 (zget_r hk rfl))
theorem zT_68_77 : zT 68 77 = some (.iload_n 1, 1, 0, []) := by decide +kernel
theorem zr_68_77 {l0 l2 : Option zV} {x : Int} {st : List zV} {w : zW} {Q : Option zV → zW → Prop}  : zR 68 77 [l0, some (.inl x), l2] st w Q = zR 68 78 [l0, some (.inl x), l2] (.inl x :: st) w Q := zR_go (zst zT_68_77 rfl)
theorem zT_68_78 : zT 68 78 = some (.iaload, 1, 0, []) := by decide +kernel
theorem zr_68_78 {l0 l1 l2 : Option zV} {j : Int} {h : Nat} {st : List zV} {w : zW} {Q : Option zV → zW → Prop} (hk : (zk w h = zNC ∨ zk w h = zNC + 2) ∧ 0 ≤ zN j ∧ zN j < zl w h) : zR 68 78 [l0, l1, l2] (.inl j :: .inr (some h) :: st) w Q = zR 68 79 [l0, l1, l2] (.inl (za w h (zN j).toNat) :: st) w Q := zR_go (zst zT_68_78 (if_pos hk))
theorem zT_68_79 : zT 68 79 = some (.ireturn, 1, 0, []) := by decide +kernel
theorem zr_68_79 {l0 l1 l2 : Option zV} {x : Int} {w : zW} {Q : Option zV → zW → Prop}  : zR 68 79 [l0, l1, l2] [.inl x] w Q = Q (some (.inl x)) w := zR_ret (zst zT_68_79 rfl)
theorem zT_68_80 : zT 68 80 = some (.aload_n 0, 1, 0, []) := by decide +kernel
theorem zr_68_80 {l1 l2 : Option zV} {x : Option Nat} {st : List zV} {w : zW} {Q : Option zV → zW → Prop}  : zR 68 80 [some (.inr x), l1, l2] st w Q = zR 68 81 [some (.inr x), l1, l2] (.inr x :: st) w Q := zR_go (zst zT_68_80 rfl)
theorem zT_68_81 : zT 68 81 = some (.getfield 56, 3, 0, [(11, 16)]) := by decide +kernel
theorem zr_68_81 {l0 l1 l2 : Option zV} {h : Nat} {st : List zV} {w : zW} {Q : Option zV → zW → Prop} (hk : zk w h = 11) : zR 68 81 [l0, l1, l2] (.inr (some h) :: st) w Q = zR 68 84 [l0, l1, l2] (.inr (zp w 88 h) :: st) w Q := zR_go (zst zT_68_81 (zget_r hk rfl))
theorem zT_68_84 : zT 68 84 = some (.iload_n 1, 1, 0, []) := by decide +kernel
theorem zr_68_84 {l0 l2 : Option zV} {x : Int} {st : List zV} {w : zW} {Q : Option zV → zW → Prop}  : zR 68 84 [l0, some (.inl x), l2] st w Q = zR 68 85 [l0, some (.inl x), l2] (.inl x :: st) w Q := zR_go (zst zT_68_84 rfl)
theorem zT_68_85 : zT 68 85 = some (.iaload, 1, 0, []) := by decide +kernel
theorem zr_68_85 {l0 l1 l2 : Option zV} {j : Int} {h : Nat} {st : List zV} {w : zW} {Q : Option zV → zW → Prop} (hk : (zk w h = zNC ∨ zk w h = zNC + 2) ∧ 0 ≤ zN j ∧ zN j < zl w h) : zR 68 85 [l0, l1, l2] (.inl j :: .inr (some h) :: st) w Q = zR 68 86 [l0, l1, l2] (.inl (za w h (zN j).toNat) :: st) w Q := zR_go (zst zT_68_85 (if_pos hk))
theorem zT_68_86 : zT 68 86 = some (.ireturn, 1, 0, []) := by decide +kernel
theorem zr_68_86 {l0 l1 l2 : Option zV} {x : Int} {w : zW} {Q : Option zV → zW → Prop}  : zR 68 86 [l0, l1, l2] [.inl x] w Q = Q (some (.inl x)) w := zR_ret (zst zT_68_86 rfl)
theorem zT_68_87 : zT 68 87 = some (.aload_n 0, 1, 0, []) := by decide +kernel
theorem zr_68_87 {l1 l2 : Option zV} {x : Option Nat} {st : List zV} {w : zW} {Q : Option zV → zW → Prop}  : zR 68 87 [some (.inr x), l1, l2] st w Q = zR 68 88 [some (.inr x), l1, l2] (.inr x :: st) w Q := zR_go (zst zT_68_87 rfl)
theorem zT_68_88 : zT 68 88 = some (.getfield 62, 3, 0, [(11, 18)]) := by decide +kernel
theorem zr_68_88 {l0 l1 l2 : Option zV} {h : Nat} {st : List zV} {w : zW} {Q : Option zV → zW → Prop} (hk : zk w h = 11) : zR 68 88 [l0, l1, l2] (.inr (some h) :: st) w Q = zR 68 91 [l0, l1, l2] (.inr (zp w 90 h) :: st) w Q := zR_go (zst zT_68_88 (zget_r hk rfl))
theorem zT_68_91 : zT 68 91 = some (.iload_n 1, 1, 0, []) := by decide +kernel
theorem zr_68_91 {l0 l2 : Option zV} {x : Int} {st : List zV} {w : zW} {Q : Option zV → zW → Prop}  : zR 68 91 [l0, some (.inl x), l2] st w Q = zR 68 92 [l0, some (.inl x), l2] (.inl x :: st) w Q := zR_go (zst zT_68_91 rfl)
theorem zT_68_92 : zT 68 92 = some (.iaload, 1, 0, []) := by decide +kernel
theorem zr_68_92 {l0 l1 l2 : Option zV} {j : Int} {h : Nat} {st : List zV} {w : zW} {Q : Option zV → zW → Prop} (hk : (zk w h = zNC ∨ zk w h = zNC + 2) ∧ 0 ≤ zN j ∧ zN j < zl w h) : zR 68 92 [l0, l1, l2] (.inl j :: .inr (some h) :: st) w Q = zR 68 93 [l0, l1, l2] (.inl (za w h (zN j).toNat) :: st) w Q := zR_go (zst zT_68_92 (if_pos hk))
theorem zT_68_93 : zT 68 93 = some (.ireturn, 1, 0, []) := by decide +kernel
theorem zr_68_93 {l0 l1 l2 : Option zV} {x : Int} {w : zW} {Q : Option zV → zW → Prop}  : zR 68 93 [l0, l1, l2] [.inl x] w Q = Q (some (.inl x)) w := zR_ret (zst zT_68_93 rfl)
theorem zT_68_94 : zT 68 94 = some (.aload_n 0, 1, 0, []) := by decide +kernel
theorem zr_68_94 {l1 l2 : Option zV} {x : Option Nat} {st : List zV} {w : zW} {Q : Option zV → zW → Prop}  : zR 68 94 [some (.inr x), l1, l2] st w Q = zR 68 95 [some (.inr x), l1, l2] (.inr x :: st) w Q := zR_go (zst zT_68_94 rfl)
theorem zT_68_95 : zT 68 95 = some (.getfield 65, 3, 0, [(11, 19)]) := by decide +kernel
theorem zr_68_95 {l0 l1 l2 : Option zV} {h : Nat} {st : List zV} {w : zW} {Q : Option zV → zW → Prop} (hk : zk w h = 11) : zR 68 95 [l0, l1, l2] (.inr (some h) :: st) w Q = zR 68 98 [l0, l1, l2] (.inr (zp w 91 h) :: st) w Q := zR_go (zst zT_68_95 (zget_r hk rfl))
theorem zT_68_98 : zT 68 98 = some (.iload_n 1, 1, 0, []) := by decide +kernel
theorem zr_68_98 {l0 l2 : Option zV} {x : Int} {st : List zV} {w : zW} {Q : Option zV → zW → Prop}  : zR 68 98 [l0, some (.inl x), l2] st w Q = zR 68 99 [l0, some (.inl x), l2] (.inl x :: st) w Q := zR_go (zst zT_68_98 rfl)
theorem zT_68_99 : zT 68 99 = some (.iaload, 1, 0, []) := by decide +kernel
theorem zr_68_99 {l0 l1 l2 : Option zV} {j : Int} {h : Nat} {st : List zV} {w : zW} {Q : Option zV → zW → Prop} (hk : (zk w h = zNC ∨ zk w h = zNC + 2) ∧ 0 ≤ zN j ∧ zN j < zl w h) : zR 68 99 [l0, l1, l2] (.inl j :: .inr (some h) :: st) w Q = zR 68 100 [l0, l1, l2] (.inl (za w h (zN j).toNat) :: st) w Q := zR_go (zst zT_68_99 (if_pos hk))
theorem zT_68_100 : zT 68 100 = some (.ireturn, 1, 0, []) := by decide +kernel
theorem zr_68_100 {l0 l1 l2 : Option zV} {x : Int} {w : zW} {Q : Option zV → zW → Prop}  : zR 68 100 [l0, l1, l2] [.inl x] w Q = Q (some (.inl x)) w := zR_ret (zst zT_68_100 rfl)
theorem zT_68_101 : zT 68 101 = some (.iconst 0, 1, 0, []) := by decide +kernel
theorem zr_68_101 {l0 l1 l2 : Option zV} {st : List zV} {w : zW} {Q : Option zV → zW → Prop}  : zR 68 101 [l0, l1, l2] st w Q = zR 68 102 [l0, l1, l2] (.inl 0 :: st) w Q := zR_go (zst zT_68_101 rfl)
theorem zT_68_102 : zT 68 102 = some (.ireturn, 1, 0, []) := by decide +kernel
theorem zr_68_102 {l0 l1 l2 : Option zV} {x : Int} {w : zW} {Q : Option zV → zW → Prop}  : zR 68 102 [l0, l1, l2] [.inl x] w Q = Q (some (.inl x)) w := zR_ret (zst zT_68_102 rfl)
theorem zT_69_0 : zT 69 0 = some (.aload_n 0, 1, 0, []) := by decide +kernel
theorem zr_69_0 {l1 l2 : Option zV} {x : Option Nat} {st : List zV} {w : zW} {Q : Option zV → zW → Prop}  : zR 69 0 [some (.inr x), l1, l2] st w Q = zR 69 1 [some (.inr x), l1, l2] (.inr x :: st) w Q := zR_go (zst zT_69_0 rfl)
theorem zT_69_1 : zT 69 1 = some (.iload_n 1, 1, 0, []) := by decide +kernel
theorem zr_69_1 {l0 l2 : Option zV} {x : Int} {st : List zV} {w : zW} {Q : Option zV → zW → Prop}  : zR 69 1 [l0, some (.inl x), l2] st w Q = zR 69 2 [l0, some (.inl x), l2] (.inl x :: st) w Q := zR_go (zst zT_69_1 rfl)
theorem zT_69_2 : zT 69 2 = some (.invokevirtual 170, 3, 1, [(11, 28)]) := by decide +kernel
theorem zr_69_2 {l0 l1 l2 : Option zV} {a0 : zV} {h : Nat} {st : List zV} {w : zW} {Q : Option zV → zW → Prop} (hs : st.length ≤ 8) (hk : zk w h = 11) : zR 69 2 [l0, l1, l2] (a0 :: .inr (some h) :: st) w Q = zR 28 0 [some (.inr (some h)), some a0] [] w (fun r w2 => zR 69 5 [l0, l1, l2] (r.toList ++ st) w2 Q) := zR_call (zst zT_69_2 (zcall_v [a0] rfl hs hk rfl))
theorem zT_69_5 : zT 69 5 = some (.ifCond .eq 27, 3, 0, []) := by decide +kernel
theorem zr_69_5 {l0 l1 l2 : Option zV} {x : Int} {st : List zV} {w : zW} {Q : Option zV → zW → Prop}  : zR 69 5 [l0, l1, l2] (.inl x :: st) w Q = (if zN x = 0 then zR 69 32 [l0, l1, l2] st w Q else zR 69 8 [l0, l1, l2] st w Q) := zR_if (zstB zT_69_5 rfl) (by simp [zcmp])
theorem zT_69_8 : zT 69 8 = some (.iload_n 2, 1, 0, []) := by decide +kernel
theorem zr_69_8 {l0 l1 : Option zV} {x : Int} {st : List zV} {w : zW} {Q : Option zV → zW → Prop}  : zR 69 8 [l0, l1, some (.inl x)] st w Q = zR 69 9 [l0, l1, some (.inl x)] (.inl x :: st) w Q := zR_go (zst zT_69_8 rfl)
theorem zT_69_9 : zT 69 9 = some (.iconst 0, 1, 0, []) := by decide +kernel
theorem zr_69_9 {l0 l1 l2 : Option zV} {st : List zV} {w : zW} {Q : Option zV → zW → Prop}  : zR 69 9 [l0, l1, l2] st w Q = zR 69 10 [l0, l1, l2] (.inl 0 :: st) w Q := zR_go (zst zT_69_9 rfl)
theorem zT_69_10 : zT 69 10 = some (.bipush 23, 2, 0, []) := by decide +kernel
theorem zr_69_10 {l0 l1 l2 : Option zV} {st : List zV} {w : zW} {Q : Option zV → zW → Prop}  : zR 69 10 [l0, l1, l2] st w Q = zR 69 12 [l0, l1, l2] (.inl 23 :: st) w Q := zR_go (zst zT_69_10 rfl)
theorem zT_69_12 : zT 69 12 = some (.invokestatic 150, 3, 3, [(24, 1)]) := by decide +kernel
theorem zr_69_12 {l0 l1 l2 : Option zV} {a0 a1 a2 : zV} {st : List zV} {w : zW} {Q : Option zV → zW → Prop} (hs : st.length ≤ 8) : zR 69 12 [l0, l1, l2] (a2 :: a1 :: a0 :: st) w Q = zR 24 0 [some a0, some a1, some a2] [] w (fun r w2 => zR 69 15 [l0, l1, l2] (r.toList ++ st) w2 Q) := zR_call (zst zT_69_12 ((zcall_s (z := 3) (pc := 12) (j := 24) (ls := [l0, l1, l2]) (w := w) [a2, a1, a0] rfl hs : zi_static 3 [(24, 1)] 12 [l0, l1, l2] ([a2, a1, a0] ++ st) w = _)))
theorem zT_69_15 : zT 69 15 = some (.ifCond .eq 17, 3, 0, []) := by decide +kernel
theorem zr_69_15 {l0 l1 l2 : Option zV} {x : Int} {st : List zV} {w : zW} {Q : Option zV → zW → Prop}  : zR 69 15 [l0, l1, l2] (.inl x :: st) w Q = (if zN x = 0 then zR 69 32 [l0, l1, l2] st w Q else zR 69 18 [l0, l1, l2] st w Q) := zR_if (zstB zT_69_15 rfl) (by simp [zcmp])
theorem zT_69_18 : zT 69 18 = some (.aload_n 0, 1, 0, []) := by decide +kernel
theorem zr_69_18 {l1 l2 : Option zV} {x : Option Nat} {st : List zV} {w : zW} {Q : Option zV → zW → Prop}  : zR 69 18 [some (.inr x), l1, l2] st w Q = zR 69 19 [some (.inr x), l1, l2] (.inr x :: st) w Q := zR_go (zst zT_69_18 rfl)
theorem zT_69_19 : zT 69 19 = some (.getfield 68, 3, 0, [(11, 20)]) := by decide +kernel
theorem zr_69_19 {l0 l1 l2 : Option zV} {h : Nat} {st : List zV} {w : zW} {Q : Option zV → zW → Prop} (hk : zk w h = 11) : zR 69 19 [l0, l1, l2] (.inr (some h) :: st) w Q = zR 69 22 [l0, l1, l2] (.inr (zp w 92 h) :: st) w Q := zR_go (zst zT_69_19 (zget_r hk rfl))
theorem zT_69_22 : zT 69 22 = some (.bipush 24, 2, 0, []) := by decide +kernel
theorem zr_69_22 {l0 l1 l2 : Option zV} {st : List zV} {w : zW} {Q : Option zV → zW → Prop}  : zR 69 22 [l0, l1, l2] st w Q = zR 69 24 [l0, l1, l2] (.inl 24 :: st) w Q := zR_go (zst zT_69_22 rfl)
theorem zT_69_24 : zT 69 24 = some (.iload_n 1, 1, 0, []) := by decide +kernel
theorem zr_69_24 {l0 l2 : Option zV} {x : Int} {st : List zV} {w : zW} {Q : Option zV → zW → Prop}  : zR 69 24 [l0, some (.inl x), l2] st w Q = zR 69 25 [l0, some (.inl x), l2] (.inl x :: st) w Q := zR_go (zst zT_69_24 rfl)
theorem zT_69_25 : zT 69 25 = some (.imul, 1, 0, []) := by decide +kernel
theorem zr_69_25 {l0 l1 l2 : Option zV} {x y : Int} {st : List zV} {w : zW} {Q : Option zV → zW → Prop}  : zR 69 25 [l0, l1, l2] (.inl y :: .inl x :: st) w Q = zR 69 26 [l0, l1, l2] (.inl (x * y) :: st) w Q := zR_go (zst zT_69_25 rfl)
theorem zT_69_26 : zT 69 26 = some (.iload_n 2, 1, 0, []) := by decide +kernel
theorem zr_69_26 {l0 l1 : Option zV} {x : Int} {st : List zV} {w : zW} {Q : Option zV → zW → Prop}  : zR 69 26 [l0, l1, some (.inl x)] st w Q = zR 69 27 [l0, l1, some (.inl x)] (.inl x :: st) w Q := zR_go (zst zT_69_26 rfl)
theorem zT_69_27 : zT 69 27 = some (.iadd, 1, 0, []) := by decide +kernel
theorem zr_69_27 {l0 l1 l2 : Option zV} {x y : Int} {st : List zV} {w : zW} {Q : Option zV → zW → Prop}  : zR 69 27 [l0, l1, l2] (.inl y :: .inl x :: st) w Q = zR 69 28 [l0, l1, l2] (.inl (x + y) :: st) w Q := zR_go (zst zT_69_27 rfl)
theorem zT_69_28 : zT 69 28 = some (.iaload, 1, 0, []) := by decide +kernel
theorem zr_69_28 {l0 l1 l2 : Option zV} {j : Int} {h : Nat} {st : List zV} {w : zW} {Q : Option zV → zW → Prop} (hk : (zk w h = zNC ∨ zk w h = zNC + 2) ∧ 0 ≤ zN j ∧ zN j < zl w h) : zR 69 28 [l0, l1, l2] (.inl j :: .inr (some h) :: st) w Q = zR 69 29 [l0, l1, l2] (.inl (za w h (zN j).toNat) :: st) w Q := zR_go (zst zT_69_28 (if_pos hk))
theorem zT_69_29 : zT 69 29 = some (.goto 4, 3, 0, []) := by decide +kernel
theorem zr_69_29 {l0 l1 l2 : Option zV} {st : List zV} {w : zW} {Q : Option zV → zW → Prop}  : zR 69 29 [l0, l1, l2] st w Q = zR 69 33 [l0, l1, l2] st w Q := zR_go (zst zT_69_29 rfl)
theorem zT_69_32 : zT 69 32 = some (.iconst (-1), 1, 0, []) := by decide +kernel
theorem zr_69_32 {l0 l1 l2 : Option zV} {st : List zV} {w : zW} {Q : Option zV → zW → Prop}  : zR 69 32 [l0, l1, l2] st w Q = zR 69 33 [l0, l1, l2] (.inl (-1) :: st) w Q := zR_go (zst zT_69_32 rfl)
theorem zT_69_33 : zT 69 33 = some (.ireturn, 1, 0, []) := by decide +kernel
theorem zr_69_33 {l0 l1 l2 : Option zV} {x : Int} {w : zW} {Q : Option zV → zW → Prop}  : zR 69 33 [l0, l1, l2] [.inl x] w Q = Q (some (.inl x)) w := zR_ret (zst zT_69_33 rfl)
theorem zT_70_0 : zT 70 0 = some (.iload_n 1, 1, 0, []) := by decide +kernel
theorem zr_70_0 {l0 l2 : Option zV} {x : Int} {st : List zV} {w : zW} {Q : Option zV → zW → Prop}  : zR 70 0 [l0, some (.inl x), l2] st w Q = zR 70 1 [l0, some (.inl x), l2] (.inl x :: st) w Q := zR_go (zst zT_70_0 rfl)
theorem zT_70_1 : zT 70 1 = some (.ifCond .lt 11, 3, 0, []) := by decide +kernel
theorem zr_70_1 {l0 l1 l2 : Option zV} {x : Int} {st : List zV} {w : zW} {Q : Option zV → zW → Prop}  : zR 70 1 [l0, l1, l2] (.inl x :: st) w Q = (if zN x < 0 then zR 70 12 [l0, l1, l2] st w Q else zR 70 4 [l0, l1, l2] st w Q) := zR_if (zstB zT_70_1 rfl) (by simp [zcmp])
theorem zT_70_4 : zT 70 4 = some (.iload_n 1, 1, 0, []) := by decide +kernel
theorem zr_70_4 {l0 l2 : Option zV} {x : Int} {st : List zV} {w : zW} {Q : Option zV → zW → Prop}  : zR 70 4 [l0, some (.inl x), l2] st w Q = zR 70 5 [l0, some (.inl x), l2] (.inl x :: st) w Q := zR_go (zst zT_70_4 rfl)
theorem zT_70_5 : zT 70 5 = some (.aload_n 0, 1, 0, []) := by decide +kernel
theorem zr_70_5 {l1 l2 : Option zV} {x : Option Nat} {st : List zV} {w : zW} {Q : Option zV → zW → Prop}  : zR 70 5 [some (.inr x), l1, l2] st w Q = zR 70 6 [some (.inr x), l1, l2] (.inr x :: st) w Q := zR_go (zst zT_70_5 rfl)
theorem zT_70_6 : zT 70 6 = some (.getfield 155, 3, 0, [(11, 41)]) := by decide +kernel
theorem zr_70_6 {l0 l1 l2 : Option zV} {h : Nat} {st : List zV} {w : zW} {Q : Option zV → zW → Prop} (hk : zk w h = 11) : zR 70 6 [l0, l1, l2] (.inr (some h) :: st) w Q = zR 70 9 [l0, l1, l2] (.inl (zf w 113 h) :: st) w Q := zR_go (zst zT_70_6 (zget_i hk (Or.inl rfl)))
theorem zT_70_9 : zT 70 9 = some (.if_icmp .lt 5, 3, 0, []) := by decide +kernel
theorem zr_70_9 {l0 l1 l2 : Option zV} {x y : Int} {st : List zV} {w : zW} {Q : Option zV → zW → Prop}  : zR 70 9 [l0, l1, l2] (.inl y :: .inl x :: st) w Q = (if zN x < zN y then zR 70 14 [l0, l1, l2] st w Q else zR 70 12 [l0, l1, l2] st w Q) := zR_if (zstB zT_70_9 rfl) (by simp [zcmp])
theorem zT_70_12 : zT 70 12 = some (.iconst (-1), 1, 0, []) := by decide +kernel
theorem zr_70_12 {l0 l1 l2 : Option zV} {st : List zV} {w : zW} {Q : Option zV → zW → Prop}  : zR 70 12 [l0, l1, l2] st w Q = zR 70 13 [l0, l1, l2] (.inl (-1) :: st) w Q := zR_go (zst zT_70_12 rfl)
theorem zT_70_13 : zT 70 13 = some (.ireturn, 1, 0, []) := by decide +kernel
theorem zr_70_13 {l0 l1 l2 : Option zV} {x : Int} {w : zW} {Q : Option zV → zW → Prop}  : zR 70 13 [l0, l1, l2] [.inl x] w Q = Q (some (.inl x)) w := zR_ret (zst zT_70_13 rfl)
theorem zT_70_14 : zT 70 14 = some (.iload_n 2, 1, 0, []) := by decide +kernel
theorem zr_70_14 {l0 l1 : Option zV} {x : Int} {st : List zV} {w : zW} {Q : Option zV → zW → Prop}  : zR 70 14 [l0, l1, some (.inl x)] st w Q = zR 70 15 [l0, l1, some (.inl x)] (.inl x :: st) w Q := zR_go (zst zT_70_14 rfl)
theorem zT_70_15 : zT 70 15 = some (.tableswitch 68 0 4 #[33, 40, 47, 54, 61], 33, 0, []) := by decide +kernel
theorem zr_70_15k0 {l0 l1 l2 : Option zV} {x : Int} {st : List zV} {w : zW} {Q : Option zV → zW → Prop} (hx : zN x = 0) : zR 70 15 [l0, l1, l2] (.inl x :: st) w Q = zR 70 48 [l0, l1, l2] st w Q := zR_go (zst zT_70_15 (by simp [zins, zi_table, zgo, zto, hx]))
theorem zr_70_15k1 {l0 l1 l2 : Option zV} {x : Int} {st : List zV} {w : zW} {Q : Option zV → zW → Prop} (hx : zN x = 1) : zR 70 15 [l0, l1, l2] (.inl x :: st) w Q = zR 70 55 [l0, l1, l2] st w Q := zR_go (zst zT_70_15 (by simp [zins, zi_table, zgo, zto, hx]))
theorem zr_70_15k2 {l0 l1 l2 : Option zV} {x : Int} {st : List zV} {w : zW} {Q : Option zV → zW → Prop} (hx : zN x = 2) : zR 70 15 [l0, l1, l2] (.inl x :: st) w Q = zR 70 62 [l0, l1, l2] st w Q := zR_go (zst zT_70_15 (by simp [zins, zi_table, zgo, zto, hx]))
theorem zr_70_15k3 {l0 l1 l2 : Option zV} {x : Int} {st : List zV} {w : zW} {Q : Option zV → zW → Prop} (hx : zN x = 3) : zR 70 15 [l0, l1, l2] (.inl x :: st) w Q = zR 70 69 [l0, l1, l2] st w Q := zR_go (zst zT_70_15 (by simp [zins, zi_table, zgo, zto, hx]))
theorem zr_70_15k4 {l0 l1 l2 : Option zV} {x : Int} {st : List zV} {w : zW} {Q : Option zV → zW → Prop} (hx : zN x = 4) : zR 70 15 [l0, l1, l2] (.inl x :: st) w Q = zR 70 76 [l0, l1, l2] st w Q := zR_go (zst zT_70_15 (by simp [zins, zi_table, zgo, zto, hx]))
theorem zr_70_15d {l0 l1 l2 : Option zV} {x : Int} {st : List zV} {w : zW} {Q : Option zV → zW → Prop} (hx : zN x < 0 ∨ 4 < zN x) : zR 70 15 [l0, l1, l2] (.inl x :: st) w Q = zR 70 83 [l0, l1, l2] st w Q := zR_go (zst zT_70_15 (by simp [zins, zi_table, zgo, zto, hx]))
theorem zT_70_48 : zT 70 48 = some (.aload_n 0, 1, 0, []) := by decide +kernel
theorem zr_70_48 {l1 l2 : Option zV} {x : Option Nat} {st : List zV} {w : zW} {Q : Option zV → zW → Prop}  : zR 70 48 [some (.inr x), l1, l2] st w Q = zR 70 49 [some (.inr x), l1, l2] (.inr x :: st) w Q := zR_go (zst zT_70_48 rfl)
theorem zT_70_49 : zT 70 49 = some (.getfield 128, 3, 0, [(11, 45)]) := by decide +kernel
theorem zr_70_49 {l0 l1 l2 : Option zV} {h : Nat} {st : List zV} {w : zW} {Q : Option zV → zW → Prop} (hk : zk w h = 11) : zR 70 49 [l0, l1, l2] (.inr (some h) :: st) w Q = zR 70 52 [l0, l1, l2] (.inr (zp w 117 h) :: st) w Q := zR_go (zst zT_70_49 (zget_r hk rfl))
theorem zT_70_52 : zT 70 52 = some (.iload_n 1, 1, 0, []) := by decide +kernel
theorem zr_70_52 {l0 l2 : Option zV} {x : Int} {st : List zV} {w : zW} {Q : Option zV → zW → Prop}  : zR 70 52 [l0, some (.inl x), l2] st w Q = zR 70 53 [l0, some (.inl x), l2] (.inl x :: st) w Q := zR_go (zst zT_70_52 rfl)
theorem zT_70_53 : zT 70 53 = some (.iaload, 1, 0, []) := by decide +kernel
theorem zr_70_53 {l0 l1 l2 : Option zV} {j : Int} {h : Nat} {st : List zV} {w : zW} {Q : Option zV → zW → Prop} (hk : (zk w h = zNC ∨ zk w h = zNC + 2) ∧ 0 ≤ zN j ∧ zN j < zl w h) : zR 70 53 [l0, l1, l2] (.inl j :: .inr (some h) :: st) w Q = zR 70 54 [l0, l1, l2] (.inl (za w h (zN j).toNat) :: st) w Q := zR_go (zst zT_70_53 (if_pos hk))
theorem zT_70_54 : zT 70 54 = some (.ireturn, 1, 0, []) := by decide +kernel
theorem zr_70_54 {l0 l1 l2 : Option zV} {x : Int} {w : zW} {Q : Option zV → zW → Prop}  : zR 70 54 [l0, l1, l2] [.inl x] w Q = Q (some (.inl x)) w := zR_ret (zst zT_70_54 rfl)
theorem zT_70_55 : zT 70 55 = some (.aload_n 0, 1, 0, []) := by decide +kernel
theorem zr_70_55 {l1 l2 : Option zV} {x : Option Nat} {st : List zV} {w : zW} {Q : Option zV → zW → Prop}  : zR 70 55 [some (.inr x), l1, l2] st w Q = zR 70 56 [some (.inr x), l1, l2] (.inr x :: st) w Q := zR_go (zst zT_70_55 rfl)
theorem zT_70_56 : zT 70 56 = some (.getfield 119, 3, 0, [(11, 42)]) := by decide +kernel
theorem zr_70_56 {l0 l1 l2 : Option zV} {h : Nat} {st : List zV} {w : zW} {Q : Option zV → zW → Prop} (hk : zk w h = 11) : zR 70 56 [l0, l1, l2] (.inr (some h) :: st) w Q = zR 70 59 [l0, l1, l2] (.inr (zp w 114 h) :: st) w Q := zR_go (zst zT_70_56 (zget_r hk rfl))
theorem zT_70_59 : zT 70 59 = some (.iload_n 1, 1, 0, []) := by decide +kernel
theorem zr_70_59 {l0 l2 : Option zV} {x : Int} {st : List zV} {w : zW} {Q : Option zV → zW → Prop}  : zR 70 59 [l0, some (.inl x), l2] st w Q = zR 70 60 [l0, some (.inl x), l2] (.inl x :: st) w Q := zR_go (zst zT_70_59 rfl)
theorem zT_70_60 : zT 70 60 = some (.iaload, 1, 0, []) := by decide +kernel
theorem zr_70_60 {l0 l1 l2 : Option zV} {j : Int} {h : Nat} {st : List zV} {w : zW} {Q : Option zV → zW → Prop} (hk : (zk w h = zNC ∨ zk w h = zNC + 2) ∧ 0 ≤ zN j ∧ zN j < zl w h) : zR 70 60 [l0, l1, l2] (.inl j :: .inr (some h) :: st) w Q = zR 70 61 [l0, l1, l2] (.inl (za w h (zN j).toNat) :: st) w Q := zR_go (zst zT_70_60 (if_pos hk))
theorem zT_70_61 : zT 70 61 = some (.ireturn, 1, 0, []) := by decide +kernel
theorem zr_70_61 {l0 l1 l2 : Option zV} {x : Int} {w : zW} {Q : Option zV → zW → Prop}  : zR 70 61 [l0, l1, l2] [.inl x] w Q = Q (some (.inl x)) w := zR_ret (zst zT_70_61 rfl)
theorem zT_70_62 : zT 70 62 = some (.aload_n 0, 1, 0, []) := by decide +kernel
theorem zr_70_62 {l1 l2 : Option zV} {x : Option Nat} {st : List zV} {w : zW} {Q : Option zV → zW → Prop}  : zR 70 62 [some (.inr x), l1, l2] st w Q = zR 70 63 [some (.inr x), l1, l2] (.inr x :: st) w Q := zR_go (zst zT_70_62 rfl)
theorem zT_70_63 : zT 70 63 = some (.getfield 131, 3, 0, [(11, 46)]) := by decide +kernel
theorem zr_70_63 {l0 l1 l2 : Option zV} {h : Nat} {st : List zV} {w : zW} {Q : Option zV → zW → Prop} (hk : zk w h = 11) : zR 70 63 [l0, l1, l2] (.inr (some h) :: st) w Q = zR 70 66 [l0, l1, l2] (.inr (zp w 118 h) :: st) w Q := zR_go (zst zT_70_63 (zget_r hk rfl))
theorem zT_70_66 : zT 70 66 = some (.iload_n 1, 1, 0, []) := by decide +kernel
theorem zr_70_66 {l0 l2 : Option zV} {x : Int} {st : List zV} {w : zW} {Q : Option zV → zW → Prop}  : zR 70 66 [l0, some (.inl x), l2] st w Q = zR 70 67 [l0, some (.inl x), l2] (.inl x :: st) w Q := zR_go (zst zT_70_66 rfl)
theorem zT_70_67 : zT 70 67 = some (.iaload, 1, 0, []) := by decide +kernel
theorem zr_70_67 {l0 l1 l2 : Option zV} {j : Int} {h : Nat} {st : List zV} {w : zW} {Q : Option zV → zW → Prop} (hk : (zk w h = zNC ∨ zk w h = zNC + 2) ∧ 0 ≤ zN j ∧ zN j < zl w h) : zR 70 67 [l0, l1, l2] (.inl j :: .inr (some h) :: st) w Q = zR 70 68 [l0, l1, l2] (.inl (za w h (zN j).toNat) :: st) w Q := zR_go (zst zT_70_67 (if_pos hk))
theorem zT_70_68 : zT 70 68 = some (.ireturn, 1, 0, []) := by decide +kernel
theorem zr_70_68 {l0 l1 l2 : Option zV} {x : Int} {w : zW} {Q : Option zV → zW → Prop}  : zR 70 68 [l0, l1, l2] [.inl x] w Q = Q (some (.inl x)) w := zR_ret (zst zT_70_68 rfl)
theorem zT_70_69 : zT 70 69 = some (.aload_n 0, 1, 0, []) := by decide +kernel
theorem zr_70_69 {l1 l2 : Option zV} {x : Option Nat} {st : List zV} {w : zW} {Q : Option zV → zW → Prop}  : zR 70 69 [some (.inr x), l1, l2] st w Q = zR 70 70 [some (.inr x), l1, l2] (.inr x :: st) w Q := zR_go (zst zT_70_69 rfl)
theorem zT_70_70 : zT 70 70 = some (.getfield 134, 3, 0, [(11, 47)]) := by decide +kernel
theorem zr_70_70 {l0 l1 l2 : Option zV} {h : Nat} {st : List zV} {w : zW} {Q : Option zV → zW → Prop} (hk : zk w h = 11) : zR 70 70 [l0, l1, l2] (.inr (some h) :: st) w Q = zR 70 73 [l0, l1, l2] (.inr (zp w 119 h) :: st) w Q := zR_go (zst zT_70_70 (zget_r hk rfl))
theorem zT_70_73 : zT 70 73 = some (.iload_n 1, 1, 0, []) := by decide +kernel
theorem zr_70_73 {l0 l2 : Option zV} {x : Int} {st : List zV} {w : zW} {Q : Option zV → zW → Prop}  : zR 70 73 [l0, some (.inl x), l2] st w Q = zR 70 74 [l0, some (.inl x), l2] (.inl x :: st) w Q := zR_go (zst zT_70_73 rfl)
theorem zT_70_74 : zT 70 74 = some (.iaload, 1, 0, []) := by decide +kernel
theorem zr_70_74 {l0 l1 l2 : Option zV} {j : Int} {h : Nat} {st : List zV} {w : zW} {Q : Option zV → zW → Prop} (hk : (zk w h = zNC ∨ zk w h = zNC + 2) ∧ 0 ≤ zN j ∧ zN j < zl w h) : zR 70 74 [l0, l1, l2] (.inl j :: .inr (some h) :: st) w Q = zR 70 75 [l0, l1, l2] (.inl (za w h (zN j).toNat) :: st) w Q := zR_go (zst zT_70_74 (if_pos hk))
theorem zT_70_75 : zT 70 75 = some (.ireturn, 1, 0, []) := by decide +kernel
theorem zr_70_75 {l0 l1 l2 : Option zV} {x : Int} {w : zW} {Q : Option zV → zW → Prop}  : zR 70 75 [l0, l1, l2] [.inl x] w Q = Q (some (.inl x)) w := zR_ret (zst zT_70_75 rfl)
theorem zT_70_76 : zT 70 76 = some (.aload_n 0, 1, 0, []) := by decide +kernel
theorem zr_70_76 {l1 l2 : Option zV} {x : Option Nat} {st : List zV} {w : zW} {Q : Option zV → zW → Prop}  : zR 70 76 [some (.inr x), l1, l2] st w Q = zR 70 77 [some (.inr x), l1, l2] (.inr x :: st) w Q := zR_go (zst zT_70_76 rfl)
theorem zT_70_77 : zT 70 77 = some (.getfield 137, 3, 0, [(11, 48)]) := by decide +kernel
theorem zr_70_77 {l0 l1 l2 : Option zV} {h : Nat} {st : List zV} {w : zW} {Q : Option zV → zW → Prop} (hk : zk w h = 11) : zR 70 77 [l0, l1, l2] (.inr (some h) :: st) w Q = zR 70 80 [l0, l1, l2] (.inr (zp w 120 h) :: st) w Q := zR_go (zst zT_70_77 (zget_r hk rfl))
theorem zT_70_80 : zT 70 80 = some (.iload_n 1, 1, 0, []) := by decide +kernel
theorem zr_70_80 {l0 l2 : Option zV} {x : Int} {st : List zV} {w : zW} {Q : Option zV → zW → Prop}  : zR 70 80 [l0, some (.inl x), l2] st w Q = zR 70 81 [l0, some (.inl x), l2] (.inl x :: st) w Q := zR_go (zst zT_70_80 rfl)
theorem zT_70_81 : zT 70 81 = some (.iaload, 1, 0, []) := by decide +kernel
theorem zr_70_81 {l0 l1 l2 : Option zV} {j : Int} {h : Nat} {st : List zV} {w : zW} {Q : Option zV → zW → Prop} (hk : (zk w h = zNC ∨ zk w h = zNC + 2) ∧ 0 ≤ zN j ∧ zN j < zl w h) : zR 70 81 [l0, l1, l2] (.inl j :: .inr (some h) :: st) w Q = zR 70 82 [l0, l1, l2] (.inl (za w h (zN j).toNat) :: st) w Q := zR_go (zst zT_70_81 (if_pos hk))
theorem zT_70_82 : zT 70 82 = some (.ireturn, 1, 0, []) := by decide +kernel
theorem zr_70_82 {l0 l1 l2 : Option zV} {x : Int} {w : zW} {Q : Option zV → zW → Prop}  : zR 70 82 [l0, l1, l2] [.inl x] w Q = Q (some (.inl x)) w := zR_ret (zst zT_70_82 rfl)
theorem zT_70_83 : zT 70 83 = some (.iconst (-1), 1, 0, []) := by decide +kernel
theorem zr_70_83 {l0 l1 l2 : Option zV} {st : List zV} {w : zW} {Q : Option zV → zW → Prop}  : zR 70 83 [l0, l1, l2] st w Q = zR 70 84 [l0, l1, l2] (.inl (-1) :: st) w Q := zR_go (zst zT_70_83 rfl)
theorem zT_70_84 : zT 70 84 = some (.ireturn, 1, 0, []) := by decide +kernel
theorem zr_70_84 {l0 l1 l2 : Option zV} {x : Int} {w : zW} {Q : Option zV → zW → Prop}  : zR 70 84 [l0, l1, l2] [.inl x] w Q = Q (some (.inl x)) w := zR_ret (zst zT_70_84 rfl)
theorem zT_71_0 : zT 71 0 = some (.iload_n 1, 1, 0, []) := by decide +kernel
theorem zr_71_0 {l0 l2 : Option zV} {x : Int} {st : List zV} {w : zW} {Q : Option zV → zW → Prop}  : zR 71 0 [l0, some (.inl x), l2] st w Q = zR 71 1 [l0, some (.inl x), l2] (.inl x :: st) w Q := zR_go (zst zT_71_0 rfl)
theorem zT_71_1 : zT 71 1 = some (.ifCond .lt 39, 3, 0, []) := by decide +kernel
theorem zr_71_1 {l0 l1 l2 : Option zV} {x : Int} {st : List zV} {w : zW} {Q : Option zV → zW → Prop}  : zR 71 1 [l0, l1, l2] (.inl x :: st) w Q = (if zN x < 0 then zR 71 40 [l0, l1, l2] st w Q else zR 71 4 [l0, l1, l2] st w Q) := zR_if (zstB zT_71_1 rfl) (by simp [zcmp])
theorem zT_71_4 : zT 71 4 = some (.iload_n 1, 1, 0, []) := by decide +kernel
theorem zr_71_4 {l0 l2 : Option zV} {x : Int} {st : List zV} {w : zW} {Q : Option zV → zW → Prop}  : zR 71 4 [l0, some (.inl x), l2] st w Q = zR 71 5 [l0, some (.inl x), l2] (.inl x :: st) w Q := zR_go (zst zT_71_4 rfl)
theorem zT_71_5 : zT 71 5 = some (.aload_n 0, 1, 0, []) := by decide +kernel
theorem zr_71_5 {l1 l2 : Option zV} {x : Option Nat} {st : List zV} {w : zW} {Q : Option zV → zW → Prop}  : zR 71 5 [some (.inr x), l1, l2] st w Q = zR 71 6 [some (.inr x), l1, l2] (.inr x :: st) w Q := zR_go (zst zT_71_5 rfl)
theorem zT_71_6 : zT 71 6 = some (.getfield 155, 3, 0, [(11, 41)]) := by decide +kernel
theorem zr_71_6 {l0 l1 l2 : Option zV} {h : Nat} {st : List zV} {w : zW} {Q : Option zV → zW → Prop} (hk : zk w h = 11) : zR 71 6 [l0, l1, l2] (.inr (some h) :: st) w Q = zR 71 9 [l0, l1, l2] (.inl (zf w 113 h) :: st) w Q := zR_go (zst zT_71_6 (zget_i hk (Or.inl rfl)))
theorem zT_71_9 : zT 71 9 = some (.if_icmp .ge 31, 3, 0, []) := by decide +kernel
theorem zr_71_9 {l0 l1 l2 : Option zV} {x y : Int} {st : List zV} {w : zW} {Q : Option zV → zW → Prop}  : zR 71 9 [l0, l1, l2] (.inl y :: .inl x :: st) w Q = (if zN y ≤ zN x then zR 71 40 [l0, l1, l2] st w Q else zR 71 12 [l0, l1, l2] st w Q) := zR_if (zstB zT_71_9 rfl) (by simp [zcmp])
theorem zT_71_12 : zT 71 12 = some (.iload_n 2, 1, 0, []) := by decide +kernel
theorem zr_71_12 {l0 l1 : Option zV} {x : Int} {st : List zV} {w : zW} {Q : Option zV → zW → Prop}  : zR 71 12 [l0, l1, some (.inl x)] st w Q = zR 71 13 [l0, l1, some (.inl x)] (.inl x :: st) w Q := zR_go (zst zT_71_12 rfl)
theorem zT_71_13 : zT 71 13 = some (.ifCond .lt 27, 3, 0, []) := by decide +kernel
theorem zr_71_13 {l0 l1 l2 : Option zV} {x : Int} {st : List zV} {w : zW} {Q : Option zV → zW → Prop}  : zR 71 13 [l0, l1, l2] (.inl x :: st) w Q = (if zN x < 0 then zR 71 40 [l0, l1, l2] st w Q else zR 71 16 [l0, l1, l2] st w Q) := zR_if (zstB zT_71_13 rfl) (by simp [zcmp])
theorem zT_71_16 : zT 71 16 = some (.iload_n 2, 1, 0, []) := by decide +kernel
theorem zr_71_16 {l0 l1 : Option zV} {x : Int} {st : List zV} {w : zW} {Q : Option zV → zW → Prop}  : zR 71 16 [l0, l1, some (.inl x)] st w Q = zR 71 17 [l0, l1, some (.inl x)] (.inl x :: st) w Q := zR_go (zst zT_71_16 rfl)
theorem zT_71_17 : zT 71 17 = some (.aload_n 0, 1, 0, []) := by decide +kernel
theorem zr_71_17 {l1 l2 : Option zV} {x : Option Nat} {st : List zV} {w : zW} {Q : Option zV → zW → Prop}  : zR 71 17 [some (.inr x), l1, l2] st w Q = zR 71 18 [some (.inr x), l1, l2] (.inr x :: st) w Q := zR_go (zst zT_71_17 rfl)
theorem zT_71_18 : zT 71 18 = some (.getfield 137, 3, 0, [(11, 48)]) := by decide +kernel
theorem zr_71_18 {l0 l1 l2 : Option zV} {h : Nat} {st : List zV} {w : zW} {Q : Option zV → zW → Prop} (hk : zk w h = 11) : zR 71 18 [l0, l1, l2] (.inr (some h) :: st) w Q = zR 71 21 [l0, l1, l2] (.inr (zp w 120 h) :: st) w Q := zR_go (zst zT_71_18 (zget_r hk rfl))
theorem zT_71_21 : zT 71 21 = some (.iload_n 1, 1, 0, []) := by decide +kernel
theorem zr_71_21 {l0 l2 : Option zV} {x : Int} {st : List zV} {w : zW} {Q : Option zV → zW → Prop}  : zR 71 21 [l0, some (.inl x), l2] st w Q = zR 71 22 [l0, some (.inl x), l2] (.inl x :: st) w Q := zR_go (zst zT_71_21 rfl)
theorem zT_71_22 : zT 71 22 = some (.iaload, 1, 0, []) := by decide +kernel
theorem zr_71_22 {l0 l1 l2 : Option zV} {j : Int} {h : Nat} {st : List zV} {w : zW} {Q : Option zV → zW → Prop} (hk : (zk w h = zNC ∨ zk w h = zNC + 2) ∧ 0 ≤ zN j ∧ zN j < zl w h) : zR 71 22 [l0, l1, l2] (.inl j :: .inr (some h) :: st) w Q = zR 71 23 [l0, l1, l2] (.inl (za w h (zN j).toNat) :: st) w Q := zR_go (zst zT_71_22 (if_pos hk))
theorem zT_71_23 : zT 71 23 = some (.if_icmp .ge 17, 3, 0, []) := by decide +kernel
theorem zr_71_23 {l0 l1 l2 : Option zV} {x y : Int} {st : List zV} {w : zW} {Q : Option zV → zW → Prop}  : zR 71 23 [l0, l1, l2] (.inl y :: .inl x :: st) w Q = (if zN y ≤ zN x then zR 71 40 [l0, l1, l2] st w Q else zR 71 26 [l0, l1, l2] st w Q) := zR_if (zstB zT_71_23 rfl) (by simp [zcmp])
theorem zT_71_26 : zT 71 26 = some (.aload_n 0, 1, 0, []) := by decide +kernel
theorem zr_71_26 {l1 l2 : Option zV} {x : Option Nat} {st : List zV} {w : zW} {Q : Option zV → zW → Prop}  : zR 71 26 [some (.inr x), l1, l2] st w Q = zR 71 27 [some (.inr x), l1, l2] (.inr x :: st) w Q := zR_go (zst zT_71_26 rfl)
theorem zT_71_27 : zT 71 27 = some (.getfield 140, 3, 0, [(11, 49)]) := by decide +kernel
theorem zr_71_27 {l0 l1 l2 : Option zV} {h : Nat} {st : List zV} {w : zW} {Q : Option zV → zW → Prop} (hk : zk w h = 11) : zR 71 27 [l0, l1, l2] (.inr (some h) :: st) w Q = zR 71 30 [l0, l1, l2] (.inr (zp w 121 h) :: st) w Q := zR_go (zst zT_71_27 (zget_r hk rfl))
theorem zT_71_30 : zT 71 30 = some (.bipush 32, 2, 0, []) := by decide +kernel
theorem zr_71_30 {l0 l1 l2 : Option zV} {st : List zV} {w : zW} {Q : Option zV → zW → Prop}  : zR 71 30 [l0, l1, l2] st w Q = zR 71 32 [l0, l1, l2] (.inl 32 :: st) w Q := zR_go (zst zT_71_30 rfl)
theorem zT_71_32 : zT 71 32 = some (.iload_n 1, 1, 0, []) := by decide +kernel
theorem zr_71_32 {l0 l2 : Option zV} {x : Int} {st : List zV} {w : zW} {Q : Option zV → zW → Prop}  : zR 71 32 [l0, some (.inl x), l2] st w Q = zR 71 33 [l0, some (.inl x), l2] (.inl x :: st) w Q := zR_go (zst zT_71_32 rfl)
theorem zT_71_33 : zT 71 33 = some (.imul, 1, 0, []) := by decide +kernel
theorem zr_71_33 {l0 l1 l2 : Option zV} {x y : Int} {st : List zV} {w : zW} {Q : Option zV → zW → Prop}  : zR 71 33 [l0, l1, l2] (.inl y :: .inl x :: st) w Q = zR 71 34 [l0, l1, l2] (.inl (x * y) :: st) w Q := zR_go (zst zT_71_33 rfl)
theorem zT_71_34 : zT 71 34 = some (.iload_n 2, 1, 0, []) := by decide +kernel
theorem zr_71_34 {l0 l1 : Option zV} {x : Int} {st : List zV} {w : zW} {Q : Option zV → zW → Prop}  : zR 71 34 [l0, l1, some (.inl x)] st w Q = zR 71 35 [l0, l1, some (.inl x)] (.inl x :: st) w Q := zR_go (zst zT_71_34 rfl)
theorem zT_71_35 : zT 71 35 = some (.iadd, 1, 0, []) := by decide +kernel
theorem zr_71_35 {l0 l1 l2 : Option zV} {x y : Int} {st : List zV} {w : zW} {Q : Option zV → zW → Prop}  : zR 71 35 [l0, l1, l2] (.inl y :: .inl x :: st) w Q = zR 71 36 [l0, l1, l2] (.inl (x + y) :: st) w Q := zR_go (zst zT_71_35 rfl)
theorem zT_71_36 : zT 71 36 = some (.iaload, 1, 0, []) := by decide +kernel
theorem zr_71_36 {l0 l1 l2 : Option zV} {j : Int} {h : Nat} {st : List zV} {w : zW} {Q : Option zV → zW → Prop} (hk : (zk w h = zNC ∨ zk w h = zNC + 2) ∧ 0 ≤ zN j ∧ zN j < zl w h) : zR 71 36 [l0, l1, l2] (.inl j :: .inr (some h) :: st) w Q = zR 71 37 [l0, l1, l2] (.inl (za w h (zN j).toNat) :: st) w Q := zR_go (zst zT_71_36 (if_pos hk))
theorem zT_71_37 : zT 71 37 = some (.goto 4, 3, 0, []) := by decide +kernel
theorem zr_71_37 {l0 l1 l2 : Option zV} {st : List zV} {w : zW} {Q : Option zV → zW → Prop}  : zR 71 37 [l0, l1, l2] st w Q = zR 71 41 [l0, l1, l2] st w Q := zR_go (zst zT_71_37 rfl)
theorem zT_71_40 : zT 71 40 = some (.iconst (-1), 1, 0, []) := by decide +kernel
theorem zr_71_40 {l0 l1 l2 : Option zV} {st : List zV} {w : zW} {Q : Option zV → zW → Prop}  : zR 71 40 [l0, l1, l2] st w Q = zR 71 41 [l0, l1, l2] (.inl (-1) :: st) w Q := zR_go (zst zT_71_40 rfl)
theorem zT_71_41 : zT 71 41 = some (.ireturn, 1, 0, []) := by decide +kernel
theorem zr_71_41 {l0 l1 l2 : Option zV} {x : Int} {w : zW} {Q : Option zV → zW → Prop}  : zR 71 41 [l0, l1, l2] [.inl x] w Q = Q (some (.inl x)) w := zR_ret (zst zT_71_41 rfl)
theorem zT_72_0 : zT 72 0 = some (.iload_n 1, 1, 0, []) := by decide +kernel
theorem zr_72_0 {l0 l2 : Option zV} {x : Int} {st : List zV} {w : zW} {Q : Option zV → zW → Prop}  : zR 72 0 [l0, some (.inl x), l2] st w Q = zR 72 1 [l0, some (.inl x), l2] (.inl x :: st) w Q := zR_go (zst zT_72_0 rfl)
theorem zT_72_1 : zT 72 1 = some (.ifCond .lt 40, 3, 0, []) := by decide +kernel
theorem zr_72_1 {l0 l1 l2 : Option zV} {x : Int} {st : List zV} {w : zW} {Q : Option zV → zW → Prop}  : zR 72 1 [l0, l1, l2] (.inl x :: st) w Q = (if zN x < 0 then zR 72 41 [l0, l1, l2] st w Q else zR 72 4 [l0, l1, l2] st w Q) := zR_if (zstB zT_72_1 rfl) (by simp [zcmp])
theorem zT_72_4 : zT 72 4 = some (.iload_n 1, 1, 0, []) := by decide +kernel
theorem zr_72_4 {l0 l2 : Option zV} {x : Int} {st : List zV} {w : zW} {Q : Option zV → zW → Prop}  : zR 72 4 [l0, some (.inl x), l2] st w Q = zR 72 5 [l0, some (.inl x), l2] (.inl x :: st) w Q := zR_go (zst zT_72_4 rfl)
theorem zT_72_5 : zT 72 5 = some (.aload_n 0, 1, 0, []) := by decide +kernel
theorem zr_72_5 {l1 l2 : Option zV} {x : Option Nat} {st : List zV} {w : zW} {Q : Option zV → zW → Prop}  : zR 72 5 [some (.inr x), l1, l2] st w Q = zR 72 6 [some (.inr x), l1, l2] (.inr x :: st) w Q := zR_go (zst zT_72_5 rfl)
theorem zT_72_6 : zT 72 6 = some (.getfield 190, 3, 0, [(11, 50)]) := by decide +kernel
theorem zr_72_6 {l0 l1 l2 : Option zV} {h : Nat} {st : List zV} {w : zW} {Q : Option zV → zW → Prop} (hk : zk w h = 11) : zR 72 6 [l0, l1, l2] (.inr (some h) :: st) w Q = zR 72 9 [l0, l1, l2] (.inl (zf w 122 h) :: st) w Q := zR_go (zst zT_72_6 (zget_i hk (Or.inl rfl)))
theorem zT_72_9 : zT 72 9 = some (.if_icmp .ge 32, 3, 0, []) := by decide +kernel
theorem zr_72_9 {l0 l1 l2 : Option zV} {x y : Int} {st : List zV} {w : zW} {Q : Option zV → zW → Prop}  : zR 72 9 [l0, l1, l2] (.inl y :: .inl x :: st) w Q = (if zN y ≤ zN x then zR 72 41 [l0, l1, l2] st w Q else zR 72 12 [l0, l1, l2] st w Q) := zR_if (zstB zT_72_9 rfl) (by simp [zcmp])
theorem zT_72_12 : zT 72 12 = some (.iload_n 2, 1, 0, []) := by decide +kernel
theorem zr_72_12 {l0 l1 : Option zV} {x : Int} {st : List zV} {w : zW} {Q : Option zV → zW → Prop}  : zR 72 12 [l0, l1, some (.inl x)] st w Q = zR 72 13 [l0, l1, some (.inl x)] (.inl x :: st) w Q := zR_go (zst zT_72_12 rfl)
theorem zT_72_13 : zT 72 13 = some (.iconst 0, 1, 0, []) := by decide +kernel
theorem zr_72_13 {l0 l1 l2 : Option zV} {st : List zV} {w : zW} {Q : Option zV → zW → Prop}  : zR 72 13 [l0, l1, l2] st w Q = zR 72 14 [l0, l1, l2] (.inl 0 :: st) w Q := zR_go (zst zT_72_13 rfl)
theorem zT_72_14 : zT 72 14 = some (.iconst 2, 1, 0, []) := by decide +kernel
theorem zr_72_14 {l0 l1 l2 : Option zV} {st : List zV} {w : zW} {Q : Option zV → zW → Prop}  : zR 72 14 [l0, l1, l2] st w Q = zR 72 15 [l0, l1, l2] (.inl 2 :: st) w Q := zR_go (zst zT_72_14 rfl)
theorem zT_72_15 : zT 72 15 = some (.invokestatic 150, 3, 3, [(24, 1)]) := by decide +kernel
theorem zr_72_15 {l0 l1 l2 : Option zV} {a0 a1 a2 : zV} {st : List zV} {w : zW} {Q : Option zV → zW → Prop} (hs : st.length ≤ 8) : zR 72 15 [l0, l1, l2] (a2 :: a1 :: a0 :: st) w Q = zR 24 0 [some a0, some a1, some a2] [] w (fun r w2 => zR 72 18 [l0, l1, l2] (r.toList ++ st) w2 Q) := zR_call (zst zT_72_15 ((zcall_s (z := 3) (pc := 15) (j := 24) (ls := [l0, l1, l2]) (w := w) [a2, a1, a0] rfl hs : zi_static 3 [(24, 1)] 15 [l0, l1, l2] ([a2, a1, a0] ++ st) w = _)))
theorem zT_72_18 : zT 72 18 = some (.ifCond .eq 23, 3, 0, []) := by decide +kernel
theorem zr_72_18 {l0 l1 l2 : Option zV} {x : Int} {st : List zV} {w : zW} {Q : Option zV → zW → Prop}  : zR 72 18 [l0, l1, l2] (.inl x :: st) w Q = (if zN x = 0 then zR 72 41 [l0, l1, l2] st w Q else zR 72 21 [l0, l1, l2] st w Q) := zR_if (zstB zT_72_18 rfl) (by simp [zcmp])
theorem zT_72_21 : zT 72 21 = some (.aload_n 0, 1, 0, []) := by decide +kernel
theorem zr_72_21 {l1 l2 : Option zV} {x : Option Nat} {st : List zV} {w : zW} {Q : Option zV → zW → Prop}  : zR 72 21 [some (.inr x), l1, l2] st w Q = zR 72 22 [some (.inr x), l1, l2] (.inr x :: st) w Q := zR_go (zst zT_72_21 rfl)
theorem zT_72_22 : zT 72 22 = some (.getfield 143, 3, 0, [(11, 51)]) := by decide +kernel
theorem zr_72_22 {l0 l1 l2 : Option zV} {h : Nat} {st : List zV} {w : zW} {Q : Option zV → zW → Prop} (hk : zk w h = 11) : zR 72 22 [l0, l1, l2] (.inr (some h) :: st) w Q = zR 72 25 [l0, l1, l2] (.inr (zp w 123 h) :: st) w Q := zR_go (zst zT_72_22 (zget_r hk rfl))
theorem zT_72_25 : zT 72 25 = some (.iconst 3, 1, 0, []) := by decide +kernel
theorem zr_72_25 {l0 l1 l2 : Option zV} {st : List zV} {w : zW} {Q : Option zV → zW → Prop}  : zR 72 25 [l0, l1, l2] st w Q = zR 72 26 [l0, l1, l2] (.inl 3 :: st) w Q := zR_go (zst zT_72_25 rfl)
theorem zT_72_26 : zT 72 26 = some (.aload_n 0, 1, 0, []) := by decide +kernel
theorem zr_72_26 {l1 l2 : Option zV} {x : Option Nat} {st : List zV} {w : zW} {Q : Option zV → zW → Prop}  : zR 72 26 [some (.inr x), l1, l2] st w Q = zR 72 27 [some (.inr x), l1, l2] (.inr x :: st) w Q := zR_go (zst zT_72_26 rfl)
theorem zT_72_27 : zT 72 27 = some (.getfield 190, 3, 0, [(11, 50)]) := by decide +kernel
theorem zr_72_27 {l0 l1 l2 : Option zV} {h : Nat} {st : List zV} {w : zW} {Q : Option zV → zW → Prop} (hk : zk w h = 11) : zR 72 27 [l0, l1, l2] (.inr (some h) :: st) w Q = zR 72 30 [l0, l1, l2] (.inl (zf w 122 h) :: st) w Q := zR_go (zst zT_72_27 (zget_i hk (Or.inl rfl)))
theorem zT_72_30 : zT 72 30 = some (.iconst 1, 1, 0, []) := by decide +kernel
theorem zr_72_30 {l0 l1 l2 : Option zV} {st : List zV} {w : zW} {Q : Option zV → zW → Prop}  : zR 72 30 [l0, l1, l2] st w Q = zR 72 31 [l0, l1, l2] (.inl 1 :: st) w Q := zR_go (zst zT_72_30 rfl)
theorem zT_72_31 : zT 72 31 = some (.isub, 1, 0, []) := by decide +kernel
theorem zr_72_31 {l0 l1 l2 : Option zV} {x y : Int} {st : List zV} {w : zW} {Q : Option zV → zW → Prop}  : zR 72 31 [l0, l1, l2] (.inl y :: .inl x :: st) w Q = zR 72 32 [l0, l1, l2] (.inl (x - y) :: st) w Q := zR_go (zst zT_72_31 rfl)
theorem zT_72_32 : zT 72 32 = some (.iload_n 1, 1, 0, []) := by decide +kernel
theorem zr_72_32 {l0 l2 : Option zV} {x : Int} {st : List zV} {w : zW} {Q : Option zV → zW → Prop}  : zR 72 32 [l0, some (.inl x), l2] st w Q = zR 72 33 [l0, some (.inl x), l2] (.inl x :: st) w Q := zR_go (zst zT_72_32 rfl)
theorem zT_72_33 : zT 72 33 = some (.isub, 1, 0, []) := by decide +kernel
theorem zr_72_33 {l0 l1 l2 : Option zV} {x y : Int} {st : List zV} {w : zW} {Q : Option zV → zW → Prop}  : zR 72 33 [l0, l1, l2] (.inl y :: .inl x :: st) w Q = zR 72 34 [l0, l1, l2] (.inl (x - y) :: st) w Q := zR_go (zst zT_72_33 rfl)
theorem zT_72_34 : zT 72 34 = some (.imul, 1, 0, []) := by decide +kernel
theorem zr_72_34 {l0 l1 l2 : Option zV} {x y : Int} {st : List zV} {w : zW} {Q : Option zV → zW → Prop}  : zR 72 34 [l0, l1, l2] (.inl y :: .inl x :: st) w Q = zR 72 35 [l0, l1, l2] (.inl (x * y) :: st) w Q := zR_go (zst zT_72_34 rfl)
theorem zT_72_35 : zT 72 35 = some (.iload_n 2, 1, 0, []) := by decide +kernel
theorem zr_72_35 {l0 l1 : Option zV} {x : Int} {st : List zV} {w : zW} {Q : Option zV → zW → Prop}  : zR 72 35 [l0, l1, some (.inl x)] st w Q = zR 72 36 [l0, l1, some (.inl x)] (.inl x :: st) w Q := zR_go (zst zT_72_35 rfl)
theorem zT_72_36 : zT 72 36 = some (.iadd, 1, 0, []) := by decide +kernel
theorem zr_72_36 {l0 l1 l2 : Option zV} {x y : Int} {st : List zV} {w : zW} {Q : Option zV → zW → Prop}  : zR 72 36 [l0, l1, l2] (.inl y :: .inl x :: st) w Q = zR 72 37 [l0, l1, l2] (.inl (x + y) :: st) w Q := zR_go (zst zT_72_36 rfl)
theorem zT_72_37 : zT 72 37 = some (.iaload, 1, 0, []) := by decide +kernel
theorem zr_72_37 {l0 l1 l2 : Option zV} {j : Int} {h : Nat} {st : List zV} {w : zW} {Q : Option zV → zW → Prop} (hk : (zk w h = zNC ∨ zk w h = zNC + 2) ∧ 0 ≤ zN j ∧ zN j < zl w h) : zR 72 37 [l0, l1, l2] (.inl j :: .inr (some h) :: st) w Q = zR 72 38 [l0, l1, l2] (.inl (za w h (zN j).toNat) :: st) w Q := zR_go (zst zT_72_37 (if_pos hk))
theorem zT_72_38 : zT 72 38 = some (.goto 6, 3, 0, []) := by decide +kernel
theorem zr_72_38 {l0 l1 l2 : Option zV} {st : List zV} {w : zW} {Q : Option zV → zW → Prop}  : zR 72 38 [l0, l1, l2] st w Q = zR 72 44 [l0, l1, l2] st w Q := zR_go (zst zT_72_38 rfl)
theorem zT_72_41 : zT 72 41 = some (.ldc_w 279, 3, (-40000), []) := by decide +kernel
theorem zr_72_41 {l0 l1 l2 : Option zV} {st : List zV} {w : zW} {Q : Option zV → zW → Prop}  : zR 72 41 [l0, l1, l2] st w Q = zR 72 44 [l0, l1, l2] (.inl (-40000) :: st) w Q := zR_go (zst zT_72_41 rfl)
theorem zT_72_44 : zT 72 44 = some (.ireturn, 1, 0, []) := by decide +kernel
theorem zr_72_44 {l0 l1 l2 : Option zV} {x : Int} {w : zW} {Q : Option zV → zW → Prop}  : zR 72 44 [l0, l1, l2] [.inl x] w Q = Q (some (.inl x)) w := zR_ret (zst zT_72_44 rfl)
theorem zT_73_0 : zT 73 0 = some (.iload_n 1, 1, 0, []) := by decide +kernel
theorem zr_73_0 {l0 l2 : Option zV} {x : Int} {st : List zV} {w : zW} {Q : Option zV → zW → Prop}  : zR 73 0 [l0, some (.inl x), l2] st w Q = zR 73 1 [l0, some (.inl x), l2] (.inl x :: st) w Q := zR_go (zst zT_73_0 rfl)
theorem zT_73_1 : zT 73 1 = some (.iconst 0, 1, 0, []) := by decide +kernel
theorem zr_73_1 {l0 l1 l2 : Option zV} {st : List zV} {w : zW} {Q : Option zV → zW → Prop}  : zR 73 1 [l0, l1, l2] st w Q = zR 73 2 [l0, l1, l2] (.inl 0 :: st) w Q := zR_go (zst zT_73_1 rfl)
theorem zT_73_2 : zT 73 2 = some (.iconst 1, 1, 0, []) := by decide +kernel
theorem zr_73_2 {l0 l1 l2 : Option zV} {st : List zV} {w : zW} {Q : Option zV → zW → Prop}  : zR 73 2 [l0, l1, l2] st w Q = zR 73 3 [l0, l1, l2] (.inl 1 :: st) w Q := zR_go (zst zT_73_2 rfl)
theorem zT_73_3 : zT 73 3 = some (.invokestatic 150, 3, 3, [(24, 1)]) := by decide +kernel
theorem zr_73_3 {l0 l1 l2 : Option zV} {a0 a1 a2 : zV} {st : List zV} {w : zW} {Q : Option zV → zW → Prop} (hs : st.length ≤ 8) : zR 73 3 [l0, l1, l2] (a2 :: a1 :: a0 :: st) w Q = zR 24 0 [some a0, some a1, some a2] [] w (fun r w2 => zR 73 6 [l0, l1, l2] (r.toList ++ st) w2 Q) := zR_call (zst zT_73_3 ((zcall_s (z := 3) (pc := 3) (j := 24) (ls := [l0, l1, l2]) (w := w) [a2, a1, a0] rfl hs : zi_static 3 [(24, 1)] 3 [l0, l1, l2] ([a2, a1, a0] ++ st) w = _)))
theorem zT_73_6 : zT 73 6 = some (.ifCond .ne 5, 3, 0, []) := by decide +kernel
theorem zr_73_6 {l0 l1 l2 : Option zV} {x : Int} {st : List zV} {w : zW} {Q : Option zV → zW → Prop}  : zR 73 6 [l0, l1, l2] (.inl x :: st) w Q = (if zN x ≠ 0 then zR 73 11 [l0, l1, l2] st w Q else zR 73 9 [l0, l1, l2] st w Q) := zR_if (zstB zT_73_6 rfl) (by simp [zcmp])
theorem zT_73_9 : zT 73 9 = some (.iconst (-1), 1, 0, []) := by decide +kernel
theorem zr_73_9 {l0 l1 l2 : Option zV} {st : List zV} {w : zW} {Q : Option zV → zW → Prop}  : zR 73 9 [l0, l1, l2] st w Q = zR 73 10 [l0, l1, l2] (.inl (-1) :: st) w Q := zR_go (zst zT_73_9 rfl)
theorem zT_73_10 : zT 73 10 = some (.ireturn, 1, 0, []) := by decide +kernel
theorem zr_73_10 {l0 l1 l2 : Option zV} {x : Int} {w : zW} {Q : Option zV → zW → Prop}  : zR 73 10 [l0, l1, l2] [.inl x] w Q = Q (some (.inl x)) w := zR_ret (zst zT_73_10 rfl)
theorem zT_73_11 : zT 73 11 = some (.iload_n 2, 1, 0, []) := by decide +kernel
theorem zr_73_11 {l0 l1 : Option zV} {x : Int} {st : List zV} {w : zW} {Q : Option zV → zW → Prop}  : zR 73 11 [l0, l1, some (.inl x)] st w Q = zR 73 12 [l0, l1, some (.inl x)] (.inl x :: st) w Q := zR_go (zst zT_73_11 rfl)
theorem zT_73_12 : zT 73 12 = some (.iconst (-1), 1, 0, []) := by decide +kernel
theorem zr_73_12 {l0 l1 l2 : Option zV} {st : List zV} {w : zW} {Q : Option zV → zW → Prop}  : zR 73 12 [l0, l1, l2] st w Q = zR 73 13 [l0, l1, l2] (.inl (-1) :: st) w Q := zR_go (zst zT_73_12 rfl)
theorem zT_73_13 : zT 73 13 = some (.if_icmp .ne 10, 3, 0, []) := by decide +kernel
theorem zr_73_13 {l0 l1 l2 : Option zV} {x y : Int} {st : List zV} {w : zW} {Q : Option zV → zW → Prop}  : zR 73 13 [l0, l1, l2] (.inl y :: .inl x :: st) w Q = (if zN x ≠ zN y then zR 73 23 [l0, l1, l2] st w Q else zR 73 16 [l0, l1, l2] st w Q) := zR_if (zstB zT_73_13 rfl) (by simp [zcmp])
theorem zT_73_16 : zT 73 16 = some (.aload_n 0, 1, 0, []) := by decide +kernel
theorem zr_73_16 {l1 l2 : Option zV} {x : Option Nat} {st : List zV} {w : zW} {Q : Option zV → zW → Prop}  : zR 73 16 [some (.inr x), l1, l2] st w Q = zR 73 17 [some (.inr x), l1, l2] (.inr x :: st) w Q := zR_go (zst zT_73_16 rfl)
theorem zT_73_17 : zT 73 17 = some (.getfield 107, 3, 0, [(11, 36)]) := by decide +kernel
theorem zr_73_17 {l0 l1 l2 : Option zV} {h : Nat} {st : List zV} {w : zW} {Q : Option zV → zW → Prop} (hk : zk w h = 11) : zR 73 17 [l0, l1, l2] (.inr (some h) :: st) w Q = zR 73 20 [l0, l1, l2] (.inr (zp w 108 h) :: st) w Q := zR_go (zst zT_73_17 (zget_r hk rfl))
theorem zT_73_20 : zT 73 20 = some (.iload_n 1, 1, 0, []) := by decide +kernel
theorem zr_73_20 {l0 l2 : Option zV} {x : Int} {st : List zV} {w : zW} {Q : Option zV → zW → Prop}  : zR 73 20 [l0, some (.inl x), l2] st w Q = zR 73 21 [l0, some (.inl x), l2] (.inl x :: st) w Q := zR_go (zst zT_73_20 rfl)
theorem zT_73_21 : zT 73 21 = some (.iaload, 1, 0, []) := by decide +kernel
theorem zr_73_21 {l0 l1 l2 : Option zV} {j : Int} {h : Nat} {st : List zV} {w : zW} {Q : Option zV → zW → Prop} (hk : (zk w h = zNC ∨ zk w h = zNC + 2) ∧ 0 ≤ zN j ∧ zN j < zl w h) : zR 73 21 [l0, l1, l2] (.inl j :: .inr (some h) :: st) w Q = zR 73 22 [l0, l1, l2] (.inl (za w h (zN j).toNat) :: st) w Q := zR_go (zst zT_73_21 (if_pos hk))
theorem zT_73_22 : zT 73 22 = some (.ireturn, 1, 0, []) := by decide +kernel
theorem zr_73_22 {l0 l1 l2 : Option zV} {x : Int} {w : zW} {Q : Option zV → zW → Prop}  : zR 73 22 [l0, l1, l2] [.inl x] w Q = Q (some (.inl x)) w := zR_ret (zst zT_73_22 rfl)
theorem zT_73_23 : zT 73 23 = some (.iload_n 2, 1, 0, []) := by decide +kernel
theorem zr_73_23 {l0 l1 : Option zV} {x : Int} {st : List zV} {w : zW} {Q : Option zV → zW → Prop}  : zR 73 23 [l0, l1, some (.inl x)] st w Q = zR 73 24 [l0, l1, some (.inl x)] (.inl x :: st) w Q := zR_go (zst zT_73_23 rfl)
theorem zT_73_24 : zT 73 24 = some (.ifCond .lt 27, 3, 0, []) := by decide +kernel
theorem zr_73_24 {l0 l1 l2 : Option zV} {x : Int} {st : List zV} {w : zW} {Q : Option zV → zW → Prop}  : zR 73 24 [l0, l1, l2] (.inl x :: st) w Q = (if zN x < 0 then zR 73 51 [l0, l1, l2] st w Q else zR 73 27 [l0, l1, l2] st w Q) := zR_if (zstB zT_73_24 rfl) (by simp [zcmp])
theorem zT_73_27 : zT 73 27 = some (.iload_n 2, 1, 0, []) := by decide +kernel
theorem zr_73_27 {l0 l1 : Option zV} {x : Int} {st : List zV} {w : zW} {Q : Option zV → zW → Prop}  : zR 73 27 [l0, l1, some (.inl x)] st w Q = zR 73 28 [l0, l1, some (.inl x)] (.inl x :: st) w Q := zR_go (zst zT_73_27 rfl)
theorem zT_73_28 : zT 73 28 = some (.aload_n 0, 1, 0, []) := by decide +kernel
theorem zr_73_28 {l1 l2 : Option zV} {x : Option Nat} {st : List zV} {w : zW} {Q : Option zV → zW → Prop}  : zR 73 28 [some (.inr x), l1, l2] st w Q = zR 73 29 [some (.inr x), l1, l2] (.inr x :: st) w Q := zR_go (zst zT_73_28 rfl)
theorem zT_73_29 : zT 73 29 = some (.getfield 107, 3, 0, [(11, 36)]) := by decide +kernel
theorem zr_73_29 {l0 l1 l2 : Option zV} {h : Nat} {st : List zV} {w : zW} {Q : Option zV → zW → Prop} (hk : zk w h = 11) : zR 73 29 [l0, l1, l2] (.inr (some h) :: st) w Q = zR 73 32 [l0, l1, l2] (.inr (zp w 108 h) :: st) w Q := zR_go (zst zT_73_29 (zget_r hk rfl))
theorem zT_73_32 : zT 73 32 = some (.iload_n 1, 1, 0, []) := by decide +kernel
theorem zr_73_32 {l0 l2 : Option zV} {x : Int} {st : List zV} {w : zW} {Q : Option zV → zW → Prop}  : zR 73 32 [l0, some (.inl x), l2] st w Q = zR 73 33 [l0, some (.inl x), l2] (.inl x :: st) w Q := zR_go (zst zT_73_32 rfl)
theorem zT_73_33 : zT 73 33 = some (.iaload, 1, 0, []) := by decide +kernel
theorem zr_73_33 {l0 l1 l2 : Option zV} {j : Int} {h : Nat} {st : List zV} {w : zW} {Q : Option zV → zW → Prop} (hk : (zk w h = zNC ∨ zk w h = zNC + 2) ∧ 0 ≤ zN j ∧ zN j < zl w h) : zR 73 33 [l0, l1, l2] (.inl j :: .inr (some h) :: st) w Q = zR 73 34 [l0, l1, l2] (.inl (za w h (zN j).toNat) :: st) w Q := zR_go (zst zT_73_33 (if_pos hk))
theorem zT_73_34 : zT 73 34 = some (.if_icmp .ge 17, 3, 0, []) := by decide +kernel
theorem zr_73_34 {l0 l1 l2 : Option zV} {x y : Int} {st : List zV} {w : zW} {Q : Option zV → zW → Prop}  : zR 73 34 [l0, l1, l2] (.inl y :: .inl x :: st) w Q = (if zN y ≤ zN x then zR 73 51 [l0, l1, l2] st w Q else zR 73 37 [l0, l1, l2] st w Q) := zR_if (zstB zT_73_34 rfl) (by simp [zcmp])
theorem zT_73_37 : zT 73 37 = some (.aload_n 0, 1, 0, []) := by decide +kernel
theorem zr_73_37 {l1 l2 : Option zV} {x : Option Nat} {st : List zV} {w : zW} {Q : Option zV → zW → Prop}  : zR 73 37 [some (.inr x), l1, l2] st w Q = zR 73 38 [some (.inr x), l1, l2] (.inr x :: st) w Q := zR_go (zst zT_73_37 rfl)
theorem zT_73_38 : zT 73 38 = some (.getfield 104, 3, 0, [(11, 35)]) := by decide +kernel
theorem zr_73_38 {l0 l1 l2 : Option zV} {h : Nat} {st : List zV} {w : zW} {Q : Option zV → zW → Prop} (hk : zk w h = 11) : zR 73 38 [l0, l1, l2] (.inr (some h) :: st) w Q = zR 73 41 [l0, l1, l2] (.inr (zp w 107 h) :: st) w Q := zR_go (zst zT_73_38 (zget_r hk rfl))
theorem zT_73_41 : zT 73 41 = some (.bipush 16, 2, 0, []) := by decide +kernel
theorem zr_73_41 {l0 l1 l2 : Option zV} {st : List zV} {w : zW} {Q : Option zV → zW → Prop}  : zR 73 41 [l0, l1, l2] st w Q = zR 73 43 [l0, l1, l2] (.inl 16 :: st) w Q := zR_go (zst zT_73_41 rfl)
theorem zT_73_43 : zT 73 43 = some (.iload_n 1, 1, 0, []) := by decide +kernel
theorem zr_73_43 {l0 l2 : Option zV} {x : Int} {st : List zV} {w : zW} {Q : Option zV → zW → Prop}  : zR 73 43 [l0, some (.inl x), l2] st w Q = zR 73 44 [l0, some (.inl x), l2] (.inl x :: st) w Q := zR_go (zst zT_73_43 rfl)
theorem zT_73_44 : zT 73 44 = some (.imul, 1, 0, []) := by decide +kernel
theorem zr_73_44 {l0 l1 l2 : Option zV} {x y : Int} {st : List zV} {w : zW} {Q : Option zV → zW → Prop}  : zR 73 44 [l0, l1, l2] (.inl y :: .inl x :: st) w Q = zR 73 45 [l0, l1, l2] (.inl (x * y) :: st) w Q := zR_go (zst zT_73_44 rfl)
theorem zT_73_45 : zT 73 45 = some (.iload_n 2, 1, 0, []) := by decide +kernel
theorem zr_73_45 {l0 l1 : Option zV} {x : Int} {st : List zV} {w : zW} {Q : Option zV → zW → Prop}  : zR 73 45 [l0, l1, some (.inl x)] st w Q = zR 73 46 [l0, l1, some (.inl x)] (.inl x :: st) w Q := zR_go (zst zT_73_45 rfl)
theorem zT_73_46 : zT 73 46 = some (.iadd, 1, 0, []) := by decide +kernel
theorem zr_73_46 {l0 l1 l2 : Option zV} {x y : Int} {st : List zV} {w : zW} {Q : Option zV → zW → Prop}  : zR 73 46 [l0, l1, l2] (.inl y :: .inl x :: st) w Q = zR 73 47 [l0, l1, l2] (.inl (x + y) :: st) w Q := zR_go (zst zT_73_46 rfl)
theorem zT_73_47 : zT 73 47 = some (.iaload, 1, 0, []) := by decide +kernel
theorem zr_73_47 {l0 l1 l2 : Option zV} {j : Int} {h : Nat} {st : List zV} {w : zW} {Q : Option zV → zW → Prop} (hk : (zk w h = zNC ∨ zk w h = zNC + 2) ∧ 0 ≤ zN j ∧ zN j < zl w h) : zR 73 47 [l0, l1, l2] (.inl j :: .inr (some h) :: st) w Q = zR 73 48 [l0, l1, l2] (.inl (za w h (zN j).toNat) :: st) w Q := zR_go (zst zT_73_47 (if_pos hk))
theorem zT_73_48 : zT 73 48 = some (.goto 4, 3, 0, []) := by decide +kernel
theorem zr_73_48 {l0 l1 l2 : Option zV} {st : List zV} {w : zW} {Q : Option zV → zW → Prop}  : zR 73 48 [l0, l1, l2] st w Q = zR 73 52 [l0, l1, l2] st w Q := zR_go (zst zT_73_48 rfl)
theorem zT_73_51 : zT 73 51 = some (.iconst (-1), 1, 0, []) := by decide +kernel
theorem zr_73_51 {l0 l1 l2 : Option zV} {st : List zV} {w : zW} {Q : Option zV → zW → Prop}  : zR 73 51 [l0, l1, l2] st w Q = zR 73 52 [l0, l1, l2] (.inl (-1) :: st) w Q := zR_go (zst zT_73_51 rfl)
theorem zT_73_52 : zT 73 52 = some (.ireturn, 1, 0, []) := by decide +kernel
theorem zr_73_52 {l0 l1 l2 : Option zV} {x : Int} {w : zW} {Q : Option zV → zW → Prop}  : zR 73 52 [l0, l1, l2] [.inl x] w Q = Q (some (.inl x)) w := zR_ret (zst zT_73_52 rfl)
