-- rules of rewriting, an instruction each: laid by program
theorem zT_1_0 : zT 1 0 = some (.iload_n 1, 1, 0, []) := by decide +kernel
theorem zr_1_0 {l0 l2 l3 l4 : Option zV} {x : Int} {st : List zV} {w : zW} {Q : Option zV → zW → Prop}  : zR 1 0 [l0, some (.inl x), l2, l3, l4] st w Q = zR 1 1 [l0, some (.inl x), l2, l3, l4] (.inl x :: st) w Q := zR_go (zst zT_1_0 rfl)
theorem zT_1_1 : zT 1 1 = some (.invokestatic 57, 3, 1, [(18, 1)]) := by decide +kernel
theorem zr_1_1 {l0 l1 l2 l3 l4 : Option zV} {a0 : zV} {st : List zV} {w : zW} {Q : Option zV → zW → Prop} (hs : st.length ≤ 8) : zR 1 1 [l0, l1, l2, l3, l4] (a0 :: st) w Q = zR 18 0 [some a0] [] w (fun r w2 => zR 1 4 [l0, l1, l2, l3, l4] (r.toList ++ st) w2 Q) := zR_call (zst zT_1_1 ((zcall_s (z := 1) (pc := 1) (j := 18) (ls := [l0, l1, l2, l3, l4]) (w := w) [a0] rfl hs : zi_static 1 [(18, 1)] 1 [l0, l1, l2, l3, l4] ([a0] ++ st) w = _)))
theorem zT_1_4 : zT 1 4 = some (.ifCond .eq 23, 3, 0, []) := by decide +kernel
theorem zr_1_4 {l0 l1 l2 l3 l4 : Option zV} {x : Int} {st : List zV} {w : zW} {Q : Option zV → zW → Prop}  : zR 1 4 [l0, l1, l2, l3, l4] (.inl x :: st) w Q = (if zN x = 0 then zR 1 27 [l0, l1, l2, l3, l4] st w Q else zR 1 7 [l0, l1, l2, l3, l4] st w Q) := zR_if (zstB zT_1_4 rfl) (by simp [zcmp])
theorem zT_1_7 : zT 1 7 = some (.aload_n 0, 1, 0, []) := by decide +kernel
theorem zr_1_7 {l1 l2 l3 l4 : Option zV} {x : Option Nat} {st : List zV} {w : zW} {Q : Option zV → zW → Prop}  : zR 1 7 [some (.inr x), l1, l2, l3, l4] st w Q = zR 1 8 [some (.inr x), l1, l2, l3, l4] (.inr x :: st) w Q := zR_go (zst zT_1_7 rfl)
theorem zT_1_8 : zT 1 8 = some (.getfield 17, 3, 0, [(0, 1)]) := by decide +kernel
theorem zr_1_8 {l0 l1 l2 l3 l4 : Option zV} {h : Nat} {st : List zV} {w : zW} {Q : Option zV → zW → Prop} (hk : zk w h = 0) : zR 1 8 [l0, l1, l2, l3, l4] (.inr (some h) :: st) w Q = zR 1 11 [l0, l1, l2, l3, l4] (.inr (zp w 1 h) :: st) w Q := zR_go (zst zT_1_8 (zget_r hk rfl))
theorem zT_1_11 : zT 1 11 = some (.iload_n 1, 1, 0, []) := by decide +kernel
theorem zr_1_11 {l0 l2 l3 l4 : Option zV} {x : Int} {st : List zV} {w : zW} {Q : Option zV → zW → Prop}  : zR 1 11 [l0, some (.inl x), l2, l3, l4] st w Q = zR 1 12 [l0, some (.inl x), l2, l3, l4] (.inl x :: st) w Q := zR_go (zst zT_1_11 rfl)
theorem zT_1_12 : zT 1 12 = some (.aaload, 1, 0, []) := by decide +kernel
theorem zr_1_12 {l0 l1 l2 l3 l4 : Option zV} {j : Int} {h : Nat} {st : List zV} {w : zW} {Q : Option zV → zW → Prop} (hk : zNC + 2 < zk w h ∧ zk w h < 1000 ∧ 0 ≤ zN j ∧ zN j < zl w h) : zR 1 12 [l0, l1, l2, l3, l4] (.inl j :: .inr (some h) :: st) w Q = zR 1 13 [l0, l1, l2, l3, l4] (.inr (zb w h (zN j).toNat) :: st) w Q := zR_go (zst zT_1_12 (if_pos hk))
theorem zT_1_13 : zT 1 13 = some (.getfield 61, 3, 0, [(1, 9), (4, 11), (8, 10)]) := by decide +kernel
theorem zr_1_13c1 {l0 l1 l2 l3 l4 : Option zV} {h : Nat} {st : List zV} {w : zW} {Q : Option zV → zW → Prop} (hk : zk w h = 1) : zR 1 13 [l0, l1, l2, l3, l4] (.inr (some h) :: st) w Q = zR 1 16 [l0, l1, l2, l3, l4] (.inl (zf w 15 h) :: st) w Q := zR_go (zst zT_1_13 (zget_i hk (Or.inl rfl)))
theorem zr_1_13c4 {l0 l1 l2 l3 l4 : Option zV} {h : Nat} {st : List zV} {w : zW} {Q : Option zV → zW → Prop} (hk : zk w h = 4) : zR 1 13 [l0, l1, l2, l3, l4] (.inr (some h) :: st) w Q = zR 1 16 [l0, l1, l2, l3, l4] (.inl (zf w 15 h) :: st) w Q := zR_go (zst zT_1_13 (zget_i hk (Or.inl rfl)))
theorem zr_1_13c8 {l0 l1 l2 l3 l4 : Option zV} {h : Nat} {st : List zV} {w : zW} {Q : Option zV → zW → Prop} (hk : zk w h = 8) : zR 1 13 [l0, l1, l2, l3, l4] (.inr (some h) :: st) w Q = zR 1 16 [l0, l1, l2, l3, l4] (.inl (zf w 15 h) :: st) w Q := zR_go (zst zT_1_13 (zget_i hk (Or.inl rfl)))
theorem zT_1_16 : zT 1 16 = some (.iconst (-1), 1, 0, []) := by decide +kernel
theorem zr_1_16 {l0 l1 l2 l3 l4 : Option zV} {st : List zV} {w : zW} {Q : Option zV → zW → Prop}  : zR 1 16 [l0, l1, l2, l3, l4] st w Q = zR 1 17 [l0, l1, l2, l3, l4] (.inl (-1) :: st) w Q := zR_go (zst zT_1_16 rfl)
theorem zT_1_17 : zT 1 17 = some (.if_icmp .ne 10, 3, 0, []) := by decide +kernel
theorem zr_1_17 {l0 l1 l2 l3 l4 : Option zV} {x y : Int} {st : List zV} {w : zW} {Q : Option zV → zW → Prop}  : zR 1 17 [l0, l1, l2, l3, l4] (.inl y :: .inl x :: st) w Q = (if zN x ≠ zN y then zR 1 27 [l0, l1, l2, l3, l4] st w Q else zR 1 20 [l0, l1, l2, l3, l4] st w Q) := zR_if (zstB zT_1_17 rfl) (by simp [zcmp])
theorem zT_1_20 : zT 1 20 = some (.iload_n 2, 1, 0, []) := by decide +kernel
theorem zr_1_20 {l0 l1 l3 l4 : Option zV} {x : Int} {st : List zV} {w : zW} {Q : Option zV → zW → Prop}  : zR 1 20 [l0, l1, some (.inl x), l3, l4] st w Q = zR 1 21 [l0, l1, some (.inl x), l3, l4] (.inl x :: st) w Q := zR_go (zst zT_1_20 rfl)
theorem zT_1_21 : zT 1 21 = some (.invokestatic 65, 3, 1, [(17, 1)]) := by decide +kernel
theorem zr_1_21 {l0 l1 l2 l3 l4 : Option zV} {a0 : zV} {st : List zV} {w : zW} {Q : Option zV → zW → Prop} (hs : st.length ≤ 8) : zR 1 21 [l0, l1, l2, l3, l4] (a0 :: st) w Q = zR 17 0 [some a0] [] w (fun r w2 => zR 1 24 [l0, l1, l2, l3, l4] (r.toList ++ st) w2 Q) := zR_call (zst zT_1_21 ((zcall_s (z := 1) (pc := 21) (j := 17) (ls := [l0, l1, l2, l3, l4]) (w := w) [a0] rfl hs : zi_static 1 [(17, 1)] 21 [l0, l1, l2, l3, l4] ([a0] ++ st) w = _)))
theorem zT_1_24 : zT 1 24 = some (.ifCond .ne 5, 3, 0, []) := by decide +kernel
theorem zr_1_24 {l0 l1 l2 l3 l4 : Option zV} {x : Int} {st : List zV} {w : zW} {Q : Option zV → zW → Prop}  : zR 1 24 [l0, l1, l2, l3, l4] (.inl x :: st) w Q = (if zN x ≠ 0 then zR 1 29 [l0, l1, l2, l3, l4] st w Q else zR 1 27 [l0, l1, l2, l3, l4] st w Q) := zR_if (zstB zT_1_24 rfl) (by simp [zcmp])
theorem zT_1_27 : zT 1 27 = some (.iconst 0, 1, 0, []) := by decide +kernel
theorem zr_1_27 {l0 l1 l2 l3 l4 : Option zV} {st : List zV} {w : zW} {Q : Option zV → zW → Prop}  : zR 1 27 [l0, l1, l2, l3, l4] st w Q = zR 1 28 [l0, l1, l2, l3, l4] (.inl 0 :: st) w Q := zR_go (zst zT_1_27 rfl)
theorem zT_1_28 : zT 1 28 = some (.ireturn, 1, 0, []) := by decide +kernel
theorem zr_1_28 {l0 l1 l2 l3 l4 : Option zV} {x : Int} {w : zW} {Q : Option zV → zW → Prop} (hx : zN x = 0 ∨ zN x = 1) : zR 1 28 [l0, l1, l2, l3, l4] [.inl x] w Q = Q (some (.inl x)) w := zR_ret (zst zT_1_28 (if_pos (Or.inr ⟨rfl, hx⟩)))
theorem zT_1_29 : zT 1 29 = some (.iload_n 3, 1, 0, []) := by decide +kernel
theorem zr_1_29 {l0 l1 l2 l4 : Option zV} {x : Int} {st : List zV} {w : zW} {Q : Option zV → zW → Prop}  : zR 1 29 [l0, l1, l2, some (.inl x), l4] st w Q = zR 1 30 [l0, l1, l2, some (.inl x), l4] (.inl x :: st) w Q := zR_go (zst zT_1_29 rfl)
theorem zT_1_30 : zT 1 30 = some (.ifCond .lt 9, 3, 0, []) := by decide +kernel
theorem zr_1_30 {l0 l1 l2 l3 l4 : Option zV} {x : Int} {st : List zV} {w : zW} {Q : Option zV → zW → Prop}  : zR 1 30 [l0, l1, l2, l3, l4] (.inl x :: st) w Q = (if zN x < 0 then zR 1 39 [l0, l1, l2, l3, l4] st w Q else zR 1 33 [l0, l1, l2, l3, l4] st w Q) := zR_if (zstB zT_1_30 rfl) (by simp [zcmp])
theorem zT_1_33 : zT 1 33 = some (.iload_n 3, 1, 0, []) := by decide +kernel
theorem zr_1_33 {l0 l1 l2 l4 : Option zV} {x : Int} {st : List zV} {w : zW} {Q : Option zV → zW → Prop}  : zR 1 33 [l0, l1, l2, some (.inl x), l4] st w Q = zR 1 34 [l0, l1, l2, some (.inl x), l4] (.inl x :: st) w Q := zR_go (zst zT_1_33 rfl)
theorem zT_1_34 : zT 1 34 = some (.ldc 68, 2, 65535, []) := by decide +kernel
theorem zr_1_34 {l0 l1 l2 l3 l4 : Option zV} {st : List zV} {w : zW} {Q : Option zV → zW → Prop}  : zR 1 34 [l0, l1, l2, l3, l4] st w Q = zR 1 36 [l0, l1, l2, l3, l4] (.inl 65535 :: st) w Q := zR_go (zst zT_1_34 rfl)
theorem zT_1_36 : zT 1 36 = some (.if_icmp .le 5, 3, 0, []) := by decide +kernel
theorem zr_1_36 {l0 l1 l2 l3 l4 : Option zV} {x y : Int} {st : List zV} {w : zW} {Q : Option zV → zW → Prop}  : zR 1 36 [l0, l1, l2, l3, l4] (.inl y :: .inl x :: st) w Q = (if zN x ≤ zN y then zR 1 41 [l0, l1, l2, l3, l4] st w Q else zR 1 39 [l0, l1, l2, l3, l4] st w Q) := zR_if (zstB zT_1_36 rfl) (by simp [zcmp])
theorem zT_1_39 : zT 1 39 = some (.iconst 0, 1, 0, []) := by decide +kernel
theorem zr_1_39 {l0 l1 l2 l3 l4 : Option zV} {st : List zV} {w : zW} {Q : Option zV → zW → Prop}  : zR 1 39 [l0, l1, l2, l3, l4] st w Q = zR 1 40 [l0, l1, l2, l3, l4] (.inl 0 :: st) w Q := zR_go (zst zT_1_39 rfl)
theorem zT_1_40 : zT 1 40 = some (.ireturn, 1, 0, []) := by decide +kernel
theorem zr_1_40 {l0 l1 l2 l3 l4 : Option zV} {x : Int} {w : zW} {Q : Option zV → zW → Prop} (hx : zN x = 0 ∨ zN x = 1) : zR 1 40 [l0, l1, l2, l3, l4] [.inl x] w Q = Q (some (.inl x)) w := zR_ret (zst zT_1_40 (if_pos (Or.inr ⟨rfl, hx⟩)))
theorem zT_1_41 : zT 1 41 = some (.aload_n 0, 1, 0, []) := by decide +kernel
theorem zr_1_41 {l1 l2 l3 l4 : Option zV} {x : Option Nat} {st : List zV} {w : zW} {Q : Option zV → zW → Prop}  : zR 1 41 [some (.inr x), l1, l2, l3, l4] st w Q = zR 1 42 [some (.inr x), l1, l2, l3, l4] (.inr x :: st) w Q := zR_go (zst zT_1_41 rfl)
theorem zT_1_42 : zT 1 42 = some (.getfield 23, 3, 0, [(0, 2)]) := by decide +kernel
theorem zr_1_42 {l0 l1 l2 l3 l4 : Option zV} {h : Nat} {st : List zV} {w : zW} {Q : Option zV → zW → Prop} (hk : zk w h = 0) : zR 1 42 [l0, l1, l2, l3, l4] (.inr (some h) :: st) w Q = zR 1 45 [l0, l1, l2, l3, l4] (.inr (zp w 2 h) :: st) w Q := zR_go (zst zT_1_42 (zget_r hk rfl))
theorem zT_1_45 : zT 1 45 = some (.iload_n 1, 1, 0, []) := by decide +kernel
theorem zr_1_45 {l0 l2 l3 l4 : Option zV} {x : Int} {st : List zV} {w : zW} {Q : Option zV → zW → Prop}  : zR 1 45 [l0, some (.inl x), l2, l3, l4] st w Q = zR 1 46 [l0, some (.inl x), l2, l3, l4] (.inl x :: st) w Q := zR_go (zst zT_1_45 rfl)
theorem zT_1_46 : zT 1 46 = some (.aaload, 1, 0, []) := by decide +kernel
theorem zr_1_46 {l0 l1 l2 l3 l4 : Option zV} {j : Int} {h : Nat} {st : List zV} {w : zW} {Q : Option zV → zW → Prop} (hk : zNC + 2 < zk w h ∧ zk w h < 1000 ∧ 0 ≤ zN j ∧ zN j < zl w h) : zR 1 46 [l0, l1, l2, l3, l4] (.inl j :: .inr (some h) :: st) w Q = zR 1 47 [l0, l1, l2, l3, l4] (.inr (zb w h (zN j).toNat) :: st) w Q := zR_go (zst zT_1_46 (if_pos hk))
theorem zT_1_47 : zT 1 47 = some (.astore 4, 2, 0, []) := by decide +kernel
theorem zr_1_47 {l0 l1 l2 l3 l4 : Option zV} {x : Option Nat} {st : List zV} {w : zW} {Q : Option zV → zW → Prop}  : zR 1 47 [l0, l1, l2, l3, l4] (.inr x :: st) w Q = zR 1 49 [l0, l1, l2, l3, some (.inr x)] st w Q := zR_go (zst zT_1_47 rfl)
theorem zT_1_49 : zT 1 49 = some (.aload 4, 2, 0, []) := by decide +kernel
theorem zr_1_49 {l0 l1 l2 l3 : Option zV} {x : Option Nat} {st : List zV} {w : zW} {Q : Option zV → zW → Prop}  : zR 1 49 [l0, l1, l2, l3, some (.inr x)] st w Q = zR 1 51 [l0, l1, l2, l3, some (.inr x)] (.inr x :: st) w Q := zR_go (zst zT_1_49 rfl)
theorem zT_1_51 : zT 1 51 = some (.iload_n 2, 1, 0, []) := by decide +kernel
theorem zr_1_51 {l0 l1 l3 l4 : Option zV} {x : Int} {st : List zV} {w : zW} {Q : Option zV → zW → Prop}  : zR 1 51 [l0, l1, some (.inl x), l3, l4] st w Q = zR 1 52 [l0, l1, some (.inl x), l3, l4] (.inl x :: st) w Q := zR_go (zst zT_1_51 rfl)
theorem zT_1_52 : zT 1 52 = some (.iload_n 3, 1, 0, []) := by decide +kernel
theorem zr_1_52 {l0 l1 l2 l4 : Option zV} {x : Int} {st : List zV} {w : zW} {Q : Option zV → zW → Prop}  : zR 1 52 [l0, l1, l2, some (.inl x), l4] st w Q = zR 1 53 [l0, l1, l2, some (.inl x), l4] (.inl x :: st) w Q := zR_go (zst zT_1_52 rfl)
theorem zT_1_53 : zT 1 53 = some (.invokevirtual 69, 3, 2, [(4, 147), (8, 147)]) := by decide +kernel
theorem zr_1_53c4 {l0 l1 l2 l3 l4 : Option zV} {a0 a1 : zV} {h : Nat} {st : List zV} {w : zW} {Q : Option zV → zW → Prop} (hs : st.length ≤ 8) (hk : zk w h = 4) : zR 1 53 [l0, l1, l2, l3, l4] (a1 :: a0 :: .inr (some h) :: st) w Q = zR 147 0 [some (.inr (some h)), some a0, some a1] [] w (fun r w2 => zR 1 56 [l0, l1, l2, l3, l4] (r.toList ++ st) w2 Q) := zR_call (zst zT_1_53 (zcall_v [a1, a0] rfl hs hk rfl))
theorem zr_1_53c8 {l0 l1 l2 l3 l4 : Option zV} {a0 a1 : zV} {h : Nat} {st : List zV} {w : zW} {Q : Option zV → zW → Prop} (hs : st.length ≤ 8) (hk : zk w h = 8) : zR 1 53 [l0, l1, l2, l3, l4] (a1 :: a0 :: .inr (some h) :: st) w Q = zR 147 0 [some (.inr (some h)), some a0, some a1] [] w (fun r w2 => zR 1 56 [l0, l1, l2, l3, l4] (r.toList ++ st) w2 Q) := zR_call (zst zT_1_53 (zcall_v [a1, a0] rfl hs hk rfl))
theorem zT_1_56 : zT 1 56 = some (.aload_n 0, 1, 0, []) := by decide +kernel
theorem zr_1_56 {l1 l2 l3 l4 : Option zV} {x : Option Nat} {st : List zV} {w : zW} {Q : Option zV → zW → Prop}  : zR 1 56 [some (.inr x), l1, l2, l3, l4] st w Q = zR 1 57 [some (.inr x), l1, l2, l3, l4] (.inr x :: st) w Q := zR_go (zst zT_1_56 rfl)
theorem zT_1_57 : zT 1 57 = some (.getfield 11, 3, 0, [(0, 0)]) := by decide +kernel
theorem zr_1_57 {l0 l1 l2 l3 l4 : Option zV} {h : Nat} {st : List zV} {w : zW} {Q : Option zV → zW → Prop} (hk : zk w h = 0) : zR 1 57 [l0, l1, l2, l3, l4] (.inr (some h) :: st) w Q = zR 1 60 [l0, l1, l2, l3, l4] (.inr (zp w 0 h) :: st) w Q := zR_go (zst zT_1_57 (zget_r hk rfl))
theorem zT_1_60 : zT 1 60 = some (.iload_n 2, 1, 0, []) := by decide +kernel
theorem zr_1_60 {l0 l1 l3 l4 : Option zV} {x : Int} {st : List zV} {w : zW} {Q : Option zV → zW → Prop}  : zR 1 60 [l0, l1, some (.inl x), l3, l4] st w Q = zR 1 61 [l0, l1, some (.inl x), l3, l4] (.inl x :: st) w Q := zR_go (zst zT_1_60 rfl)
theorem zT_1_61 : zT 1 61 = some (.aaload, 1, 0, []) := by decide +kernel
theorem zr_1_61 {l0 l1 l2 l3 l4 : Option zV} {j : Int} {h : Nat} {st : List zV} {w : zW} {Q : Option zV → zW → Prop} (hk : zNC + 2 < zk w h ∧ zk w h < 1000 ∧ 0 ≤ zN j ∧ zN j < zl w h) : zR 1 61 [l0, l1, l2, l3, l4] (.inl j :: .inr (some h) :: st) w Q = zR 1 62 [l0, l1, l2, l3, l4] (.inr (zb w h (zN j).toNat) :: st) w Q := zR_go (zst zT_1_61 (if_pos hk))
theorem zT_1_62 : zT 1 62 = some (.getfield 45, 3, 0, [(5, 1)]) := by decide +kernel
theorem zr_1_62 {l0 l1 l2 l3 l4 : Option zV} {h : Nat} {st : List zV} {w : zW} {Q : Option zV → zW → Prop} (hk : zk w h = 5) : zR 1 62 [l0, l1, l2, l3, l4] (.inr (some h) :: st) w Q = zR 1 65 [l0, l1, l2, l3, l4] (.inr (zp w 42 h) :: st) w Q := zR_go (zst zT_1_62 (zget_r hk rfl))
theorem zT_1_65 : zT 1 65 = some (.iload_n 1, 1, 0, []) := by decide +kernel
theorem zr_1_65 {l0 l2 l3 l4 : Option zV} {x : Int} {st : List zV} {w : zW} {Q : Option zV → zW → Prop}  : zR 1 65 [l0, some (.inl x), l2, l3, l4] st w Q = zR 1 66 [l0, some (.inl x), l2, l3, l4] (.inl x :: st) w Q := zR_go (zst zT_1_65 rfl)
theorem zT_1_66 : zT 1 66 = some (.aload 4, 2, 0, []) := by decide +kernel
theorem zr_1_66 {l0 l1 l2 l3 : Option zV} {x : Option Nat} {st : List zV} {w : zW} {Q : Option zV → zW → Prop}  : zR 1 66 [l0, l1, l2, l3, some (.inr x)] st w Q = zR 1 68 [l0, l1, l2, l3, some (.inr x)] (.inr x :: st) w Q := zR_go (zst zT_1_66 rfl)
theorem zT_1_68 : zT 1 68 = some (.getfield 73, 3, 0, [(4, 10), (8, 9)]) := by decide +kernel
theorem zr_1_68c4 {l0 l1 l2 l3 l4 : Option zV} {h : Nat} {st : List zV} {w : zW} {Q : Option zV → zW → Prop} (hk : zk w h = 4) : zR 1 68 [l0, l1, l2, l3, l4] (.inr (some h) :: st) w Q = zR 1 71 [l0, l1, l2, l3, l4] (.inr (zp w 14 h) :: st) w Q := zR_go (zst zT_1_68 (zget_r hk rfl))
theorem zr_1_68c8 {l0 l1 l2 l3 l4 : Option zV} {h : Nat} {st : List zV} {w : zW} {Q : Option zV → zW → Prop} (hk : zk w h = 8) : zR 1 68 [l0, l1, l2, l3, l4] (.inr (some h) :: st) w Q = zR 1 71 [l0, l1, l2, l3, l4] (.inr (zp w 14 h) :: st) w Q := zR_go (zst zT_1_68 (zget_r hk rfl))
theorem zT_1_71 : zT 1 71 = some (.aastore, 1, 0, []) := by decide +kernel
theorem zr_1_71n {l0 l1 l2 l3 l4 : Option zV} {j : Int} {h : Nat} {st : List zV} {w : zW} {Q : Option zV → zW → Prop} (hk : zNC + 2 < zk w h ∧ zk w h < 1000 ∧ 0 ≤ zN j ∧ zN j < zl w h) : zR 1 71 [l0, l1, l2, l3, l4] (.inr none :: .inl j :: .inr (some h) :: st) w Q = zR 1 72 [l0, l1, l2, l3, l4] st (zsb w h (zN j).toNat none) Q := zR_go (zst zT_1_71 (if_pos hk))
theorem zr_1_71s {l0 l1 l2 l3 l4 : Option zV} {j : Int} {h v : Nat} {st : List zV} {w : zW} {Q : Option zV → zW → Prop} (hk : zNC + 2 < zk w h ∧ zk w h < 1000 ∧ 0 ≤ zN j ∧ zN j < zl w h ∧ zAS (zk w h) (zk w v) = true) : zR 1 71 [l0, l1, l2, l3, l4] (.inr (some v) :: .inl j :: .inr (some h) :: st) w Q = zR 1 72 [l0, l1, l2, l3, l4] st (zsb w h (zN j).toNat (some v)) Q := zR_go (zst zT_1_71 (if_pos hk))
theorem zT_1_72 : zT 1 72 = some (.iconst 1, 1, 0, []) := by decide +kernel
theorem zr_1_72 {l0 l1 l2 l3 l4 : Option zV} {st : List zV} {w : zW} {Q : Option zV → zW → Prop}  : zR 1 72 [l0, l1, l2, l3, l4] st w Q = zR 1 73 [l0, l1, l2, l3, l4] (.inl 1 :: st) w Q := zR_go (zst zT_1_72 rfl)
theorem zT_1_73 : zT 1 73 = some (.ireturn, 1, 0, []) := by decide +kernel
theorem zr_1_73 {l0 l1 l2 l3 l4 : Option zV} {x : Int} {w : zW} {Q : Option zV → zW → Prop} (hx : zN x = 0 ∨ zN x = 1) : zR 1 73 [l0, l1, l2, l3, l4] [.inl x] w Q = Q (some (.inl x)) w := zR_ret (zst zT_1_73 (if_pos (Or.inr ⟨rfl, hx⟩)))
theorem zT_2_0 : zT 2 0 = some (.iload_n 1, 1, 0, []) := by decide +kernel
theorem zr_2_0 {l0 : Option zV} {x : Int} {st : List zV} {w : zW} {Q : Option zV → zW → Prop}  : zR 2 0 [l0, some (.inl x)] st w Q = zR 2 1 [l0, some (.inl x)] (.inl x :: st) w Q := zR_go (zst zT_2_0 rfl)
theorem zT_2_1 : zT 2 1 = some (.invokestatic 57, 3, 1, [(18, 1)]) := by decide +kernel
theorem zr_2_1 {l0 l1 : Option zV} {a0 : zV} {st : List zV} {w : zW} {Q : Option zV → zW → Prop} (hs : st.length ≤ 8) : zR 2 1 [l0, l1] (a0 :: st) w Q = zR 18 0 [some a0] [] w (fun r w2 => zR 2 4 [l0, l1] (r.toList ++ st) w2 Q) := zR_call (zst zT_2_1 ((zcall_s (z := 1) (pc := 1) (j := 18) (ls := [l0, l1]) (w := w) [a0] rfl hs : zi_static 1 [(18, 1)] 1 [l0, l1] ([a0] ++ st) w = _)))
theorem zT_2_4 : zT 2 4 = some (.ifCond .eq 16, 3, 0, []) := by decide +kernel
theorem zr_2_4 {l0 l1 : Option zV} {x : Int} {st : List zV} {w : zW} {Q : Option zV → zW → Prop}  : zR 2 4 [l0, l1] (.inl x :: st) w Q = (if zN x = 0 then zR 2 20 [l0, l1] st w Q else zR 2 7 [l0, l1] st w Q) := zR_if (zstB zT_2_4 rfl) (by simp [zcmp])
theorem zT_2_7 : zT 2 7 = some (.aload_n 0, 1, 0, []) := by decide +kernel
theorem zr_2_7 {l1 : Option zV} {x : Option Nat} {st : List zV} {w : zW} {Q : Option zV → zW → Prop}  : zR 2 7 [some (.inr x), l1] st w Q = zR 2 8 [some (.inr x), l1] (.inr x :: st) w Q := zR_go (zst zT_2_7 rfl)
theorem zT_2_8 : zT 2 8 = some (.getfield 17, 3, 0, [(0, 1)]) := by decide +kernel
theorem zr_2_8 {l0 l1 : Option zV} {h : Nat} {st : List zV} {w : zW} {Q : Option zV → zW → Prop} (hk : zk w h = 0) : zR 2 8 [l0, l1] (.inr (some h) :: st) w Q = zR 2 11 [l0, l1] (.inr (zp w 1 h) :: st) w Q := zR_go (zst zT_2_8 (zget_r hk rfl))
theorem zT_2_11 : zT 2 11 = some (.iload_n 1, 1, 0, []) := by decide +kernel
theorem zr_2_11 {l0 : Option zV} {x : Int} {st : List zV} {w : zW} {Q : Option zV → zW → Prop}  : zR 2 11 [l0, some (.inl x)] st w Q = zR 2 12 [l0, some (.inl x)] (.inl x :: st) w Q := zR_go (zst zT_2_11 rfl)
theorem zT_2_12 : zT 2 12 = some (.aaload, 1, 0, []) := by decide +kernel
theorem zr_2_12 {l0 l1 : Option zV} {j : Int} {h : Nat} {st : List zV} {w : zW} {Q : Option zV → zW → Prop} (hk : zNC + 2 < zk w h ∧ zk w h < 1000 ∧ 0 ≤ zN j ∧ zN j < zl w h) : zR 2 12 [l0, l1] (.inl j :: .inr (some h) :: st) w Q = zR 2 13 [l0, l1] (.inr (zb w h (zN j).toNat) :: st) w Q := zR_go (zst zT_2_12 (if_pos hk))
theorem zT_2_13 : zT 2 13 = some (.getfield 61, 3, 0, [(1, 9), (4, 11), (8, 10)]) := by decide +kernel
theorem zr_2_13c1 {l0 l1 : Option zV} {h : Nat} {st : List zV} {w : zW} {Q : Option zV → zW → Prop} (hk : zk w h = 1) : zR 2 13 [l0, l1] (.inr (some h) :: st) w Q = zR 2 16 [l0, l1] (.inl (zf w 15 h) :: st) w Q := zR_go (zst zT_2_13 (zget_i hk (Or.inl rfl)))
theorem zr_2_13c4 {l0 l1 : Option zV} {h : Nat} {st : List zV} {w : zW} {Q : Option zV → zW → Prop} (hk : zk w h = 4) : zR 2 13 [l0, l1] (.inr (some h) :: st) w Q = zR 2 16 [l0, l1] (.inl (zf w 15 h) :: st) w Q := zR_go (zst zT_2_13 (zget_i hk (Or.inl rfl)))
theorem zr_2_13c8 {l0 l1 : Option zV} {h : Nat} {st : List zV} {w : zW} {Q : Option zV → zW → Prop} (hk : zk w h = 8) : zR 2 13 [l0, l1] (.inr (some h) :: st) w Q = zR 2 16 [l0, l1] (.inl (zf w 15 h) :: st) w Q := zR_go (zst zT_2_13 (zget_i hk (Or.inl rfl)))
theorem zT_2_16 : zT 2 16 = some (.iconst (-1), 1, 0, []) := by decide +kernel
theorem zr_2_16 {l0 l1 : Option zV} {st : List zV} {w : zW} {Q : Option zV → zW → Prop}  : zR 2 16 [l0, l1] st w Q = zR 2 17 [l0, l1] (.inl (-1) :: st) w Q := zR_go (zst zT_2_16 rfl)
theorem zT_2_17 : zT 2 17 = some (.if_icmp .ne 5, 3, 0, []) := by decide +kernel
theorem zr_2_17 {l0 l1 : Option zV} {x y : Int} {st : List zV} {w : zW} {Q : Option zV → zW → Prop}  : zR 2 17 [l0, l1] (.inl y :: .inl x :: st) w Q = (if zN x ≠ zN y then zR 2 22 [l0, l1] st w Q else zR 2 20 [l0, l1] st w Q) := zR_if (zstB zT_2_17 rfl) (by simp [zcmp])
theorem zT_2_20 : zT 2 20 = some (.iconst 0, 1, 0, []) := by decide +kernel
theorem zr_2_20 {l0 l1 : Option zV} {st : List zV} {w : zW} {Q : Option zV → zW → Prop}  : zR 2 20 [l0, l1] st w Q = zR 2 21 [l0, l1] (.inl 0 :: st) w Q := zR_go (zst zT_2_20 rfl)
theorem zT_2_21 : zT 2 21 = some (.ireturn, 1, 0, []) := by decide +kernel
theorem zr_2_21 {l0 l1 : Option zV} {x : Int} {w : zW} {Q : Option zV → zW → Prop} (hx : zN x = 0 ∨ zN x = 1) : zR 2 21 [l0, l1] [.inl x] w Q = Q (some (.inl x)) w := zR_ret (zst zT_2_21 (if_pos (Or.inr ⟨rfl, hx⟩)))
theorem zT_2_22 : zT 2 22 = some (.aload_n 0, 1, 0, []) := by decide +kernel
theorem zr_2_22 {l1 : Option zV} {x : Option Nat} {st : List zV} {w : zW} {Q : Option zV → zW → Prop}  : zR 2 22 [some (.inr x), l1] st w Q = zR 2 23 [some (.inr x), l1] (.inr x :: st) w Q := zR_go (zst zT_2_22 rfl)
theorem zT_2_23 : zT 2 23 = some (.getfield 11, 3, 0, [(0, 0)]) := by decide +kernel
theorem zr_2_23 {l0 l1 : Option zV} {h : Nat} {st : List zV} {w : zW} {Q : Option zV → zW → Prop} (hk : zk w h = 0) : zR 2 23 [l0, l1] (.inr (some h) :: st) w Q = zR 2 26 [l0, l1] (.inr (zp w 0 h) :: st) w Q := zR_go (zst zT_2_23 (zget_r hk rfl))
theorem zT_2_26 : zT 2 26 = some (.aload_n 0, 1, 0, []) := by decide +kernel
theorem zr_2_26 {l1 : Option zV} {x : Option Nat} {st : List zV} {w : zW} {Q : Option zV → zW → Prop}  : zR 2 26 [some (.inr x), l1] st w Q = zR 2 27 [some (.inr x), l1] (.inr x :: st) w Q := zR_go (zst zT_2_26 rfl)
theorem zT_2_27 : zT 2 27 = some (.getfield 17, 3, 0, [(0, 1)]) := by decide +kernel
theorem zr_2_27 {l0 l1 : Option zV} {h : Nat} {st : List zV} {w : zW} {Q : Option zV → zW → Prop} (hk : zk w h = 0) : zR 2 27 [l0, l1] (.inr (some h) :: st) w Q = zR 2 30 [l0, l1] (.inr (zp w 1 h) :: st) w Q := zR_go (zst zT_2_27 (zget_r hk rfl))
theorem zT_2_30 : zT 2 30 = some (.iload_n 1, 1, 0, []) := by decide +kernel
theorem zr_2_30 {l0 : Option zV} {x : Int} {st : List zV} {w : zW} {Q : Option zV → zW → Prop}  : zR 2 30 [l0, some (.inl x)] st w Q = zR 2 31 [l0, some (.inl x)] (.inl x :: st) w Q := zR_go (zst zT_2_30 rfl)
theorem zT_2_31 : zT 2 31 = some (.aaload, 1, 0, []) := by decide +kernel
theorem zr_2_31 {l0 l1 : Option zV} {j : Int} {h : Nat} {st : List zV} {w : zW} {Q : Option zV → zW → Prop} (hk : zNC + 2 < zk w h ∧ zk w h < 1000 ∧ 0 ≤ zN j ∧ zN j < zl w h) : zR 2 31 [l0, l1] (.inl j :: .inr (some h) :: st) w Q = zR 2 32 [l0, l1] (.inr (zb w h (zN j).toNat) :: st) w Q := zR_go (zst zT_2_31 (if_pos hk))
theorem zT_2_32 : zT 2 32 = some (.getfield 61, 3, 0, [(1, 9), (4, 11), (8, 10)]) := by decide +kernel
theorem zr_2_32c1 {l0 l1 : Option zV} {h : Nat} {st : List zV} {w : zW} {Q : Option zV → zW → Prop} (hk : zk w h = 1) : zR 2 32 [l0, l1] (.inr (some h) :: st) w Q = zR 2 35 [l0, l1] (.inl (zf w 15 h) :: st) w Q := zR_go (zst zT_2_32 (zget_i hk (Or.inl rfl)))
theorem zr_2_32c4 {l0 l1 : Option zV} {h : Nat} {st : List zV} {w : zW} {Q : Option zV → zW → Prop} (hk : zk w h = 4) : zR 2 32 [l0, l1] (.inr (some h) :: st) w Q = zR 2 35 [l0, l1] (.inl (zf w 15 h) :: st) w Q := zR_go (zst zT_2_32 (zget_i hk (Or.inl rfl)))
theorem zr_2_32c8 {l0 l1 : Option zV} {h : Nat} {st : List zV} {w : zW} {Q : Option zV → zW → Prop} (hk : zk w h = 8) : zR 2 32 [l0, l1] (.inr (some h) :: st) w Q = zR 2 35 [l0, l1] (.inl (zf w 15 h) :: st) w Q := zR_go (zst zT_2_32 (zget_i hk (Or.inl rfl)))
theorem zT_2_35 : zT 2 35 = some (.aaload, 1, 0, []) := by decide +kernel
theorem zr_2_35 {l0 l1 : Option zV} {j : Int} {h : Nat} {st : List zV} {w : zW} {Q : Option zV → zW → Prop} (hk : zNC + 2 < zk w h ∧ zk w h < 1000 ∧ 0 ≤ zN j ∧ zN j < zl w h) : zR 2 35 [l0, l1] (.inl j :: .inr (some h) :: st) w Q = zR 2 36 [l0, l1] (.inr (zb w h (zN j).toNat) :: st) w Q := zR_go (zst zT_2_35 (if_pos hk))
theorem zT_2_36 : zT 2 36 = some (.getfield 45, 3, 0, [(5, 1)]) := by decide +kernel
theorem zr_2_36 {l0 l1 : Option zV} {h : Nat} {st : List zV} {w : zW} {Q : Option zV → zW → Prop} (hk : zk w h = 5) : zR 2 36 [l0, l1] (.inr (some h) :: st) w Q = zR 2 39 [l0, l1] (.inr (zp w 42 h) :: st) w Q := zR_go (zst zT_2_36 (zget_r hk rfl))
theorem zT_2_39 : zT 2 39 = some (.iload_n 1, 1, 0, []) := by decide +kernel
theorem zr_2_39 {l0 : Option zV} {x : Int} {st : List zV} {w : zW} {Q : Option zV → zW → Prop}  : zR 2 39 [l0, some (.inl x)] st w Q = zR 2 40 [l0, some (.inl x)] (.inl x :: st) w Q := zR_go (zst zT_2_39 rfl)
theorem zT_2_40 : zT 2 40 = some (.aconst_null, 1, 0, []) := by decide +kernel
theorem zr_2_40 {l0 l1 : Option zV} {st : List zV} {w : zW} {Q : Option zV → zW → Prop}  : zR 2 40 [l0, l1] st w Q = zR 2 41 [l0, l1] (.inr none :: st) w Q := zR_go (zst zT_2_40 rfl)
theorem zT_2_41 : zT 2 41 = some (.aastore, 1, 0, []) := by decide +kernel
theorem zr_2_41n {l0 l1 : Option zV} {j : Int} {h : Nat} {st : List zV} {w : zW} {Q : Option zV → zW → Prop} (hk : zNC + 2 < zk w h ∧ zk w h < 1000 ∧ 0 ≤ zN j ∧ zN j < zl w h) : zR 2 41 [l0, l1] (.inr none :: .inl j :: .inr (some h) :: st) w Q = zR 2 42 [l0, l1] st (zsb w h (zN j).toNat none) Q := zR_go (zst zT_2_41 (if_pos hk))
theorem zr_2_41s {l0 l1 : Option zV} {j : Int} {h v : Nat} {st : List zV} {w : zW} {Q : Option zV → zW → Prop} (hk : zNC + 2 < zk w h ∧ zk w h < 1000 ∧ 0 ≤ zN j ∧ zN j < zl w h ∧ zAS (zk w h) (zk w v) = true) : zR 2 41 [l0, l1] (.inr (some v) :: .inl j :: .inr (some h) :: st) w Q = zR 2 42 [l0, l1] st (zsb w h (zN j).toNat (some v)) Q := zR_go (zst zT_2_41 (if_pos hk))
theorem zT_2_42 : zT 2 42 = some (.aload_n 0, 1, 0, []) := by decide +kernel
theorem zr_2_42 {l1 : Option zV} {x : Option Nat} {st : List zV} {w : zW} {Q : Option zV → zW → Prop}  : zR 2 42 [some (.inr x), l1] st w Q = zR 2 43 [some (.inr x), l1] (.inr x :: st) w Q := zR_go (zst zT_2_42 rfl)
theorem zT_2_43 : zT 2 43 = some (.getfield 17, 3, 0, [(0, 1)]) := by decide +kernel
theorem zr_2_43 {l0 l1 : Option zV} {h : Nat} {st : List zV} {w : zW} {Q : Option zV → zW → Prop} (hk : zk w h = 0) : zR 2 43 [l0, l1] (.inr (some h) :: st) w Q = zR 2 46 [l0, l1] (.inr (zp w 1 h) :: st) w Q := zR_go (zst zT_2_43 (zget_r hk rfl))
theorem zT_2_46 : zT 2 46 = some (.iload_n 1, 1, 0, []) := by decide +kernel
theorem zr_2_46 {l0 : Option zV} {x : Int} {st : List zV} {w : zW} {Q : Option zV → zW → Prop}  : zR 2 46 [l0, some (.inl x)] st w Q = zR 2 47 [l0, some (.inl x)] (.inl x :: st) w Q := zR_go (zst zT_2_46 rfl)
theorem zT_2_47 : zT 2 47 = some (.aaload, 1, 0, []) := by decide +kernel
theorem zr_2_47 {l0 l1 : Option zV} {j : Int} {h : Nat} {st : List zV} {w : zW} {Q : Option zV → zW → Prop} (hk : zNC + 2 < zk w h ∧ zk w h < 1000 ∧ 0 ≤ zN j ∧ zN j < zl w h) : zR 2 47 [l0, l1] (.inl j :: .inr (some h) :: st) w Q = zR 2 48 [l0, l1] (.inr (zb w h (zN j).toNat) :: st) w Q := zR_go (zst zT_2_47 (if_pos hk))
theorem zT_2_48 : zT 2 48 = some (.iconst (-1), 1, 0, []) := by decide +kernel
theorem zr_2_48 {l0 l1 : Option zV} {st : List zV} {w : zW} {Q : Option zV → zW → Prop}  : zR 2 48 [l0, l1] st w Q = zR 2 49 [l0, l1] (.inl (-1) :: st) w Q := zR_go (zst zT_2_48 rfl)
theorem zT_2_49 : zT 2 49 = some (.putfield 61, 3, 0, [(1, 9), (4, 11), (8, 10)]) := by decide +kernel
theorem zr_2_49c1 {l0 l1 : Option zV} {h : Nat} {x : Int} {st : List zV} {w : zW} {Q : Option zV → zW → Prop} (hk : zk w h = 1) : zR 2 49 [l0, l1] (.inl x :: .inr (some h) :: st) w Q = zR 2 52 [l0, l1] st (zsf w 15 h x) Q := zR_go (zst zT_2_49 (zput_i hk rfl))
theorem zr_2_49c4 {l0 l1 : Option zV} {h : Nat} {x : Int} {st : List zV} {w : zW} {Q : Option zV → zW → Prop} (hk : zk w h = 4) : zR 2 49 [l0, l1] (.inl x :: .inr (some h) :: st) w Q = zR 2 52 [l0, l1] st (zsf w 15 h x) Q := zR_go (zst zT_2_49 (zput_i hk rfl))
theorem zr_2_49c8 {l0 l1 : Option zV} {h : Nat} {x : Int} {st : List zV} {w : zW} {Q : Option zV → zW → Prop} (hk : zk w h = 8) : zR 2 49 [l0, l1] (.inl x :: .inr (some h) :: st) w Q = zR 2 52 [l0, l1] st (zsf w 15 h x) Q := zR_go (zst zT_2_49 (zput_i hk rfl))
theorem zT_2_52 : zT 2 52 = some (.iconst 1, 1, 0, []) := by decide +kernel
theorem zr_2_52 {l0 l1 : Option zV} {st : List zV} {w : zW} {Q : Option zV → zW → Prop}  : zR 2 52 [l0, l1] st w Q = zR 2 53 [l0, l1] (.inl 1 :: st) w Q := zR_go (zst zT_2_52 rfl)
theorem zT_2_53 : zT 2 53 = some (.ireturn, 1, 0, []) := by decide +kernel
theorem zr_2_53 {l0 l1 : Option zV} {x : Int} {w : zW} {Q : Option zV → zW → Prop} (hx : zN x = 0 ∨ zN x = 1) : zR 2 53 [l0, l1] [.inl x] w Q = Q (some (.inl x)) w := zR_ret (zst zT_2_53 (if_pos (Or.inr ⟨rfl, hx⟩)))
theorem zT_3_0 : zT 3 0 = some (.iload_n 1, 1, 0, []) := by decide +kernel
theorem zr_3_0 {l0 : Option zV} {x : Int} {st : List zV} {w : zW} {Q : Option zV → zW → Prop}  : zR 3 0 [l0, some (.inl x)] st w Q = zR 3 1 [l0, some (.inl x)] (.inl x :: st) w Q := zR_go (zst zT_3_0 rfl)
theorem zT_3_1 : zT 3 1 = some (.invokestatic 65, 3, 1, [(17, 1)]) := by decide +kernel
theorem zr_3_1 {l0 l1 : Option zV} {a0 : zV} {st : List zV} {w : zW} {Q : Option zV → zW → Prop} (hs : st.length ≤ 8) : zR 3 1 [l0, l1] (a0 :: st) w Q = zR 17 0 [some a0] [] w (fun r w2 => zR 3 4 [l0, l1] (r.toList ++ st) w2 Q) := zR_call (zst zT_3_1 ((zcall_s (z := 1) (pc := 1) (j := 17) (ls := [l0, l1]) (w := w) [a0] rfl hs : zi_static 1 [(17, 1)] 1 [l0, l1] ([a0] ++ st) w = _)))
theorem zT_3_4 : zT 3 4 = some (.ifCond .eq 18, 3, 0, []) := by decide +kernel
theorem zr_3_4 {l0 l1 : Option zV} {x : Int} {st : List zV} {w : zW} {Q : Option zV → zW → Prop}  : zR 3 4 [l0, l1] (.inl x :: st) w Q = (if zN x = 0 then zR 3 22 [l0, l1] st w Q else zR 3 7 [l0, l1] st w Q) := zR_if (zstB zT_3_4 rfl) (by simp [zcmp])
theorem zT_3_7 : zT 3 7 = some (.aload_n 0, 1, 0, []) := by decide +kernel
theorem zr_3_7 {l1 : Option zV} {x : Option Nat} {st : List zV} {w : zW} {Q : Option zV → zW → Prop}  : zR 3 7 [some (.inr x), l1] st w Q = zR 3 8 [some (.inr x), l1] (.inr x :: st) w Q := zR_go (zst zT_3_7 rfl)
theorem zT_3_8 : zT 3 8 = some (.getfield 11, 3, 0, [(0, 0)]) := by decide +kernel
theorem zr_3_8 {l0 l1 : Option zV} {h : Nat} {st : List zV} {w : zW} {Q : Option zV → zW → Prop} (hk : zk w h = 0) : zR 3 8 [l0, l1] (.inr (some h) :: st) w Q = zR 3 11 [l0, l1] (.inr (zp w 0 h) :: st) w Q := zR_go (zst zT_3_8 (zget_r hk rfl))
theorem zT_3_11 : zT 3 11 = some (.iload_n 1, 1, 0, []) := by decide +kernel
theorem zr_3_11 {l0 : Option zV} {x : Int} {st : List zV} {w : zW} {Q : Option zV → zW → Prop}  : zR 3 11 [l0, some (.inl x)] st w Q = zR 3 12 [l0, some (.inl x)] (.inl x :: st) w Q := zR_go (zst zT_3_11 rfl)
theorem zT_3_12 : zT 3 12 = some (.aaload, 1, 0, []) := by decide +kernel
theorem zr_3_12 {l0 l1 : Option zV} {j : Int} {h : Nat} {st : List zV} {w : zW} {Q : Option zV → zW → Prop} (hk : zNC + 2 < zk w h ∧ zk w h < 1000 ∧ 0 ≤ zN j ∧ zN j < zl w h) : zR 3 12 [l0, l1] (.inl j :: .inr (some h) :: st) w Q = zR 3 13 [l0, l1] (.inr (zb w h (zN j).toNat) :: st) w Q := zR_go (zst zT_3_12 (if_pos hk))
theorem zT_3_13 : zT 3 13 = some (.getfield 74, 3, 0, [(5, 2)]) := by decide +kernel
theorem zr_3_13 {l0 l1 : Option zV} {h : Nat} {st : List zV} {w : zW} {Q : Option zV → zW → Prop} (hk : zk w h = 5) : zR 3 13 [l0, l1] (.inr (some h) :: st) w Q = zR 3 16 [l0, l1] (.inr (zp w 43 h) :: st) w Q := zR_go (zst zT_3_13 (zget_r hk rfl))
theorem zT_3_16 : zT 3 16 = some (.invokevirtual 78, 3, 0, [(6, 88)]) := by decide +kernel
theorem zr_3_16 {l0 l1 : Option zV} {h : Nat} {st : List zV} {w : zW} {Q : Option zV → zW → Prop} (hs : st.length ≤ 8) (hk : zk w h = 6) : zR 3 16 [l0, l1] (.inr (some h) :: st) w Q = zR 88 0 [some (.inr (some h))] [] w (fun r w2 => zR 3 19 [l0, l1] (r.toList ++ st) w2 Q) := zR_call (zst zT_3_16 (zcall_v [] rfl hs hk rfl))
theorem zT_3_19 : zT 3 19 = some (.ifCond .eq 5, 3, 0, []) := by decide +kernel
theorem zr_3_19 {l0 l1 : Option zV} {x : Int} {st : List zV} {w : zW} {Q : Option zV → zW → Prop}  : zR 3 19 [l0, l1] (.inl x :: st) w Q = (if zN x = 0 then zR 3 24 [l0, l1] st w Q else zR 3 22 [l0, l1] st w Q) := zR_if (zstB zT_3_19 rfl) (by simp [zcmp])
theorem zT_3_22 : zT 3 22 = some (.iconst 0, 1, 0, []) := by decide +kernel
theorem zr_3_22 {l0 l1 : Option zV} {st : List zV} {w : zW} {Q : Option zV → zW → Prop}  : zR 3 22 [l0, l1] st w Q = zR 3 23 [l0, l1] (.inl 0 :: st) w Q := zR_go (zst zT_3_22 rfl)
theorem zT_3_23 : zT 3 23 = some (.ireturn, 1, 0, []) := by decide +kernel
theorem zr_3_23 {l0 l1 : Option zV} {x : Int} {w : zW} {Q : Option zV → zW → Prop} (hx : zN x = 0 ∨ zN x = 1) : zR 3 23 [l0, l1] [.inl x] w Q = Q (some (.inl x)) w := zR_ret (zst zT_3_23 (if_pos (Or.inr ⟨rfl, hx⟩)))
theorem zT_3_24 : zT 3 24 = some (.aload_n 0, 1, 0, []) := by decide +kernel
theorem zr_3_24 {l1 : Option zV} {x : Option Nat} {st : List zV} {w : zW} {Q : Option zV → zW → Prop}  : zR 3 24 [some (.inr x), l1] st w Q = zR 3 25 [some (.inr x), l1] (.inr x :: st) w Q := zR_go (zst zT_3_24 rfl)
theorem zT_3_25 : zT 3 25 = some (.getfield 11, 3, 0, [(0, 0)]) := by decide +kernel
theorem zr_3_25 {l0 l1 : Option zV} {h : Nat} {st : List zV} {w : zW} {Q : Option zV → zW → Prop} (hk : zk w h = 0) : zR 3 25 [l0, l1] (.inr (some h) :: st) w Q = zR 3 28 [l0, l1] (.inr (zp w 0 h) :: st) w Q := zR_go (zst zT_3_25 (zget_r hk rfl))
theorem zT_3_28 : zT 3 28 = some (.iload_n 1, 1, 0, []) := by decide +kernel
theorem zr_3_28 {l0 : Option zV} {x : Int} {st : List zV} {w : zW} {Q : Option zV → zW → Prop}  : zR 3 28 [l0, some (.inl x)] st w Q = zR 3 29 [l0, some (.inl x)] (.inl x :: st) w Q := zR_go (zst zT_3_28 rfl)
theorem zT_3_29 : zT 3 29 = some (.aaload, 1, 0, []) := by decide +kernel
theorem zr_3_29 {l0 l1 : Option zV} {j : Int} {h : Nat} {st : List zV} {w : zW} {Q : Option zV → zW → Prop} (hk : zNC + 2 < zk w h ∧ zk w h < 1000 ∧ 0 ≤ zN j ∧ zN j < zl w h) : zR 3 29 [l0, l1] (.inl j :: .inr (some h) :: st) w Q = zR 3 30 [l0, l1] (.inr (zb w h (zN j).toNat) :: st) w Q := zR_go (zst zT_3_29 (if_pos hk))
theorem zT_3_30 : zT 3 30 = some (.getfield 74, 3, 0, [(5, 2)]) := by decide +kernel
theorem zr_3_30 {l0 l1 : Option zV} {h : Nat} {st : List zV} {w : zW} {Q : Option zV → zW → Prop} (hk : zk w h = 5) : zR 3 30 [l0, l1] (.inr (some h) :: st) w Q = zR 3 33 [l0, l1] (.inr (zp w 43 h) :: st) w Q := zR_go (zst zT_3_30 (zget_r hk rfl))
theorem zT_3_33 : zT 3 33 = some (.invokevirtual 84, 3, 0, [(6, 89)]) := by decide +kernel
theorem zr_3_33 {l0 l1 : Option zV} {h : Nat} {st : List zV} {w : zW} {Q : Option zV → zW → Prop} (hs : st.length ≤ 8) (hk : zk w h = 6) : zR 3 33 [l0, l1] (.inr (some h) :: st) w Q = zR 89 0 [some (.inr (some h))] [] w (fun r w2 => zR 3 36 [l0, l1] (r.toList ++ st) w2 Q) := zR_call (zst zT_3_33 (zcall_v [] rfl hs hk rfl))
theorem zT_3_36 : zT 3 36 = some (.iconst 1, 1, 0, []) := by decide +kernel
theorem zr_3_36 {l0 l1 : Option zV} {st : List zV} {w : zW} {Q : Option zV → zW → Prop}  : zR 3 36 [l0, l1] st w Q = zR 3 37 [l0, l1] (.inl 1 :: st) w Q := zR_go (zst zT_3_36 rfl)
theorem zT_3_37 : zT 3 37 = some (.ireturn, 1, 0, []) := by decide +kernel
theorem zr_3_37 {l0 l1 : Option zV} {x : Int} {w : zW} {Q : Option zV → zW → Prop} (hx : zN x = 0 ∨ zN x = 1) : zR 3 37 [l0, l1] [.inl x] w Q = Q (some (.inl x)) w := zR_ret (zst zT_3_37 (if_pos (Or.inr ⟨rfl, hx⟩)))
theorem zT_4_0 : zT 4 0 = some (.iload_n 1, 1, 0, []) := by decide +kernel
theorem zr_4_0 {l0 l2 l3 : Option zV} {x : Int} {st : List zV} {w : zW} {Q : Option zV → zW → Prop}  : zR 4 0 [l0, some (.inl x), l2, l3] st w Q = zR 4 1 [l0, some (.inl x), l2, l3] (.inl x :: st) w Q := zR_go (zst zT_4_0 rfl)
theorem zT_4_1 : zT 4 1 = some (.invokestatic 65, 3, 1, [(17, 1)]) := by decide +kernel
theorem zr_4_1 {l0 l1 l2 l3 : Option zV} {a0 : zV} {st : List zV} {w : zW} {Q : Option zV → zW → Prop} (hs : st.length ≤ 8) : zR 4 1 [l0, l1, l2, l3] (a0 :: st) w Q = zR 17 0 [some a0] [] w (fun r w2 => zR 4 4 [l0, l1, l2, l3] (r.toList ++ st) w2 Q) := zR_call (zst zT_4_1 ((zcall_s (z := 1) (pc := 1) (j := 17) (ls := [l0, l1, l2, l3]) (w := w) [a0] rfl hs : zi_static 1 [(17, 1)] 1 [l0, l1, l2, l3] ([a0] ++ st) w = _)))
theorem zT_4_4 : zT 4 4 = some (.ifCond .eq 25, 3, 0, []) := by decide +kernel
theorem zr_4_4 {l0 l1 l2 l3 : Option zV} {x : Int} {st : List zV} {w : zW} {Q : Option zV → zW → Prop}  : zR 4 4 [l0, l1, l2, l3] (.inl x :: st) w Q = (if zN x = 0 then zR 4 29 [l0, l1, l2, l3] st w Q else zR 4 7 [l0, l1, l2, l3] st w Q) := zR_if (zstB zT_4_4 rfl) (by simp [zcmp])
theorem zT_4_7 : zT 4 7 = some (.iload_n 2, 1, 0, []) := by decide +kernel
theorem zr_4_7 {l0 l1 l3 : Option zV} {x : Int} {st : List zV} {w : zW} {Q : Option zV → zW → Prop}  : zR 4 7 [l0, l1, some (.inl x), l3] st w Q = zR 4 8 [l0, l1, some (.inl x), l3] (.inl x :: st) w Q := zR_go (zst zT_4_7 rfl)
theorem zT_4_8 : zT 4 8 = some (.ifCond .lt 21, 3, 0, []) := by decide +kernel
theorem zr_4_8 {l0 l1 l2 l3 : Option zV} {x : Int} {st : List zV} {w : zW} {Q : Option zV → zW → Prop}  : zR 4 8 [l0, l1, l2, l3] (.inl x :: st) w Q = (if zN x < 0 then zR 4 29 [l0, l1, l2, l3] st w Q else zR 4 11 [l0, l1, l2, l3] st w Q) := zR_if (zstB zT_4_8 rfl) (by simp [zcmp])
theorem zT_4_11 : zT 4 11 = some (.iload_n 2, 1, 0, []) := by decide +kernel
theorem zr_4_11 {l0 l1 l3 : Option zV} {x : Int} {st : List zV} {w : zW} {Q : Option zV → zW → Prop}  : zR 4 11 [l0, l1, some (.inl x), l3] st w Q = zR 4 12 [l0, l1, some (.inl x), l3] (.inl x :: st) w Q := zR_go (zst zT_4_11 rfl)
theorem zT_4_12 : zT 4 12 = some (.bipush 13, 2, 0, []) := by decide +kernel
theorem zr_4_12 {l0 l1 l2 l3 : Option zV} {st : List zV} {w : zW} {Q : Option zV → zW → Prop}  : zR 4 12 [l0, l1, l2, l3] st w Q = zR 4 14 [l0, l1, l2, l3] (.inl 13 :: st) w Q := zR_go (zst zT_4_12 rfl)
theorem zT_4_14 : zT 4 14 = some (.if_icmp .ge 15, 3, 0, []) := by decide +kernel
theorem zr_4_14 {l0 l1 l2 l3 : Option zV} {x y : Int} {st : List zV} {w : zW} {Q : Option zV → zW → Prop}  : zR 4 14 [l0, l1, l2, l3] (.inl y :: .inl x :: st) w Q = (if zN y ≤ zN x then zR 4 29 [l0, l1, l2, l3] st w Q else zR 4 17 [l0, l1, l2, l3] st w Q) := zR_if (zstB zT_4_14 rfl) (by simp [zcmp])
theorem zT_4_17 : zT 4 17 = some (.iload_n 3, 1, 0, []) := by decide +kernel
theorem zr_4_17 {l0 l1 l2 : Option zV} {x : Int} {st : List zV} {w : zW} {Q : Option zV → zW → Prop}  : zR 4 17 [l0, l1, l2, some (.inl x)] st w Q = zR 4 18 [l0, l1, l2, some (.inl x)] (.inl x :: st) w Q := zR_go (zst zT_4_17 rfl)
theorem zT_4_18 : zT 4 18 = some (.iconst 1, 1, 0, []) := by decide +kernel
theorem zr_4_18 {l0 l1 l2 l3 : Option zV} {st : List zV} {w : zW} {Q : Option zV → zW → Prop}  : zR 4 18 [l0, l1, l2, l3] st w Q = zR 4 19 [l0, l1, l2, l3] (.inl 1 :: st) w Q := zR_go (zst zT_4_18 rfl)
theorem zT_4_19 : zT 4 19 = some (.if_icmp .lt 10, 3, 0, []) := by decide +kernel
theorem zr_4_19 {l0 l1 l2 l3 : Option zV} {x y : Int} {st : List zV} {w : zW} {Q : Option zV → zW → Prop}  : zR 4 19 [l0, l1, l2, l3] (.inl y :: .inl x :: st) w Q = (if zN x < zN y then zR 4 29 [l0, l1, l2, l3] st w Q else zR 4 22 [l0, l1, l2, l3] st w Q) := zR_if (zstB zT_4_19 rfl) (by simp [zcmp])
theorem zT_4_22 : zT 4 22 = some (.iload_n 3, 1, 0, []) := by decide +kernel
theorem zr_4_22 {l0 l1 l2 : Option zV} {x : Int} {st : List zV} {w : zW} {Q : Option zV → zW → Prop}  : zR 4 22 [l0, l1, l2, some (.inl x)] st w Q = zR 4 23 [l0, l1, l2, some (.inl x)] (.inl x :: st) w Q := zR_go (zst zT_4_22 rfl)
theorem zT_4_23 : zT 4 23 = some (.sipush 255, 3, 0, []) := by decide +kernel
theorem zr_4_23 {l0 l1 l2 l3 : Option zV} {st : List zV} {w : zW} {Q : Option zV → zW → Prop}  : zR 4 23 [l0, l1, l2, l3] st w Q = zR 4 26 [l0, l1, l2, l3] (.inl 255 :: st) w Q := zR_go (zst zT_4_23 rfl)
theorem zT_4_26 : zT 4 26 = some (.if_icmp .le 5, 3, 0, []) := by decide +kernel
theorem zr_4_26 {l0 l1 l2 l3 : Option zV} {x y : Int} {st : List zV} {w : zW} {Q : Option zV → zW → Prop}  : zR 4 26 [l0, l1, l2, l3] (.inl y :: .inl x :: st) w Q = (if zN x ≤ zN y then zR 4 31 [l0, l1, l2, l3] st w Q else zR 4 29 [l0, l1, l2, l3] st w Q) := zR_if (zstB zT_4_26 rfl) (by simp [zcmp])
theorem zT_4_29 : zT 4 29 = some (.iconst 0, 1, 0, []) := by decide +kernel
theorem zr_4_29 {l0 l1 l2 l3 : Option zV} {st : List zV} {w : zW} {Q : Option zV → zW → Prop}  : zR 4 29 [l0, l1, l2, l3] st w Q = zR 4 30 [l0, l1, l2, l3] (.inl 0 :: st) w Q := zR_go (zst zT_4_29 rfl)
theorem zT_4_30 : zT 4 30 = some (.ireturn, 1, 0, []) := by decide +kernel
theorem zr_4_30 {l0 l1 l2 l3 : Option zV} {x : Int} {w : zW} {Q : Option zV → zW → Prop} (hx : zN x = 0 ∨ zN x = 1) : zR 4 30 [l0, l1, l2, l3] [.inl x] w Q = Q (some (.inl x)) w := zR_ret (zst zT_4_30 (if_pos (Or.inr ⟨rfl, hx⟩)))
theorem zT_4_31 : zT 4 31 = some (.aload_n 0, 1, 0, []) := by decide +kernel
theorem zr_4_31 {l1 l2 l3 : Option zV} {x : Option Nat} {st : List zV} {w : zW} {Q : Option zV → zW → Prop}  : zR 4 31 [some (.inr x), l1, l2, l3] st w Q = zR 4 32 [some (.inr x), l1, l2, l3] (.inr x :: st) w Q := zR_go (zst zT_4_31 rfl)
theorem zT_4_32 : zT 4 32 = some (.getfield 11, 3, 0, [(0, 0)]) := by decide +kernel
theorem zr_4_32 {l0 l1 l2 l3 : Option zV} {h : Nat} {st : List zV} {w : zW} {Q : Option zV → zW → Prop} (hk : zk w h = 0) : zR 4 32 [l0, l1, l2, l3] (.inr (some h) :: st) w Q = zR 4 35 [l0, l1, l2, l3] (.inr (zp w 0 h) :: st) w Q := zR_go (zst zT_4_32 (zget_r hk rfl))
theorem zT_4_35 : zT 4 35 = some (.iload_n 1, 1, 0, []) := by decide +kernel
theorem zr_4_35 {l0 l2 l3 : Option zV} {x : Int} {st : List zV} {w : zW} {Q : Option zV → zW → Prop}  : zR 4 35 [l0, some (.inl x), l2, l3] st w Q = zR 4 36 [l0, some (.inl x), l2, l3] (.inl x :: st) w Q := zR_go (zst zT_4_35 rfl)
theorem zT_4_36 : zT 4 36 = some (.aaload, 1, 0, []) := by decide +kernel
theorem zr_4_36 {l0 l1 l2 l3 : Option zV} {j : Int} {h : Nat} {st : List zV} {w : zW} {Q : Option zV → zW → Prop} (hk : zNC + 2 < zk w h ∧ zk w h < 1000 ∧ 0 ≤ zN j ∧ zN j < zl w h) : zR 4 36 [l0, l1, l2, l3] (.inl j :: .inr (some h) :: st) w Q = zR 4 37 [l0, l1, l2, l3] (.inr (zb w h (zN j).toNat) :: st) w Q := zR_go (zst zT_4_36 (if_pos hk))
theorem zT_4_37 : zT 4 37 = some (.iload_n 2, 1, 0, []) := by decide +kernel
theorem zr_4_37 {l0 l1 l3 : Option zV} {x : Int} {st : List zV} {w : zW} {Q : Option zV → zW → Prop}  : zR 4 37 [l0, l1, some (.inl x), l3] st w Q = zR 4 38 [l0, l1, some (.inl x), l3] (.inl x :: st) w Q := zR_go (zst zT_4_37 rfl)
theorem zT_4_38 : zT 4 38 = some (.putfield 87, 3, 0, [(5, 4)]) := by decide +kernel
theorem zr_4_38 {l0 l1 l2 l3 : Option zV} {h : Nat} {x : Int} {st : List zV} {w : zW} {Q : Option zV → zW → Prop} (hk : zk w h = 5) : zR 4 38 [l0, l1, l2, l3] (.inl x :: .inr (some h) :: st) w Q = zR 4 41 [l0, l1, l2, l3] st (zsf w 45 h x) Q := zR_go (zst zT_4_38 (zput_i hk rfl))
theorem zT_4_41 : zT 4 41 = some (.aload_n 0, 1, 0, []) := by decide +kernel
theorem zr_4_41 {l1 l2 l3 : Option zV} {x : Option Nat} {st : List zV} {w : zW} {Q : Option zV → zW → Prop}  : zR 4 41 [some (.inr x), l1, l2, l3] st w Q = zR 4 42 [some (.inr x), l1, l2, l3] (.inr x :: st) w Q := zR_go (zst zT_4_41 rfl)
theorem zT_4_42 : zT 4 42 = some (.getfield 11, 3, 0, [(0, 0)]) := by decide +kernel
theorem zr_4_42 {l0 l1 l2 l3 : Option zV} {h : Nat} {st : List zV} {w : zW} {Q : Option zV → zW → Prop} (hk : zk w h = 0) : zR 4 42 [l0, l1, l2, l3] (.inr (some h) :: st) w Q = zR 4 45 [l0, l1, l2, l3] (.inr (zp w 0 h) :: st) w Q := zR_go (zst zT_4_42 (zget_r hk rfl))
theorem zT_4_45 : zT 4 45 = some (.iload_n 1, 1, 0, []) := by decide +kernel
theorem zr_4_45 {l0 l2 l3 : Option zV} {x : Int} {st : List zV} {w : zW} {Q : Option zV → zW → Prop}  : zR 4 45 [l0, some (.inl x), l2, l3] st w Q = zR 4 46 [l0, some (.inl x), l2, l3] (.inl x :: st) w Q := zR_go (zst zT_4_45 rfl)
theorem zT_4_46 : zT 4 46 = some (.aaload, 1, 0, []) := by decide +kernel
theorem zr_4_46 {l0 l1 l2 l3 : Option zV} {j : Int} {h : Nat} {st : List zV} {w : zW} {Q : Option zV → zW → Prop} (hk : zNC + 2 < zk w h ∧ zk w h < 1000 ∧ 0 ≤ zN j ∧ zN j < zl w h) : zR 4 46 [l0, l1, l2, l3] (.inl j :: .inr (some h) :: st) w Q = zR 4 47 [l0, l1, l2, l3] (.inr (zb w h (zN j).toNat) :: st) w Q := zR_go (zst zT_4_46 (if_pos hk))
theorem zT_4_47 : zT 4 47 = some (.iload_n 3, 1, 0, []) := by decide +kernel
theorem zr_4_47 {l0 l1 l2 : Option zV} {x : Int} {st : List zV} {w : zW} {Q : Option zV → zW → Prop}  : zR 4 47 [l0, l1, l2, some (.inl x)] st w Q = zR 4 48 [l0, l1, l2, some (.inl x)] (.inl x :: st) w Q := zR_go (zst zT_4_47 rfl)
theorem zT_4_48 : zT 4 48 = some (.putfield 90, 3, 0, [(5, 5)]) := by decide +kernel
theorem zr_4_48 {l0 l1 l2 l3 : Option zV} {h : Nat} {x : Int} {st : List zV} {w : zW} {Q : Option zV → zW → Prop} (hk : zk w h = 5) : zR 4 48 [l0, l1, l2, l3] (.inl x :: .inr (some h) :: st) w Q = zR 4 51 [l0, l1, l2, l3] st (zsf w 46 h x) Q := zR_go (zst zT_4_48 (zput_i hk rfl))
theorem zT_4_51 : zT 4 51 = some (.iconst 1, 1, 0, []) := by decide +kernel
theorem zr_4_51 {l0 l1 l2 l3 : Option zV} {st : List zV} {w : zW} {Q : Option zV → zW → Prop}  : zR 4 51 [l0, l1, l2, l3] st w Q = zR 4 52 [l0, l1, l2, l3] (.inl 1 :: st) w Q := zR_go (zst zT_4_51 rfl)
theorem zT_4_52 : zT 4 52 = some (.ireturn, 1, 0, []) := by decide +kernel
theorem zr_4_52 {l0 l1 l2 l3 : Option zV} {x : Int} {w : zW} {Q : Option zV → zW → Prop} (hx : zN x = 0 ∨ zN x = 1) : zR 4 52 [l0, l1, l2, l3] [.inl x] w Q = Q (some (.inl x)) w := zR_ret (zst zT_4_52 (if_pos (Or.inr ⟨rfl, hx⟩)))
theorem zT_5_0 : zT 5 0 = some (.iload_n 1, 1, 0, []) := by decide +kernel
theorem zr_5_0 {l0 l2 : Option zV} {x : Int} {st : List zV} {w : zW} {Q : Option zV → zW → Prop}  : zR 5 0 [l0, some (.inl x), l2] st w Q = zR 5 1 [l0, some (.inl x), l2] (.inl x :: st) w Q := zR_go (zst zT_5_0 rfl)
theorem zT_5_1 : zT 5 1 = some (.iconst 1, 1, 0, []) := by decide +kernel
theorem zr_5_1 {l0 l1 l2 : Option zV} {st : List zV} {w : zW} {Q : Option zV → zW → Prop}  : zR 5 1 [l0, l1, l2] st w Q = zR 5 2 [l0, l1, l2] (.inl 1 :: st) w Q := zR_go (zst zT_5_1 rfl)
theorem zT_5_2 : zT 5 2 = some (.if_icmp .lt 9, 3, 0, []) := by decide +kernel
theorem zr_5_2 {l0 l1 l2 : Option zV} {x y : Int} {st : List zV} {w : zW} {Q : Option zV → zW → Prop}  : zR 5 2 [l0, l1, l2] (.inl y :: .inl x :: st) w Q = (if zN x < zN y then zR 5 11 [l0, l1, l2] st w Q else zR 5 5 [l0, l1, l2] st w Q) := zR_if (zstB zT_5_2 rfl) (by simp [zcmp])
theorem zT_5_5 : zT 5 5 = some (.iload_n 1, 1, 0, []) := by decide +kernel
theorem zr_5_5 {l0 l2 : Option zV} {x : Int} {st : List zV} {w : zW} {Q : Option zV → zW → Prop}  : zR 5 5 [l0, some (.inl x), l2] st w Q = zR 5 6 [l0, some (.inl x), l2] (.inl x :: st) w Q := zR_go (zst zT_5_5 rfl)
theorem zT_5_6 : zT 5 6 = some (.bipush 100, 2, 0, []) := by decide +kernel
theorem zr_5_6 {l0 l1 l2 : Option zV} {st : List zV} {w : zW} {Q : Option zV → zW → Prop}  : zR 5 6 [l0, l1, l2] st w Q = zR 5 8 [l0, l1, l2] (.inl 100 :: st) w Q := zR_go (zst zT_5_6 rfl)
theorem zT_5_8 : zT 5 8 = some (.if_icmp .le 5, 3, 0, []) := by decide +kernel
theorem zr_5_8 {l0 l1 l2 : Option zV} {x y : Int} {st : List zV} {w : zW} {Q : Option zV → zW → Prop}  : zR 5 8 [l0, l1, l2] (.inl y :: .inl x :: st) w Q = (if zN x ≤ zN y then zR 5 13 [l0, l1, l2] st w Q else zR 5 11 [l0, l1, l2] st w Q) := zR_if (zstB zT_5_8 rfl) (by simp [zcmp])
theorem zT_5_11 : zT 5 11 = some (.iconst (-1), 1, 0, []) := by decide +kernel
theorem zr_5_11 {l0 l1 l2 : Option zV} {st : List zV} {w : zW} {Q : Option zV → zW → Prop}  : zR 5 11 [l0, l1, l2] st w Q = zR 5 12 [l0, l1, l2] (.inl (-1) :: st) w Q := zR_go (zst zT_5_11 rfl)
theorem zT_5_12 : zT 5 12 = some (.ireturn, 1, 0, []) := by decide +kernel
theorem zr_5_12 {l0 l1 l2 : Option zV} {x : Int} {w : zW} {Q : Option zV → zW → Prop}  : zR 5 12 [l0, l1, l2] [.inl x] w Q = Q (some (.inl x)) w := zR_ret (zst zT_5_12 rfl)
theorem zT_5_13 : zT 5 13 = some (.iconst 0, 1, 0, []) := by decide +kernel
theorem zr_5_13 {l0 l1 l2 : Option zV} {st : List zV} {w : zW} {Q : Option zV → zW → Prop}  : zR 5 13 [l0, l1, l2] st w Q = zR 5 14 [l0, l1, l2] (.inl 0 :: st) w Q := zR_go (zst zT_5_13 rfl)
theorem zT_5_14 : zT 5 14 = some (.istore_n 2, 1, 0, []) := by decide +kernel
theorem zr_5_14 {l0 l1 l2 : Option zV} {x : Int} {st : List zV} {w : zW} {Q : Option zV → zW → Prop}  : zR 5 14 [l0, l1, l2] (.inl x :: st) w Q = zR 5 15 [l0, l1, some (.inl x)] st w Q := zR_go (zst zT_5_14 rfl)
theorem zT_5_15 : zT 5 15 = some (.iload_n 2, 1, 0, []) := by decide +kernel
theorem zr_5_15 {l0 l1 : Option zV} {x : Int} {st : List zV} {w : zW} {Q : Option zV → zW → Prop}  : zR 5 15 [l0, l1, some (.inl x)] st w Q = zR 5 16 [l0, l1, some (.inl x)] (.inl x :: st) w Q := zR_go (zst zT_5_15 rfl)
theorem zT_5_16 : zT 5 16 = some (.iload_n 1, 1, 0, []) := by decide +kernel
theorem zr_5_16 {l0 l2 : Option zV} {x : Int} {st : List zV} {w : zW} {Q : Option zV → zW → Prop}  : zR 5 16 [l0, some (.inl x), l2] st w Q = zR 5 17 [l0, some (.inl x), l2] (.inl x :: st) w Q := zR_go (zst zT_5_16 rfl)
theorem zT_5_17 : zT 5 17 = some (.if_icmp .ge 46, 3, 0, []) := by decide +kernel
theorem zr_5_17 {l0 l1 l2 : Option zV} {x y : Int} {st : List zV} {w : zW} {Q : Option zV → zW → Prop}  : zR 5 17 [l0, l1, l2] (.inl y :: .inl x :: st) w Q = (if zN y ≤ zN x then zR 5 63 [l0, l1, l2] st w Q else zR 5 20 [l0, l1, l2] st w Q) := zR_if (zstB zT_5_17 rfl) (by simp [zcmp])
theorem zT_5_20 : zT 5 20 = some (.aload_n 0, 1, 0, []) := by decide +kernel
theorem zr_5_20 {l1 l2 : Option zV} {x : Option Nat} {st : List zV} {w : zW} {Q : Option zV → zW → Prop}  : zR 5 20 [some (.inr x), l1, l2] st w Q = zR 5 21 [some (.inr x), l1, l2] (.inr x :: st) w Q := zR_go (zst zT_5_20 rfl)
theorem zT_5_21 : zT 5 21 = some (.dup, 1, 0, []) := by decide +kernel
theorem zr_5_21 {l0 l1 l2 : Option zV} {v : zV} {st : List zV} {w : zW} {Q : Option zV → zW → Prop}  : zR 5 21 [l0, l1, l2] (v :: st) w Q = zR 5 22 [l0, l1, l2] (v :: v :: st) w Q := zR_go (zst zT_5_21 rfl)
theorem zT_5_22 : zT 5 22 = some (.getfield 93, 3, 0, [(0, 5)]) := by decide +kernel
theorem zr_5_22 {l0 l1 l2 : Option zV} {h : Nat} {st : List zV} {w : zW} {Q : Option zV → zW → Prop} (hk : zk w h = 0) : zR 5 22 [l0, l1, l2] (.inr (some h) :: st) w Q = zR 5 25 [l0, l1, l2] (.inl (zf w 5 h) :: st) w Q := zR_go (zst zT_5_22 (zget_i hk (Or.inl rfl)))
theorem zT_5_25 : zT 5 25 = some (.iconst 1, 1, 0, []) := by decide +kernel
theorem zr_5_25 {l0 l1 l2 : Option zV} {st : List zV} {w : zW} {Q : Option zV → zW → Prop}  : zR 5 25 [l0, l1, l2] st w Q = zR 5 26 [l0, l1, l2] (.inl 1 :: st) w Q := zR_go (zst zT_5_25 rfl)
theorem zT_5_26 : zT 5 26 = some (.iadd, 1, 0, []) := by decide +kernel
theorem zr_5_26 {l0 l1 l2 : Option zV} {x y : Int} {st : List zV} {w : zW} {Q : Option zV → zW → Prop}  : zR 5 26 [l0, l1, l2] (.inl y :: .inl x :: st) w Q = zR 5 27 [l0, l1, l2] (.inl (x + y) :: st) w Q := zR_go (zst zT_5_26 rfl)
theorem zT_5_27 : zT 5 27 = some (.putfield 93, 3, 0, [(0, 5)]) := by decide +kernel
theorem zr_5_27 {l0 l1 l2 : Option zV} {h : Nat} {x : Int} {st : List zV} {w : zW} {Q : Option zV → zW → Prop} (hk : zk w h = 0) : zR 5 27 [l0, l1, l2] (.inl x :: .inr (some h) :: st) w Q = zR 5 30 [l0, l1, l2] st (zsf w 5 h x) Q := zR_go (zst zT_5_27 (zput_i hk rfl))
theorem zT_5_30 : zT 5 30 = some (.aload_n 0, 1, 0, []) := by decide +kernel
theorem zr_5_30 {l1 l2 : Option zV} {x : Option Nat} {st : List zV} {w : zW} {Q : Option zV → zW → Prop}  : zR 5 30 [some (.inr x), l1, l2] st w Q = zR 5 31 [some (.inr x), l1, l2] (.inr x :: st) w Q := zR_go (zst zT_5_30 rfl)
theorem zT_5_31 : zT 5 31 = some (.aload_n 0, 1, 0, []) := by decide +kernel
theorem zr_5_31 {l1 l2 : Option zV} {x : Option Nat} {st : List zV} {w : zW} {Q : Option zV → zW → Prop}  : zR 5 31 [some (.inr x), l1, l2] st w Q = zR 5 32 [some (.inr x), l1, l2] (.inr x :: st) w Q := zR_go (zst zT_5_31 rfl)
theorem zT_5_32 : zT 5 32 = some (.getfield 11, 3, 0, [(0, 0)]) := by decide +kernel
theorem zr_5_32 {l0 l1 l2 : Option zV} {h : Nat} {st : List zV} {w : zW} {Q : Option zV → zW → Prop} (hk : zk w h = 0) : zR 5 32 [l0, l1, l2] (.inr (some h) :: st) w Q = zR 5 35 [l0, l1, l2] (.inr (zp w 0 h) :: st) w Q := zR_go (zst zT_5_32 (zget_r hk rfl))
theorem zT_5_35 : zT 5 35 = some (.iconst 0, 1, 0, []) := by decide +kernel
theorem zr_5_35 {l0 l1 l2 : Option zV} {st : List zV} {w : zW} {Q : Option zV → zW → Prop}  : zR 5 35 [l0, l1, l2] st w Q = zR 5 36 [l0, l1, l2] (.inl 0 :: st) w Q := zR_go (zst zT_5_35 rfl)
theorem zT_5_36 : zT 5 36 = some (.aaload, 1, 0, []) := by decide +kernel
theorem zr_5_36 {l0 l1 l2 : Option zV} {j : Int} {h : Nat} {st : List zV} {w : zW} {Q : Option zV → zW → Prop} (hk : zNC + 2 < zk w h ∧ zk w h < 1000 ∧ 0 ≤ zN j ∧ zN j < zl w h) : zR 5 36 [l0, l1, l2] (.inl j :: .inr (some h) :: st) w Q = zR 5 37 [l0, l1, l2] (.inr (zb w h (zN j).toNat) :: st) w Q := zR_go (zst zT_5_36 (if_pos hk))
theorem zT_5_37 : zT 5 37 = some (.invokevirtual 96, 3, 1, [(0, 20)]) := by decide +kernel
theorem zr_5_37 {l0 l1 l2 : Option zV} {a0 : zV} {h : Nat} {st : List zV} {w : zW} {Q : Option zV → zW → Prop} (hs : st.length ≤ 8) (hk : zk w h = 0) : zR 5 37 [l0, l1, l2] (a0 :: .inr (some h) :: st) w Q = zR 20 0 [some (.inr (some h)), some a0, none] [] w (fun r w2 => zR 5 40 [l0, l1, l2] (r.toList ++ st) w2 Q) := zR_call (zst zT_5_37 (zcall_v [a0] rfl hs hk rfl))
theorem zT_5_40 : zT 5 40 = some (.aload_n 0, 1, 0, []) := by decide +kernel
theorem zr_5_40 {l1 l2 : Option zV} {x : Option Nat} {st : List zV} {w : zW} {Q : Option zV → zW → Prop}  : zR 5 40 [some (.inr x), l1, l2] st w Q = zR 5 41 [some (.inr x), l1, l2] (.inr x :: st) w Q := zR_go (zst zT_5_40 rfl)
theorem zT_5_41 : zT 5 41 = some (.aload_n 0, 1, 0, []) := by decide +kernel
theorem zr_5_41 {l1 l2 : Option zV} {x : Option Nat} {st : List zV} {w : zW} {Q : Option zV → zW → Prop}  : zR 5 41 [some (.inr x), l1, l2] st w Q = zR 5 42 [some (.inr x), l1, l2] (.inr x :: st) w Q := zR_go (zst zT_5_41 rfl)
theorem zT_5_42 : zT 5 42 = some (.getfield 11, 3, 0, [(0, 0)]) := by decide +kernel
theorem zr_5_42 {l0 l1 l2 : Option zV} {h : Nat} {st : List zV} {w : zW} {Q : Option zV → zW → Prop} (hk : zk w h = 0) : zR 5 42 [l0, l1, l2] (.inr (some h) :: st) w Q = zR 5 45 [l0, l1, l2] (.inr (zp w 0 h) :: st) w Q := zR_go (zst zT_5_42 (zget_r hk rfl))
theorem zT_5_45 : zT 5 45 = some (.iconst 1, 1, 0, []) := by decide +kernel
theorem zr_5_45 {l0 l1 l2 : Option zV} {st : List zV} {w : zW} {Q : Option zV → zW → Prop}  : zR 5 45 [l0, l1, l2] st w Q = zR 5 46 [l0, l1, l2] (.inl 1 :: st) w Q := zR_go (zst zT_5_45 rfl)
theorem zT_5_46 : zT 5 46 = some (.aaload, 1, 0, []) := by decide +kernel
theorem zr_5_46 {l0 l1 l2 : Option zV} {j : Int} {h : Nat} {st : List zV} {w : zW} {Q : Option zV → zW → Prop} (hk : zNC + 2 < zk w h ∧ zk w h < 1000 ∧ 0 ≤ zN j ∧ zN j < zl w h) : zR 5 46 [l0, l1, l2] (.inl j :: .inr (some h) :: st) w Q = zR 5 47 [l0, l1, l2] (.inr (zb w h (zN j).toNat) :: st) w Q := zR_go (zst zT_5_46 (if_pos hk))
theorem zT_5_47 : zT 5 47 = some (.invokevirtual 96, 3, 1, [(0, 20)]) := by decide +kernel
theorem zr_5_47 {l0 l1 l2 : Option zV} {a0 : zV} {h : Nat} {st : List zV} {w : zW} {Q : Option zV → zW → Prop} (hs : st.length ≤ 8) (hk : zk w h = 0) : zR 5 47 [l0, l1, l2] (a0 :: .inr (some h) :: st) w Q = zR 20 0 [some (.inr (some h)), some a0, none] [] w (fun r w2 => zR 5 50 [l0, l1, l2] (r.toList ++ st) w2 Q) := zR_call (zst zT_5_47 (zcall_v [a0] rfl hs hk rfl))
theorem zT_5_50 : zT 5 50 = some (.aload_n 0, 1, 0, []) := by decide +kernel
theorem zr_5_50 {l1 l2 : Option zV} {x : Option Nat} {st : List zV} {w : zW} {Q : Option zV → zW → Prop}  : zR 5 50 [some (.inr x), l1, l2] st w Q = zR 5 51 [some (.inr x), l1, l2] (.inr x :: st) w Q := zR_go (zst zT_5_50 rfl)
theorem zT_5_51 : zT 5 51 = some (.getfield 30, 3, 0, [(0, 3)]) := by decide +kernel
theorem zr_5_51 {l0 l1 l2 : Option zV} {h : Nat} {st : List zV} {w : zW} {Q : Option zV → zW → Prop} (hk : zk w h = 0) : zR 5 51 [l0, l1, l2] (.inr (some h) :: st) w Q = zR 5 54 [l0, l1, l2] (.inr (zp w 3 h) :: st) w Q := zR_go (zst zT_5_51 (zget_r hk rfl))
theorem zT_5_54 : zT 5 54 = some (.invokevirtual 100, 3, 0, [(1, 105)]) := by decide +kernel
theorem zr_5_54 {l0 l1 l2 : Option zV} {h : Nat} {st : List zV} {w : zW} {Q : Option zV → zW → Prop} (hs : st.length ≤ 8) (hk : zk w h = 1) : zR 5 54 [l0, l1, l2] (.inr (some h) :: st) w Q = zR 105 0 [some (.inr (some h)), none] [] w (fun r w2 => zR 5 57 [l0, l1, l2] (r.toList ++ st) w2 Q) := zR_call (zst zT_5_54 (zcall_v [] rfl hs hk rfl))
theorem zT_5_57 : zT 5 57 = some (.iinc 2 1, 3, 0, []) := by decide +kernel
theorem zr_5_57 {l0 l1 : Option zV} {x : Int} {st : List zV} {w : zW} {Q : Option zV → zW → Prop}  : zR 5 57 [l0, l1, some (.inl x)] st w Q = zR 5 60 [l0, l1, some (.inl (x + 1))] st w Q := zR_go (zst zT_5_57 rfl)
theorem zT_5_60 : zT 5 60 = some (.goto (-45), 3, 0, []) := by decide +kernel
theorem zr_5_60 {l0 l1 l2 : Option zV} {st : List zV} {w : zW} {Q : Option zV → zW → Prop}  : zR 5 60 [l0, l1, l2] st w Q = zR 5 15 [l0, l1, l2] st w Q := zR_go (zst zT_5_60 rfl)
theorem zT_5_63 : zT 5 63 = some (.aload_n 0, 1, 0, []) := by decide +kernel
theorem zr_5_63 {l1 l2 : Option zV} {x : Option Nat} {st : List zV} {w : zW} {Q : Option zV → zW → Prop}  : zR 5 63 [some (.inr x), l1, l2] st w Q = zR 5 64 [some (.inr x), l1, l2] (.inr x :: st) w Q := zR_go (zst zT_5_63 rfl)
theorem zT_5_64 : zT 5 64 = some (.getfield 93, 3, 0, [(0, 5)]) := by decide +kernel
theorem zr_5_64 {l0 l1 l2 : Option zV} {h : Nat} {st : List zV} {w : zW} {Q : Option zV → zW → Prop} (hk : zk w h = 0) : zR 5 64 [l0, l1, l2] (.inr (some h) :: st) w Q = zR 5 67 [l0, l1, l2] (.inl (zf w 5 h) :: st) w Q := zR_go (zst zT_5_64 (zget_i hk (Or.inl rfl)))
theorem zT_5_67 : zT 5 67 = some (.ireturn, 1, 0, []) := by decide +kernel
theorem zr_5_67 {l0 l1 l2 : Option zV} {x : Int} {w : zW} {Q : Option zV → zW → Prop}  : zR 5 67 [l0, l1, l2] [.inl x] w Q = Q (some (.inl x)) w := zR_ret (zst zT_5_67 rfl)
theorem zT_6_0 : zT 6 0 = some (.iload_n 1, 1, 0, []) := by decide +kernel
theorem zr_6_0 {l0 l2 : Option zV} {x : Int} {st : List zV} {w : zW} {Q : Option zV → zW → Prop}  : zR 6 0 [l0, some (.inl x), l2] st w Q = zR 6 1 [l0, some (.inl x), l2] (.inl x :: st) w Q := zR_go (zst zT_6_0 rfl)
theorem zT_6_1 : zT 6 1 = some (.ifCond .lt 20, 3, 0, []) := by decide +kernel
theorem zr_6_1 {l0 l1 l2 : Option zV} {x : Int} {st : List zV} {w : zW} {Q : Option zV → zW → Prop}  : zR 6 1 [l0, l1, l2] (.inl x :: st) w Q = (if zN x < 0 then zR 6 21 [l0, l1, l2] st w Q else zR 6 4 [l0, l1, l2] st w Q) := zR_if (zstB zT_6_1 rfl) (by simp [zcmp])
theorem zT_6_4 : zT 6 4 = some (.iload_n 1, 1, 0, []) := by decide +kernel
theorem zr_6_4 {l0 l2 : Option zV} {x : Int} {st : List zV} {w : zW} {Q : Option zV → zW → Prop}  : zR 6 4 [l0, some (.inl x), l2] st w Q = zR 6 5 [l0, some (.inl x), l2] (.inl x :: st) w Q := zR_go (zst zT_6_4 rfl)
theorem zT_6_5 : zT 6 5 = some (.bipush 32, 2, 0, []) := by decide +kernel
theorem zr_6_5 {l0 l1 l2 : Option zV} {st : List zV} {w : zW} {Q : Option zV → zW → Prop}  : zR 6 5 [l0, l1, l2] st w Q = zR 6 7 [l0, l1, l2] (.inl 32 :: st) w Q := zR_go (zst zT_6_5 rfl)
theorem zT_6_7 : zT 6 7 = some (.if_icmp .ge 14, 3, 0, []) := by decide +kernel
theorem zr_6_7 {l0 l1 l2 : Option zV} {x y : Int} {st : List zV} {w : zW} {Q : Option zV → zW → Prop}  : zR 6 7 [l0, l1, l2] (.inl y :: .inl x :: st) w Q = (if zN y ≤ zN x then zR 6 21 [l0, l1, l2] st w Q else zR 6 10 [l0, l1, l2] st w Q) := zR_if (zstB zT_6_7 rfl) (by simp [zcmp])
theorem zT_6_10 : zT 6 10 = some (.iload_n 2, 1, 0, []) := by decide +kernel
theorem zr_6_10 {l0 l1 : Option zV} {x : Int} {st : List zV} {w : zW} {Q : Option zV → zW → Prop}  : zR 6 10 [l0, l1, some (.inl x)] st w Q = zR 6 11 [l0, l1, some (.inl x)] (.inl x :: st) w Q := zR_go (zst zT_6_10 rfl)
theorem zT_6_11 : zT 6 11 = some (.ifCond .lt 10, 3, 0, []) := by decide +kernel
theorem zr_6_11 {l0 l1 l2 : Option zV} {x : Int} {st : List zV} {w : zW} {Q : Option zV → zW → Prop}  : zR 6 11 [l0, l1, l2] (.inl x :: st) w Q = (if zN x < 0 then zR 6 21 [l0, l1, l2] st w Q else zR 6 14 [l0, l1, l2] st w Q) := zR_if (zstB zT_6_11 rfl) (by simp [zcmp])
theorem zT_6_14 : zT 6 14 = some (.iload_n 2, 1, 0, []) := by decide +kernel
theorem zr_6_14 {l0 l1 : Option zV} {x : Int} {st : List zV} {w : zW} {Q : Option zV → zW → Prop}  : zR 6 14 [l0, l1, some (.inl x)] st w Q = zR 6 15 [l0, l1, some (.inl x)] (.inl x :: st) w Q := zR_go (zst zT_6_14 rfl)
theorem zT_6_15 : zT 6 15 = some (.sipush 255, 3, 0, []) := by decide +kernel
theorem zr_6_15 {l0 l1 l2 : Option zV} {st : List zV} {w : zW} {Q : Option zV → zW → Prop}  : zR 6 15 [l0, l1, l2] st w Q = zR 6 18 [l0, l1, l2] (.inl 255 :: st) w Q := zR_go (zst zT_6_15 rfl)
theorem zT_6_18 : zT 6 18 = some (.if_icmp .le 5, 3, 0, []) := by decide +kernel
theorem zr_6_18 {l0 l1 l2 : Option zV} {x y : Int} {st : List zV} {w : zW} {Q : Option zV → zW → Prop}  : zR 6 18 [l0, l1, l2] (.inl y :: .inl x :: st) w Q = (if zN x ≤ zN y then zR 6 23 [l0, l1, l2] st w Q else zR 6 21 [l0, l1, l2] st w Q) := zR_if (zstB zT_6_18 rfl) (by simp [zcmp])
theorem zT_6_21 : zT 6 21 = some (.iconst 0, 1, 0, []) := by decide +kernel
theorem zr_6_21 {l0 l1 l2 : Option zV} {st : List zV} {w : zW} {Q : Option zV → zW → Prop}  : zR 6 21 [l0, l1, l2] st w Q = zR 6 22 [l0, l1, l2] (.inl 0 :: st) w Q := zR_go (zst zT_6_21 rfl)
theorem zT_6_22 : zT 6 22 = some (.ireturn, 1, 0, []) := by decide +kernel
theorem zr_6_22 {l0 l1 l2 : Option zV} {x : Int} {w : zW} {Q : Option zV → zW → Prop} (hx : zN x = 0 ∨ zN x = 1) : zR 6 22 [l0, l1, l2] [.inl x] w Q = Q (some (.inl x)) w := zR_ret (zst zT_6_22 (if_pos (Or.inr ⟨rfl, hx⟩)))
theorem zT_6_23 : zT 6 23 = some (.aload_n 0, 1, 0, []) := by decide +kernel
theorem zr_6_23 {l1 l2 : Option zV} {x : Option Nat} {st : List zV} {w : zW} {Q : Option zV → zW → Prop}  : zR 6 23 [some (.inr x), l1, l2] st w Q = zR 6 24 [some (.inr x), l1, l2] (.inr x :: st) w Q := zR_go (zst zT_6_23 rfl)
theorem zT_6_24 : zT 6 24 = some (.getfield 30, 3, 0, [(0, 3)]) := by decide +kernel
theorem zr_6_24 {l0 l1 l2 : Option zV} {h : Nat} {st : List zV} {w : zW} {Q : Option zV → zW → Prop} (hk : zk w h = 0) : zR 6 24 [l0, l1, l2] (.inr (some h) :: st) w Q = zR 6 27 [l0, l1, l2] (.inr (zp w 3 h) :: st) w Q := zR_go (zst zT_6_24 (zget_r hk rfl))
theorem zT_6_27 : zT 6 27 = some (.getfield 103, 3, 0, [(1, 0)]) := by decide +kernel
theorem zr_6_27 {l0 l1 l2 : Option zV} {h : Nat} {st : List zV} {w : zW} {Q : Option zV → zW → Prop} (hk : zk w h = 1) : zR 6 27 [l0, l1, l2] (.inr (some h) :: st) w Q = zR 6 30 [l0, l1, l2] (.inr (zp w 6 h) :: st) w Q := zR_go (zst zT_6_27 (zget_r hk rfl))
theorem zT_6_30 : zT 6 30 = some (.iload_n 1, 1, 0, []) := by decide +kernel
theorem zr_6_30 {l0 l2 : Option zV} {x : Int} {st : List zV} {w : zW} {Q : Option zV → zW → Prop}  : zR 6 30 [l0, some (.inl x), l2] st w Q = zR 6 31 [l0, some (.inl x), l2] (.inl x :: st) w Q := zR_go (zst zT_6_30 rfl)
theorem zT_6_31 : zT 6 31 = some (.iload_n 2, 1, 0, []) := by decide +kernel
theorem zr_6_31 {l0 l1 : Option zV} {x : Int} {st : List zV} {w : zW} {Q : Option zV → zW → Prop}  : zR 6 31 [l0, l1, some (.inl x)] st w Q = zR 6 32 [l0, l1, some (.inl x)] (.inl x :: st) w Q := zR_go (zst zT_6_31 rfl)
theorem zT_6_32 : zT 6 32 = some (.iastore, 1, 0, []) := by decide +kernel
theorem zr_6_32 {l0 l1 l2 : Option zV} {j x : Int} {h : Nat} {st : List zV} {w : zW} {Q : Option zV → zW → Prop} (hk : zk w h = zNC ∧ 0 ≤ zN j ∧ zN j < zl w h) : zR 6 32 [l0, l1, l2] (.inl x :: .inl j :: .inr (some h) :: st) w Q = zR 6 33 [l0, l1, l2] st (zsa w h (zN j).toNat x) Q := zR_go (zst zT_6_32 (if_pos hk))
theorem zT_6_33 : zT 6 33 = some (.iconst 1, 1, 0, []) := by decide +kernel
theorem zr_6_33 {l0 l1 l2 : Option zV} {st : List zV} {w : zW} {Q : Option zV → zW → Prop}  : zR 6 33 [l0, l1, l2] st w Q = zR 6 34 [l0, l1, l2] (.inl 1 :: st) w Q := zR_go (zst zT_6_33 rfl)
theorem zT_6_34 : zT 6 34 = some (.ireturn, 1, 0, []) := by decide +kernel
theorem zr_6_34 {l0 l1 l2 : Option zV} {x : Int} {w : zW} {Q : Option zV → zW → Prop} (hx : zN x = 0 ∨ zN x = 1) : zR 6 34 [l0, l1, l2] [.inl x] w Q = Q (some (.inl x)) w := zR_ret (zst zT_6_34 (if_pos (Or.inr ⟨rfl, hx⟩)))
theorem zT_7_0 : zT 7 0 = some (.iload_n 2, 1, 0, []) := by decide +kernel
theorem zr_7_0 {l0 l1 : Option zV} {x : Int} {st : List zV} {w : zW} {Q : Option zV → zW → Prop}  : zR 7 0 [l0, l1, some (.inl x)] st w Q = zR 7 1 [l0, l1, some (.inl x)] (.inl x :: st) w Q := zR_go (zst zT_7_0 rfl)
theorem zT_7_1 : zT 7 1 = some (.iconst 1, 1, 0, []) := by decide +kernel
theorem zr_7_1 {l0 l1 l2 : Option zV} {st : List zV} {w : zW} {Q : Option zV → zW → Prop}  : zR 7 1 [l0, l1, l2] st w Q = zR 7 2 [l0, l1, l2] (.inl 1 :: st) w Q := zR_go (zst zT_7_1 rfl)
theorem zT_7_2 : zT 7 2 = some (.if_icmp .lt 9, 3, 0, []) := by decide +kernel
theorem zr_7_2 {l0 l1 l2 : Option zV} {x y : Int} {st : List zV} {w : zW} {Q : Option zV → zW → Prop}  : zR 7 2 [l0, l1, l2] (.inl y :: .inl x :: st) w Q = (if zN x < zN y then zR 7 11 [l0, l1, l2] st w Q else zR 7 5 [l0, l1, l2] st w Q) := zR_if (zstB zT_7_2 rfl) (by simp [zcmp])
theorem zT_7_5 : zT 7 5 = some (.iload_n 2, 1, 0, []) := by decide +kernel
theorem zr_7_5 {l0 l1 : Option zV} {x : Int} {st : List zV} {w : zW} {Q : Option zV → zW → Prop}  : zR 7 5 [l0, l1, some (.inl x)] st w Q = zR 7 6 [l0, l1, some (.inl x)] (.inl x :: st) w Q := zR_go (zst zT_7_5 rfl)
theorem zT_7_6 : zT 7 6 = some (.bipush 32, 2, 0, []) := by decide +kernel
theorem zr_7_6 {l0 l1 l2 : Option zV} {st : List zV} {w : zW} {Q : Option zV → zW → Prop}  : zR 7 6 [l0, l1, l2] st w Q = zR 7 8 [l0, l1, l2] (.inl 32 :: st) w Q := zR_go (zst zT_7_6 rfl)
theorem zT_7_8 : zT 7 8 = some (.if_icmp .le 5, 3, 0, []) := by decide +kernel
theorem zr_7_8 {l0 l1 l2 : Option zV} {x y : Int} {st : List zV} {w : zW} {Q : Option zV → zW → Prop}  : zR 7 8 [l0, l1, l2] (.inl y :: .inl x :: st) w Q = (if zN x ≤ zN y then zR 7 13 [l0, l1, l2] st w Q else zR 7 11 [l0, l1, l2] st w Q) := zR_if (zstB zT_7_8 rfl) (by simp [zcmp])
theorem zT_7_11 : zT 7 11 = some (.iconst (-1), 1, 0, []) := by decide +kernel
theorem zr_7_11 {l0 l1 l2 : Option zV} {st : List zV} {w : zW} {Q : Option zV → zW → Prop}  : zR 7 11 [l0, l1, l2] st w Q = zR 7 12 [l0, l1, l2] (.inl (-1) :: st) w Q := zR_go (zst zT_7_11 rfl)
theorem zT_7_12 : zT 7 12 = some (.ireturn, 1, 0, []) := by decide +kernel
theorem zr_7_12 {l0 l1 l2 : Option zV} {x : Int} {w : zW} {Q : Option zV → zW → Prop}  : zR 7 12 [l0, l1, l2] [.inl x] w Q = Q (some (.inl x)) w := zR_ret (zst zT_7_12 rfl)
theorem zT_7_13 : zT 7 13 = some (.iload_n 1, 1, 0, []) := by decide +kernel
theorem zr_7_13 {l0 l2 : Option zV} {x : Int} {st : List zV} {w : zW} {Q : Option zV → zW → Prop}  : zR 7 13 [l0, some (.inl x), l2] st w Q = zR 7 14 [l0, some (.inl x), l2] (.inl x :: st) w Q := zR_go (zst zT_7_13 rfl)
theorem zT_7_14 : zT 7 14 = some (.bipush 9, 2, 0, []) := by decide +kernel
theorem zr_7_14 {l0 l1 l2 : Option zV} {st : List zV} {w : zW} {Q : Option zV → zW → Prop}  : zR 7 14 [l0, l1, l2] st w Q = zR 7 16 [l0, l1, l2] (.inl 9 :: st) w Q := zR_go (zst zT_7_14 rfl)
theorem zT_7_16 : zT 7 16 = some (.if_icmp .lt 9, 3, 0, []) := by decide +kernel
theorem zr_7_16 {l0 l1 l2 : Option zV} {x y : Int} {st : List zV} {w : zW} {Q : Option zV → zW → Prop}  : zR 7 16 [l0, l1, l2] (.inl y :: .inl x :: st) w Q = (if zN x < zN y then zR 7 25 [l0, l1, l2] st w Q else zR 7 19 [l0, l1, l2] st w Q) := zR_if (zstB zT_7_16 rfl) (by simp [zcmp])
theorem zT_7_19 : zT 7 19 = some (.iload_n 1, 1, 0, []) := by decide +kernel
theorem zr_7_19 {l0 l2 : Option zV} {x : Int} {st : List zV} {w : zW} {Q : Option zV → zW → Prop}  : zR 7 19 [l0, some (.inl x), l2] st w Q = zR 7 20 [l0, some (.inl x), l2] (.inl x :: st) w Q := zR_go (zst zT_7_19 rfl)
theorem zT_7_20 : zT 7 20 = some (.bipush 64, 2, 0, []) := by decide +kernel
theorem zr_7_20 {l0 l1 l2 : Option zV} {st : List zV} {w : zW} {Q : Option zV → zW → Prop}  : zR 7 20 [l0, l1, l2] st w Q = zR 7 22 [l0, l1, l2] (.inl 64 :: st) w Q := zR_go (zst zT_7_20 rfl)
theorem zT_7_22 : zT 7 22 = some (.if_icmp .lt 5, 3, 0, []) := by decide +kernel
theorem zr_7_22 {l0 l1 l2 : Option zV} {x y : Int} {st : List zV} {w : zW} {Q : Option zV → zW → Prop}  : zR 7 22 [l0, l1, l2] (.inl y :: .inl x :: st) w Q = (if zN x < zN y then zR 7 27 [l0, l1, l2] st w Q else zR 7 25 [l0, l1, l2] st w Q) := zR_if (zstB zT_7_22 rfl) (by simp [zcmp])
theorem zT_7_25 : zT 7 25 = some (.iconst (-1), 1, 0, []) := by decide +kernel
theorem zr_7_25 {l0 l1 l2 : Option zV} {st : List zV} {w : zW} {Q : Option zV → zW → Prop}  : zR 7 25 [l0, l1, l2] st w Q = zR 7 26 [l0, l1, l2] (.inl (-1) :: st) w Q := zR_go (zst zT_7_25 rfl)
theorem zT_7_26 : zT 7 26 = some (.ireturn, 1, 0, []) := by decide +kernel
theorem zr_7_26 {l0 l1 l2 : Option zV} {x : Int} {w : zW} {Q : Option zV → zW → Prop}  : zR 7 26 [l0, l1, l2] [.inl x] w Q = Q (some (.inl x)) w := zR_ret (zst zT_7_26 rfl)
theorem zT_7_27 : zT 7 27 = some (.aload_n 0, 1, 0, []) := by decide +kernel
theorem zr_7_27 {l1 l2 : Option zV} {x : Option Nat} {st : List zV} {w : zW} {Q : Option zV → zW → Prop}  : zR 7 27 [some (.inr x), l1, l2] st w Q = zR 7 28 [some (.inr x), l1, l2] (.inr x :: st) w Q := zR_go (zst zT_7_27 rfl)
theorem zT_7_28 : zT 7 28 = some (.getfield 30, 3, 0, [(0, 3)]) := by decide +kernel
theorem zr_7_28 {l0 l1 l2 : Option zV} {h : Nat} {st : List zV} {w : zW} {Q : Option zV → zW → Prop} (hk : zk w h = 0) : zR 7 28 [l0, l1, l2] (.inr (some h) :: st) w Q = zR 7 31 [l0, l1, l2] (.inr (zp w 3 h) :: st) w Q := zR_go (zst zT_7_28 (zget_r hk rfl))
theorem zT_7_31 : zT 7 31 = some (.iload_n 1, 1, 0, []) := by decide +kernel
theorem zr_7_31 {l0 l2 : Option zV} {x : Int} {st : List zV} {w : zW} {Q : Option zV → zW → Prop}  : zR 7 31 [l0, some (.inl x), l2] st w Q = zR 7 32 [l0, some (.inl x), l2] (.inl x :: st) w Q := zR_go (zst zT_7_31 rfl)
theorem zT_7_32 : zT 7 32 = some (.iload_n 2, 1, 0, []) := by decide +kernel
theorem zr_7_32 {l0 l1 : Option zV} {x : Int} {st : List zV} {w : zW} {Q : Option zV → zW → Prop}  : zR 7 32 [l0, l1, some (.inl x)] st w Q = zR 7 33 [l0, l1, some (.inl x)] (.inl x :: st) w Q := zR_go (zst zT_7_32 rfl)
theorem zT_7_33 : zT 7 33 = some (.invokevirtual 107, 3, 2, [(1, 104)]) := by decide +kernel
theorem zr_7_33 {l0 l1 l2 : Option zV} {a0 a1 : zV} {h : Nat} {st : List zV} {w : zW} {Q : Option zV → zW → Prop} (hs : st.length ≤ 8) (hk : zk w h = 1) : zR 7 33 [l0, l1, l2] (a1 :: a0 :: .inr (some h) :: st) w Q = zR 104 0 [some (.inr (some h)), some a0, some a1, none, none] [] w (fun r w2 => zR 7 36 [l0, l1, l2] (r.toList ++ st) w2 Q) := zR_call (zst zT_7_33 (zcall_v [a1, a0] rfl hs hk rfl))
theorem zT_7_36 : zT 7 36 = some (.ireturn, 1, 0, []) := by decide +kernel
theorem zr_7_36 {l0 l1 l2 : Option zV} {x : Int} {w : zW} {Q : Option zV → zW → Prop}  : zR 7 36 [l0, l1, l2] [.inl x] w Q = Q (some (.inl x)) w := zR_ret (zst zT_7_36 rfl)
theorem zT_8_0 : zT 8 0 = some (.aload_n 0, 1, 0, []) := by decide +kernel
theorem zr_8_0 {l1 l2 l3 : Option zV} {x : Option Nat} {st : List zV} {w : zW} {Q : Option zV → zW → Prop}  : zR 8 0 [some (.inr x), l1, l2, l3] st w Q = zR 8 1 [some (.inr x), l1, l2, l3] (.inr x :: st) w Q := zR_go (zst zT_8_0 rfl)
theorem zT_8_1 : zT 8 1 = some (.iload_n 1, 1, 0, []) := by decide +kernel
theorem zr_8_1 {l0 l2 l3 : Option zV} {x : Int} {st : List zV} {w : zW} {Q : Option zV → zW → Prop}  : zR 8 1 [l0, some (.inl x), l2, l3] st w Q = zR 8 2 [l0, some (.inl x), l2, l3] (.inl x :: st) w Q := zR_go (zst zT_8_1 rfl)
theorem zT_8_2 : zT 8 2 = some (.invokevirtual 111, 3, 1, [(0, 19)]) := by decide +kernel
theorem zr_8_2 {l0 l1 l2 l3 : Option zV} {a0 : zV} {h : Nat} {st : List zV} {w : zW} {Q : Option zV → zW → Prop} (hs : st.length ≤ 8) (hk : zk w h = 0) : zR 8 2 [l0, l1, l2, l3] (a0 :: .inr (some h) :: st) w Q = zR 19 0 [some (.inr (some h)), some a0] [] w (fun r w2 => zR 8 5 [l0, l1, l2, l3] (r.toList ++ st) w2 Q) := zR_call (zst zT_8_2 (zcall_v [a0] rfl hs hk rfl))
theorem zT_8_5 : zT 8 5 = some (.astore_n 3, 1, 0, []) := by decide +kernel
theorem zr_8_5 {l0 l1 l2 l3 : Option zV} {x : Option Nat} {st : List zV} {w : zW} {Q : Option zV → zW → Prop}  : zR 8 5 [l0, l1, l2, l3] (.inr x :: st) w Q = zR 8 6 [l0, l1, l2, some (.inr x)] st w Q := zR_go (zst zT_8_5 rfl)
theorem zT_8_6 : zT 8 6 = some (.aload_n 3, 1, 0, []) := by decide +kernel
theorem zr_8_6 {l0 l1 l2 : Option zV} {x : Option Nat} {st : List zV} {w : zW} {Q : Option zV → zW → Prop}  : zR 8 6 [l0, l1, l2, some (.inr x)] st w Q = zR 8 7 [l0, l1, l2, some (.inr x)] (.inr x :: st) w Q := zR_go (zst zT_8_6 rfl)
theorem zT_8_7 : zT 8 7 = some (.ifnull 17, 3, 0, []) := by decide +kernel
theorem zr_8_7n {l0 l1 l2 l3 : Option zV} {st : List zV} {w : zW} {Q : Option zV → zW → Prop}  : zR 8 7 [l0, l1, l2, l3] (.inr none :: st) w Q = zR 8 24 [l0, l1, l2, l3] st w Q := zR_go (zst zT_8_7 rfl)
theorem zr_8_7s {l0 l1 l2 l3 : Option zV} {h : Nat} {st : List zV} {w : zW} {Q : Option zV → zW → Prop}  : zR 8 7 [l0, l1, l2, l3] (.inr (some h) :: st) w Q = zR 8 10 [l0, l1, l2, l3] st w Q := zR_go (zst zT_8_7 rfl)
theorem zT_8_10 : zT 8 10 = some (.iload_n 2, 1, 0, []) := by decide +kernel
theorem zr_8_10 {l0 l1 l3 : Option zV} {x : Int} {st : List zV} {w : zW} {Q : Option zV → zW → Prop}  : zR 8 10 [l0, l1, some (.inl x), l3] st w Q = zR 8 11 [l0, l1, some (.inl x), l3] (.inl x :: st) w Q := zR_go (zst zT_8_10 rfl)
theorem zT_8_11 : zT 8 11 = some (.sipush (-32768), 3, 0, []) := by decide +kernel
theorem zr_8_11 {l0 l1 l2 l3 : Option zV} {st : List zV} {w : zW} {Q : Option zV → zW → Prop}  : zR 8 11 [l0, l1, l2, l3] st w Q = zR 8 14 [l0, l1, l2, l3] (.inl (-32768) :: st) w Q := zR_go (zst zT_8_11 rfl)
theorem zT_8_14 : zT 8 14 = some (.if_icmp .lt 10, 3, 0, []) := by decide +kernel
theorem zr_8_14 {l0 l1 l2 l3 : Option zV} {x y : Int} {st : List zV} {w : zW} {Q : Option zV → zW → Prop}  : zR 8 14 [l0, l1, l2, l3] (.inl y :: .inl x :: st) w Q = (if zN x < zN y then zR 8 24 [l0, l1, l2, l3] st w Q else zR 8 17 [l0, l1, l2, l3] st w Q) := zR_if (zstB zT_8_14 rfl) (by simp [zcmp])
theorem zT_8_17 : zT 8 17 = some (.iload_n 2, 1, 0, []) := by decide +kernel
theorem zr_8_17 {l0 l1 l3 : Option zV} {x : Int} {st : List zV} {w : zW} {Q : Option zV → zW → Prop}  : zR 8 17 [l0, l1, some (.inl x), l3] st w Q = zR 8 18 [l0, l1, some (.inl x), l3] (.inl x :: st) w Q := zR_go (zst zT_8_17 rfl)
theorem zT_8_18 : zT 8 18 = some (.sipush 32767, 3, 0, []) := by decide +kernel
theorem zr_8_18 {l0 l1 l2 l3 : Option zV} {st : List zV} {w : zW} {Q : Option zV → zW → Prop}  : zR 8 18 [l0, l1, l2, l3] st w Q = zR 8 21 [l0, l1, l2, l3] (.inl 32767 :: st) w Q := zR_go (zst zT_8_18 rfl)
theorem zT_8_21 : zT 8 21 = some (.if_icmp .le 5, 3, 0, []) := by decide +kernel
theorem zr_8_21 {l0 l1 l2 l3 : Option zV} {x y : Int} {st : List zV} {w : zW} {Q : Option zV → zW → Prop}  : zR 8 21 [l0, l1, l2, l3] (.inl y :: .inl x :: st) w Q = (if zN x ≤ zN y then zR 8 26 [l0, l1, l2, l3] st w Q else zR 8 24 [l0, l1, l2, l3] st w Q) := zR_if (zstB zT_8_21 rfl) (by simp [zcmp])
theorem zT_8_24 : zT 8 24 = some (.iconst 0, 1, 0, []) := by decide +kernel
theorem zr_8_24 {l0 l1 l2 l3 : Option zV} {st : List zV} {w : zW} {Q : Option zV → zW → Prop}  : zR 8 24 [l0, l1, l2, l3] st w Q = zR 8 25 [l0, l1, l2, l3] (.inl 0 :: st) w Q := zR_go (zst zT_8_24 rfl)
theorem zT_8_25 : zT 8 25 = some (.ireturn, 1, 0, []) := by decide +kernel
theorem zr_8_25 {l0 l1 l2 l3 : Option zV} {x : Int} {w : zW} {Q : Option zV → zW → Prop} (hx : zN x = 0 ∨ zN x = 1) : zR 8 25 [l0, l1, l2, l3] [.inl x] w Q = Q (some (.inl x)) w := zR_ret (zst zT_8_25 (if_pos (Or.inr ⟨rfl, hx⟩)))
theorem zT_8_26 : zT 8 26 = some (.aload_n 3, 1, 0, []) := by decide +kernel
theorem zr_8_26 {l0 l1 l2 : Option zV} {x : Option Nat} {st : List zV} {w : zW} {Q : Option zV → zW → Prop}  : zR 8 26 [l0, l1, l2, some (.inr x)] st w Q = zR 8 27 [l0, l1, l2, some (.inr x)] (.inr x :: st) w Q := zR_go (zst zT_8_26 rfl)
theorem zT_8_27 : zT 8 27 = some (.iload_n 2, 1, 0, []) := by decide +kernel
theorem zr_8_27 {l0 l1 l3 : Option zV} {x : Int} {st : List zV} {w : zW} {Q : Option zV → zW → Prop}  : zR 8 27 [l0, l1, some (.inl x), l3] st w Q = zR 8 28 [l0, l1, some (.inl x), l3] (.inl x :: st) w Q := zR_go (zst zT_8_27 rfl)
theorem zT_8_28 : zT 8 28 = some (.putfield 115, 3, 0, [(4, 1), (8, 0)]) := by decide +kernel
theorem zr_8_28c4 {l0 l1 l2 l3 : Option zV} {h : Nat} {x : Int} {st : List zV} {w : zW} {Q : Option zV → zW → Prop} (hk : zk w h = 4) : zR 8 28 [l0, l1, l2, l3] (.inl x :: .inr (some h) :: st) w Q = zR 8 31 [l0, l1, l2, l3] st (zsf w 32 h x) Q := zR_go (zst zT_8_28 (zput_i hk rfl))
theorem zr_8_28c8 {l0 l1 l2 l3 : Option zV} {h : Nat} {x : Int} {st : List zV} {w : zW} {Q : Option zV → zW → Prop} (hk : zk w h = 8) : zR 8 28 [l0, l1, l2, l3] (.inl x :: .inr (some h) :: st) w Q = zR 8 31 [l0, l1, l2, l3] st (zsf w 32 h x) Q := zR_go (zst zT_8_28 (zput_i hk rfl))
theorem zT_8_31 : zT 8 31 = some (.aload_n 3, 1, 0, []) := by decide +kernel
theorem zr_8_31 {l0 l1 l2 : Option zV} {x : Option Nat} {st : List zV} {w : zW} {Q : Option zV → zW → Prop}  : zR 8 31 [l0, l1, l2, some (.inr x)] st w Q = zR 8 32 [l0, l1, l2, some (.inr x)] (.inr x :: st) w Q := zR_go (zst zT_8_31 rfl)
theorem zT_8_32 : zT 8 32 = some (.invokevirtual 118, 3, 0, [(4, 148), (8, 148)]) := by decide +kernel
theorem zr_8_32c4 {l0 l1 l2 l3 : Option zV} {h : Nat} {st : List zV} {w : zW} {Q : Option zV → zW → Prop} (hs : st.length ≤ 8) (hk : zk w h = 4) : zR 8 32 [l0, l1, l2, l3] (.inr (some h) :: st) w Q = zR 148 0 [some (.inr (some h)), none] [] w (fun r w2 => zR 8 35 [l0, l1, l2, l3] (r.toList ++ st) w2 Q) := zR_call (zst zT_8_32 (zcall_v [] rfl hs hk rfl))
theorem zr_8_32c8 {l0 l1 l2 l3 : Option zV} {h : Nat} {st : List zV} {w : zW} {Q : Option zV → zW → Prop} (hs : st.length ≤ 8) (hk : zk w h = 8) : zR 8 32 [l0, l1, l2, l3] (.inr (some h) :: st) w Q = zR 148 0 [some (.inr (some h)), none] [] w (fun r w2 => zR 8 35 [l0, l1, l2, l3] (r.toList ++ st) w2 Q) := zR_call (zst zT_8_32 (zcall_v [] rfl hs hk rfl))
theorem zT_8_35 : zT 8 35 = some (.iconst 1, 1, 0, []) := by decide +kernel
theorem zr_8_35 {l0 l1 l2 l3 : Option zV} {st : List zV} {w : zW} {Q : Option zV → zW → Prop}  : zR 8 35 [l0, l1, l2, l3] st w Q = zR 8 36 [l0, l1, l2, l3] (.inl 1 :: st) w Q := zR_go (zst zT_8_35 rfl)
theorem zT_8_36 : zT 8 36 = some (.ireturn, 1, 0, []) := by decide +kernel
theorem zr_8_36 {l0 l1 l2 l3 : Option zV} {x : Int} {w : zW} {Q : Option zV → zW → Prop} (hx : zN x = 0 ∨ zN x = 1) : zR 8 36 [l0, l1, l2, l3] [.inl x] w Q = Q (some (.inl x)) w := zR_ret (zst zT_8_36 (if_pos (Or.inr ⟨rfl, hx⟩)))
theorem zT_9_0 : zT 9 0 = some (.iload_n 1, 1, 0, []) := by decide +kernel
theorem zr_9_0 {l0 l2 l3 : Option zV} {x : Int} {st : List zV} {w : zW} {Q : Option zV → zW → Prop}  : zR 9 0 [l0, some (.inl x), l2, l3] st w Q = zR 9 1 [l0, some (.inl x), l2, l3] (.inl x :: st) w Q := zR_go (zst zT_9_0 rfl)
theorem zT_9_1 : zT 9 1 = some (.invokestatic 65, 3, 1, [(17, 1)]) := by decide +kernel
theorem zr_9_1 {l0 l1 l2 l3 : Option zV} {a0 : zV} {st : List zV} {w : zW} {Q : Option zV → zW → Prop} (hs : st.length ≤ 8) : zR 9 1 [l0, l1, l2, l3] (a0 :: st) w Q = zR 17 0 [some a0] [] w (fun r w2 => zR 9 4 [l0, l1, l2, l3] (r.toList ++ st) w2 Q) := zR_call (zst zT_9_1 ((zcall_s (z := 1) (pc := 1) (j := 17) (ls := [l0, l1, l2, l3]) (w := w) [a0] rfl hs : zi_static 1 [(17, 1)] 1 [l0, l1, l2, l3] ([a0] ++ st) w = _)))
theorem zT_9_4 : zT 9 4 = some (.ifCond .ne 5, 3, 0, []) := by decide +kernel
theorem zr_9_4 {l0 l1 l2 l3 : Option zV} {x : Int} {st : List zV} {w : zW} {Q : Option zV → zW → Prop}  : zR 9 4 [l0, l1, l2, l3] (.inl x :: st) w Q = (if zN x ≠ 0 then zR 9 9 [l0, l1, l2, l3] st w Q else zR 9 7 [l0, l1, l2, l3] st w Q) := zR_if (zstB zT_9_4 rfl) (by simp [zcmp])
theorem zT_9_7 : zT 9 7 = some (.iconst (-1), 1, 0, []) := by decide +kernel
theorem zr_9_7 {l0 l1 l2 l3 : Option zV} {st : List zV} {w : zW} {Q : Option zV → zW → Prop}  : zR 9 7 [l0, l1, l2, l3] st w Q = zR 9 8 [l0, l1, l2, l3] (.inl (-1) :: st) w Q := zR_go (zst zT_9_7 rfl)
theorem zT_9_8 : zT 9 8 = some (.ireturn, 1, 0, []) := by decide +kernel
theorem zr_9_8 {l0 l1 l2 l3 : Option zV} {x : Int} {w : zW} {Q : Option zV → zW → Prop}  : zR 9 8 [l0, l1, l2, l3] [.inl x] w Q = Q (some (.inl x)) w := zR_ret (zst zT_9_8 rfl)
theorem zT_9_9 : zT 9 9 = some (.aload_n 0, 1, 0, []) := by decide +kernel
theorem zr_9_9 {l1 l2 l3 : Option zV} {x : Option Nat} {st : List zV} {w : zW} {Q : Option zV → zW → Prop}  : zR 9 9 [some (.inr x), l1, l2, l3] st w Q = zR 9 10 [some (.inr x), l1, l2, l3] (.inr x :: st) w Q := zR_go (zst zT_9_9 rfl)
theorem zT_9_10 : zT 9 10 = some (.getfield 11, 3, 0, [(0, 0)]) := by decide +kernel
theorem zr_9_10 {l0 l1 l2 l3 : Option zV} {h : Nat} {st : List zV} {w : zW} {Q : Option zV → zW → Prop} (hk : zk w h = 0) : zR 9 10 [l0, l1, l2, l3] (.inr (some h) :: st) w Q = zR 9 13 [l0, l1, l2, l3] (.inr (zp w 0 h) :: st) w Q := zR_go (zst zT_9_10 (zget_r hk rfl))
theorem zT_9_13 : zT 9 13 = some (.iload_n 1, 1, 0, []) := by decide +kernel
theorem zr_9_13 {l0 l2 l3 : Option zV} {x : Int} {st : List zV} {w : zW} {Q : Option zV → zW → Prop}  : zR 9 13 [l0, some (.inl x), l2, l3] st w Q = zR 9 14 [l0, some (.inl x), l2, l3] (.inl x :: st) w Q := zR_go (zst zT_9_13 rfl)
theorem zT_9_14 : zT 9 14 = some (.aaload, 1, 0, []) := by decide +kernel
theorem zr_9_14 {l0 l1 l2 l3 : Option zV} {j : Int} {h : Nat} {st : List zV} {w : zW} {Q : Option zV → zW → Prop} (hk : zNC + 2 < zk w h ∧ zk w h < 1000 ∧ 0 ≤ zN j ∧ zN j < zl w h) : zR 9 14 [l0, l1, l2, l3] (.inl j :: .inr (some h) :: st) w Q = zR 9 15 [l0, l1, l2, l3] (.inr (zb w h (zN j).toNat) :: st) w Q := zR_go (zst zT_9_14 (if_pos hk))
theorem zT_9_15 : zT 9 15 = some (.getfield 74, 3, 0, [(5, 2)]) := by decide +kernel
theorem zr_9_15 {l0 l1 l2 l3 : Option zV} {h : Nat} {st : List zV} {w : zW} {Q : Option zV → zW → Prop} (hk : zk w h = 5) : zR 9 15 [l0, l1, l2, l3] (.inr (some h) :: st) w Q = zR 9 18 [l0, l1, l2, l3] (.inr (zp w 43 h) :: st) w Q := zR_go (zst zT_9_15 (zget_r hk rfl))
theorem zT_9_18 : zT 9 18 = some (.astore_n 3, 1, 0, []) := by decide +kernel
theorem zr_9_18 {l0 l1 l2 l3 : Option zV} {x : Option Nat} {st : List zV} {w : zW} {Q : Option zV → zW → Prop}  : zR 9 18 [l0, l1, l2, l3] (.inr x :: st) w Q = zR 9 19 [l0, l1, l2, some (.inr x)] st w Q := zR_go (zst zT_9_18 rfl)
theorem zT_9_19 : zT 9 19 = some (.iload_n 2, 1, 0, []) := by decide +kernel
theorem zr_9_19 {l0 l1 l3 : Option zV} {x : Int} {st : List zV} {w : zW} {Q : Option zV → zW → Prop}  : zR 9 19 [l0, l1, some (.inl x), l3] st w Q = zR 9 20 [l0, l1, some (.inl x), l3] (.inl x :: st) w Q := zR_go (zst zT_9_19 rfl)
theorem zT_9_20 : zT 9 20 = some (.tableswitch 43 0 2 #[28, 33, 38], 28, 0, []) := by decide +kernel
theorem zr_9_20k0 {l0 l1 l2 l3 : Option zV} {x : Int} {st : List zV} {w : zW} {Q : Option zV → zW → Prop} (hx : zN x = 0) : zR 9 20 [l0, l1, l2, l3] (.inl x :: st) w Q = zR 9 48 [l0, l1, l2, l3] st w Q := zR_go (zst zT_9_20 (by simp [zins, zi_table, zgo, zto, hx]))
theorem zr_9_20k1 {l0 l1 l2 l3 : Option zV} {x : Int} {st : List zV} {w : zW} {Q : Option zV → zW → Prop} (hx : zN x = 1) : zR 9 20 [l0, l1, l2, l3] (.inl x :: st) w Q = zR 9 53 [l0, l1, l2, l3] st w Q := zR_go (zst zT_9_20 (by simp [zins, zi_table, zgo, zto, hx]))
theorem zr_9_20k2 {l0 l1 l2 l3 : Option zV} {x : Int} {st : List zV} {w : zW} {Q : Option zV → zW → Prop} (hx : zN x = 2) : zR 9 20 [l0, l1, l2, l3] (.inl x :: st) w Q = zR 9 58 [l0, l1, l2, l3] st w Q := zR_go (zst zT_9_20 (by simp [zins, zi_table, zgo, zto, hx]))
theorem zr_9_20d {l0 l1 l2 l3 : Option zV} {x : Int} {st : List zV} {w : zW} {Q : Option zV → zW → Prop} (hx : zN x < 0 ∨ 2 < zN x) : zR 9 20 [l0, l1, l2, l3] (.inl x :: st) w Q = zR 9 63 [l0, l1, l2, l3] st w Q := zR_go (zst zT_9_20 (by simp [zins, zi_table, zgo, zto, hx]))
theorem zT_9_48 : zT 9 48 = some (.aload_n 3, 1, 0, []) := by decide +kernel
theorem zr_9_48 {l0 l1 l2 : Option zV} {x : Option Nat} {st : List zV} {w : zW} {Q : Option zV → zW → Prop}  : zR 9 48 [l0, l1, l2, some (.inr x)] st w Q = zR 9 49 [l0, l1, l2, some (.inr x)] (.inr x :: st) w Q := zR_go (zst zT_9_48 rfl)
theorem zT_9_49 : zT 9 49 = some (.getfield 121, 3, 0, [(6, 0)]) := by decide +kernel
theorem zr_9_49 {l0 l1 l2 l3 : Option zV} {h : Nat} {st : List zV} {w : zW} {Q : Option zV → zW → Prop} (hk : zk w h = 6) : zR 9 49 [l0, l1, l2, l3] (.inr (some h) :: st) w Q = zR 9 52 [l0, l1, l2, l3] (.inl (zf w 48 h) :: st) w Q := zR_go (zst zT_9_49 (zget_i hk (Or.inl rfl)))
theorem zT_9_52 : zT 9 52 = some (.ireturn, 1, 0, []) := by decide +kernel
theorem zr_9_52 {l0 l1 l2 l3 : Option zV} {x : Int} {w : zW} {Q : Option zV → zW → Prop}  : zR 9 52 [l0, l1, l2, l3] [.inl x] w Q = Q (some (.inl x)) w := zR_ret (zst zT_9_52 rfl)
theorem zT_9_53 : zT 9 53 = some (.aload_n 3, 1, 0, []) := by decide +kernel
theorem zr_9_53 {l0 l1 l2 : Option zV} {x : Option Nat} {st : List zV} {w : zW} {Q : Option zV → zW → Prop}  : zR 9 53 [l0, l1, l2, some (.inr x)] st w Q = zR 9 54 [l0, l1, l2, some (.inr x)] (.inr x :: st) w Q := zR_go (zst zT_9_53 rfl)
theorem zT_9_54 : zT 9 54 = some (.getfield 124, 3, 0, [(6, 1)]) := by decide +kernel
theorem zr_9_54 {l0 l1 l2 l3 : Option zV} {h : Nat} {st : List zV} {w : zW} {Q : Option zV → zW → Prop} (hk : zk w h = 6) : zR 9 54 [l0, l1, l2, l3] (.inr (some h) :: st) w Q = zR 9 57 [l0, l1, l2, l3] (.inl (zf w 49 h) :: st) w Q := zR_go (zst zT_9_54 (zget_i hk (Or.inl rfl)))
theorem zT_9_57 : zT 9 57 = some (.ireturn, 1, 0, []) := by decide +kernel
theorem zr_9_57 {l0 l1 l2 l3 : Option zV} {x : Int} {w : zW} {Q : Option zV → zW → Prop}  : zR 9 57 [l0, l1, l2, l3] [.inl x] w Q = Q (some (.inl x)) w := zR_ret (zst zT_9_57 rfl)
theorem zT_9_58 : zT 9 58 = some (.aload_n 3, 1, 0, []) := by decide +kernel
theorem zr_9_58 {l0 l1 l2 : Option zV} {x : Option Nat} {st : List zV} {w : zW} {Q : Option zV → zW → Prop}  : zR 9 58 [l0, l1, l2, some (.inr x)] st w Q = zR 9 59 [l0, l1, l2, some (.inr x)] (.inr x :: st) w Q := zR_go (zst zT_9_58 rfl)
theorem zT_9_59 : zT 9 59 = some (.getfield 127, 3, 0, [(6, 2)]) := by decide +kernel
theorem zr_9_59 {l0 l1 l2 l3 : Option zV} {h : Nat} {st : List zV} {w : zW} {Q : Option zV → zW → Prop} (hk : zk w h = 6) : zR 9 59 [l0, l1, l2, l3] (.inr (some h) :: st) w Q = zR 9 62 [l0, l1, l2, l3] (.inl (zf w 50 h) :: st) w Q := zR_go (zst zT_9_59 (zget_i hk (Or.inl rfl)))
theorem zT_9_62 : zT 9 62 = some (.ireturn, 1, 0, []) := by decide +kernel
theorem zr_9_62 {l0 l1 l2 l3 : Option zV} {x : Int} {w : zW} {Q : Option zV → zW → Prop}  : zR 9 62 [l0, l1, l2, l3] [.inl x] w Q = Q (some (.inl x)) w := zR_ret (zst zT_9_62 rfl)
theorem zT_9_63 : zT 9 63 = some (.iconst (-1), 1, 0, []) := by decide +kernel
theorem zr_9_63 {l0 l1 l2 l3 : Option zV} {st : List zV} {w : zW} {Q : Option zV → zW → Prop}  : zR 9 63 [l0, l1, l2, l3] st w Q = zR 9 64 [l0, l1, l2, l3] (.inl (-1) :: st) w Q := zR_go (zst zT_9_63 rfl)
theorem zT_9_64 : zT 9 64 = some (.ireturn, 1, 0, []) := by decide +kernel
theorem zr_9_64 {l0 l1 l2 l3 : Option zV} {x : Int} {w : zW} {Q : Option zV → zW → Prop}  : zR 9 64 [l0, l1, l2, l3] [.inl x] w Q = Q (some (.inl x)) w := zR_ret (zst zT_9_64 rfl)
theorem zT_10_0 : zT 10 0 = some (.iload_n 1, 1, 0, []) := by decide +kernel
theorem zr_10_0 {l0 l2 l3 : Option zV} {x : Int} {st : List zV} {w : zW} {Q : Option zV → zW → Prop}  : zR 10 0 [l0, some (.inl x), l2, l3] st w Q = zR 10 1 [l0, some (.inl x), l2, l3] (.inl x :: st) w Q := zR_go (zst zT_10_0 rfl)
theorem zT_10_1 : zT 10 1 = some (.ifCond .lt 22, 3, 0, []) := by decide +kernel
theorem zr_10_1 {l0 l1 l2 l3 : Option zV} {x : Int} {st : List zV} {w : zW} {Q : Option zV → zW → Prop}  : zR 10 1 [l0, l1, l2, l3] (.inl x :: st) w Q = (if zN x < 0 then zR 10 23 [l0, l1, l2, l3] st w Q else zR 10 4 [l0, l1, l2, l3] st w Q) := zR_if (zstB zT_10_1 rfl) (by simp [zcmp])
theorem zT_10_4 : zT 10 4 = some (.iload_n 1, 1, 0, []) := by decide +kernel
theorem zr_10_4 {l0 l2 l3 : Option zV} {x : Int} {st : List zV} {w : zW} {Q : Option zV → zW → Prop}  : zR 10 4 [l0, some (.inl x), l2, l3] st w Q = zR 10 5 [l0, some (.inl x), l2, l3] (.inl x :: st) w Q := zR_go (zst zT_10_4 rfl)
theorem zT_10_5 : zT 10 5 = some (.bipush 7, 2, 0, []) := by decide +kernel
theorem zr_10_5 {l0 l1 l2 l3 : Option zV} {st : List zV} {w : zW} {Q : Option zV → zW → Prop}  : zR 10 5 [l0, l1, l2, l3] st w Q = zR 10 7 [l0, l1, l2, l3] (.inl 7 :: st) w Q := zR_go (zst zT_10_5 rfl)
theorem zT_10_7 : zT 10 7 = some (.if_icmp .ge 16, 3, 0, []) := by decide +kernel
theorem zr_10_7 {l0 l1 l2 l3 : Option zV} {x y : Int} {st : List zV} {w : zW} {Q : Option zV → zW → Prop}  : zR 10 7 [l0, l1, l2, l3] (.inl y :: .inl x :: st) w Q = (if zN y ≤ zN x then zR 10 23 [l0, l1, l2, l3] st w Q else zR 10 10 [l0, l1, l2, l3] st w Q) := zR_if (zstB zT_10_7 rfl) (by simp [zcmp])
theorem zT_10_10 : zT 10 10 = some (.aload_n 0, 1, 0, []) := by decide +kernel
theorem zr_10_10 {l1 l2 l3 : Option zV} {x : Option Nat} {st : List zV} {w : zW} {Q : Option zV → zW → Prop}  : zR 10 10 [some (.inr x), l1, l2, l3] st w Q = zR 10 11 [some (.inr x), l1, l2, l3] (.inr x :: st) w Q := zR_go (zst zT_10_10 rfl)
theorem zT_10_11 : zT 10 11 = some (.getfield 17, 3, 0, [(0, 1)]) := by decide +kernel
theorem zr_10_11 {l0 l1 l2 l3 : Option zV} {h : Nat} {st : List zV} {w : zW} {Q : Option zV → zW → Prop} (hk : zk w h = 0) : zR 10 11 [l0, l1, l2, l3] (.inr (some h) :: st) w Q = zR 10 14 [l0, l1, l2, l3] (.inr (zp w 1 h) :: st) w Q := zR_go (zst zT_10_11 (zget_r hk rfl))
theorem zT_10_14 : zT 10 14 = some (.iload_n 1, 1, 0, []) := by decide +kernel
theorem zr_10_14 {l0 l2 l3 : Option zV} {x : Int} {st : List zV} {w : zW} {Q : Option zV → zW → Prop}  : zR 10 14 [l0, some (.inl x), l2, l3] st w Q = zR 10 15 [l0, some (.inl x), l2, l3] (.inl x :: st) w Q := zR_go (zst zT_10_14 rfl)
theorem zT_10_15 : zT 10 15 = some (.aaload, 1, 0, []) := by decide +kernel
theorem zr_10_15 {l0 l1 l2 l3 : Option zV} {j : Int} {h : Nat} {st : List zV} {w : zW} {Q : Option zV → zW → Prop} (hk : zNC + 2 < zk w h ∧ zk w h < 1000 ∧ 0 ≤ zN j ∧ zN j < zl w h) : zR 10 15 [l0, l1, l2, l3] (.inl j :: .inr (some h) :: st) w Q = zR 10 16 [l0, l1, l2, l3] (.inr (zb w h (zN j).toNat) :: st) w Q := zR_go (zst zT_10_15 (if_pos hk))
theorem zT_10_16 : zT 10 16 = some (.getfield 61, 3, 0, [(1, 9), (4, 11), (8, 10)]) := by decide +kernel
theorem zr_10_16c1 {l0 l1 l2 l3 : Option zV} {h : Nat} {st : List zV} {w : zW} {Q : Option zV → zW → Prop} (hk : zk w h = 1) : zR 10 16 [l0, l1, l2, l3] (.inr (some h) :: st) w Q = zR 10 19 [l0, l1, l2, l3] (.inl (zf w 15 h) :: st) w Q := zR_go (zst zT_10_16 (zget_i hk (Or.inl rfl)))
theorem zr_10_16c4 {l0 l1 l2 l3 : Option zV} {h : Nat} {st : List zV} {w : zW} {Q : Option zV → zW → Prop} (hk : zk w h = 4) : zR 10 16 [l0, l1, l2, l3] (.inr (some h) :: st) w Q = zR 10 19 [l0, l1, l2, l3] (.inl (zf w 15 h) :: st) w Q := zR_go (zst zT_10_16 (zget_i hk (Or.inl rfl)))
theorem zr_10_16c8 {l0 l1 l2 l3 : Option zV} {h : Nat} {st : List zV} {w : zW} {Q : Option zV → zW → Prop} (hk : zk w h = 8) : zR 10 16 [l0, l1, l2, l3] (.inr (some h) :: st) w Q = zR 10 19 [l0, l1, l2, l3] (.inl (zf w 15 h) :: st) w Q := zR_go (zst zT_10_16 (zget_i hk (Or.inl rfl)))
theorem zT_10_19 : zT 10 19 = some (.iconst (-1), 1, 0, []) := by decide +kernel
theorem zr_10_19 {l0 l1 l2 l3 : Option zV} {st : List zV} {w : zW} {Q : Option zV → zW → Prop}  : zR 10 19 [l0, l1, l2, l3] st w Q = zR 10 20 [l0, l1, l2, l3] (.inl (-1) :: st) w Q := zR_go (zst zT_10_19 rfl)
theorem zT_10_20 : zT 10 20 = some (.if_icmp .ne 5, 3, 0, []) := by decide +kernel
theorem zr_10_20 {l0 l1 l2 l3 : Option zV} {x y : Int} {st : List zV} {w : zW} {Q : Option zV → zW → Prop}  : zR 10 20 [l0, l1, l2, l3] (.inl y :: .inl x :: st) w Q = (if zN x ≠ zN y then zR 10 25 [l0, l1, l2, l3] st w Q else zR 10 23 [l0, l1, l2, l3] st w Q) := zR_if (zstB zT_10_20 rfl) (by simp [zcmp])
theorem zT_10_23 : zT 10 23 = some (.iconst (-1), 1, 0, []) := by decide +kernel
theorem zr_10_23 {l0 l1 l2 l3 : Option zV} {st : List zV} {w : zW} {Q : Option zV → zW → Prop}  : zR 10 23 [l0, l1, l2, l3] st w Q = zR 10 24 [l0, l1, l2, l3] (.inl (-1) :: st) w Q := zR_go (zst zT_10_23 rfl)
theorem zT_10_24 : zT 10 24 = some (.ireturn, 1, 0, []) := by decide +kernel
theorem zr_10_24 {l0 l1 l2 l3 : Option zV} {x : Int} {w : zW} {Q : Option zV → zW → Prop}  : zR 10 24 [l0, l1, l2, l3] [.inl x] w Q = Q (some (.inl x)) w := zR_ret (zst zT_10_24 rfl)
theorem zT_10_25 : zT 10 25 = some (.aload_n 0, 1, 0, []) := by decide +kernel
theorem zr_10_25 {l1 l2 l3 : Option zV} {x : Option Nat} {st : List zV} {w : zW} {Q : Option zV → zW → Prop}  : zR 10 25 [some (.inr x), l1, l2, l3] st w Q = zR 10 26 [some (.inr x), l1, l2, l3] (.inr x :: st) w Q := zR_go (zst zT_10_25 rfl)
theorem zT_10_26 : zT 10 26 = some (.getfield 17, 3, 0, [(0, 1)]) := by decide +kernel
theorem zr_10_26 {l0 l1 l2 l3 : Option zV} {h : Nat} {st : List zV} {w : zW} {Q : Option zV → zW → Prop} (hk : zk w h = 0) : zR 10 26 [l0, l1, l2, l3] (.inr (some h) :: st) w Q = zR 10 29 [l0, l1, l2, l3] (.inr (zp w 1 h) :: st) w Q := zR_go (zst zT_10_26 (zget_r hk rfl))
theorem zT_10_29 : zT 10 29 = some (.iload_n 1, 1, 0, []) := by decide +kernel
theorem zr_10_29 {l0 l2 l3 : Option zV} {x : Int} {st : List zV} {w : zW} {Q : Option zV → zW → Prop}  : zR 10 29 [l0, some (.inl x), l2, l3] st w Q = zR 10 30 [l0, some (.inl x), l2, l3] (.inl x :: st) w Q := zR_go (zst zT_10_29 rfl)
theorem zT_10_30 : zT 10 30 = some (.aaload, 1, 0, []) := by decide +kernel
theorem zr_10_30 {l0 l1 l2 l3 : Option zV} {j : Int} {h : Nat} {st : List zV} {w : zW} {Q : Option zV → zW → Prop} (hk : zNC + 2 < zk w h ∧ zk w h < 1000 ∧ 0 ≤ zN j ∧ zN j < zl w h) : zR 10 30 [l0, l1, l2, l3] (.inl j :: .inr (some h) :: st) w Q = zR 10 31 [l0, l1, l2, l3] (.inr (zb w h (zN j).toNat) :: st) w Q := zR_go (zst zT_10_30 (if_pos hk))
theorem zT_10_31 : zT 10 31 = some (.getfield 130, 3, 0, [(1, 8), (4, 10), (8, 9)]) := by decide +kernel
theorem zr_10_31c1 {l0 l1 l2 l3 : Option zV} {h : Nat} {st : List zV} {w : zW} {Q : Option zV → zW → Prop} (hk : zk w h = 1) : zR 10 31 [l0, l1, l2, l3] (.inr (some h) :: st) w Q = zR 10 34 [l0, l1, l2, l3] (.inr (zp w 14 h) :: st) w Q := zR_go (zst zT_10_31 (zget_r hk rfl))
theorem zr_10_31c4 {l0 l1 l2 l3 : Option zV} {h : Nat} {st : List zV} {w : zW} {Q : Option zV → zW → Prop} (hk : zk w h = 4) : zR 10 31 [l0, l1, l2, l3] (.inr (some h) :: st) w Q = zR 10 34 [l0, l1, l2, l3] (.inr (zp w 14 h) :: st) w Q := zR_go (zst zT_10_31 (zget_r hk rfl))
theorem zr_10_31c8 {l0 l1 l2 l3 : Option zV} {h : Nat} {st : List zV} {w : zW} {Q : Option zV → zW → Prop} (hk : zk w h = 8) : zR 10 31 [l0, l1, l2, l3] (.inr (some h) :: st) w Q = zR 10 34 [l0, l1, l2, l3] (.inr (zp w 14 h) :: st) w Q := zR_go (zst zT_10_31 (zget_r hk rfl))
theorem zT_10_34 : zT 10 34 = some (.astore_n 3, 1, 0, []) := by decide +kernel
theorem zr_10_34 {l0 l1 l2 l3 : Option zV} {x : Option Nat} {st : List zV} {w : zW} {Q : Option zV → zW → Prop}  : zR 10 34 [l0, l1, l2, l3] (.inr x :: st) w Q = zR 10 35 [l0, l1, l2, some (.inr x)] st w Q := zR_go (zst zT_10_34 rfl)
theorem zT_10_35 : zT 10 35 = some (.iload_n 2, 1, 0, []) := by decide +kernel
theorem zr_10_35 {l0 l1 l3 : Option zV} {x : Int} {st : List zV} {w : zW} {Q : Option zV → zW → Prop}  : zR 10 35 [l0, l1, some (.inl x), l3] st w Q = zR 10 36 [l0, l1, some (.inl x), l3] (.inl x :: st) w Q := zR_go (zst zT_10_35 rfl)
theorem zT_10_36 : zT 10 36 = some (.tableswitch 116 0 7 #[48, 58, 63, 68, 81, 86, 91, 111], 48, 0, []) := by decide +kernel
theorem zr_10_36k0 {l0 l1 l2 l3 : Option zV} {x : Int} {st : List zV} {w : zW} {Q : Option zV → zW → Prop} (hx : zN x = 0) : zR 10 36 [l0, l1, l2, l3] (.inl x :: st) w Q = zR 10 84 [l0, l1, l2, l3] st w Q := zR_go (zst zT_10_36 (by simp [zins, zi_table, zgo, zto, hx]))
theorem zr_10_36k1 {l0 l1 l2 l3 : Option zV} {x : Int} {st : List zV} {w : zW} {Q : Option zV → zW → Prop} (hx : zN x = 1) : zR 10 36 [l0, l1, l2, l3] (.inl x :: st) w Q = zR 10 94 [l0, l1, l2, l3] st w Q := zR_go (zst zT_10_36 (by simp [zins, zi_table, zgo, zto, hx]))
theorem zr_10_36k2 {l0 l1 l2 l3 : Option zV} {x : Int} {st : List zV} {w : zW} {Q : Option zV → zW → Prop} (hx : zN x = 2) : zR 10 36 [l0, l1, l2, l3] (.inl x :: st) w Q = zR 10 99 [l0, l1, l2, l3] st w Q := zR_go (zst zT_10_36 (by simp [zins, zi_table, zgo, zto, hx]))
theorem zr_10_36k3 {l0 l1 l2 l3 : Option zV} {x : Int} {st : List zV} {w : zW} {Q : Option zV → zW → Prop} (hx : zN x = 3) : zR 10 36 [l0, l1, l2, l3] (.inl x :: st) w Q = zR 10 104 [l0, l1, l2, l3] st w Q := zR_go (zst zT_10_36 (by simp [zins, zi_table, zgo, zto, hx]))
theorem zr_10_36k4 {l0 l1 l2 l3 : Option zV} {x : Int} {st : List zV} {w : zW} {Q : Option zV → zW → Prop} (hx : zN x = 4) : zR 10 36 [l0, l1, l2, l3] (.inl x :: st) w Q = zR 10 117 [l0, l1, l2, l3] st w Q := zR_go (zst zT_10_36 (by simp [zins, zi_table, zgo, zto, hx]))
theorem zr_10_36k5 {l0 l1 l2 l3 : Option zV} {x : Int} {st : List zV} {w : zW} {Q : Option zV → zW → Prop} (hx : zN x = 5) : zR 10 36 [l0, l1, l2, l3] (.inl x :: st) w Q = zR 10 122 [l0, l1, l2, l3] st w Q := zR_go (zst zT_10_36 (by simp [zins, zi_table, zgo, zto, hx]))
theorem zr_10_36k6 {l0 l1 l2 l3 : Option zV} {x : Int} {st : List zV} {w : zW} {Q : Option zV → zW → Prop} (hx : zN x = 6) : zR 10 36 [l0, l1, l2, l3] (.inl x :: st) w Q = zR 10 127 [l0, l1, l2, l3] st w Q := zR_go (zst zT_10_36 (by simp [zins, zi_table, zgo, zto, hx]))
theorem zr_10_36k7 {l0 l1 l2 l3 : Option zV} {x : Int} {st : List zV} {w : zW} {Q : Option zV → zW → Prop} (hx : zN x = 7) : zR 10 36 [l0, l1, l2, l3] (.inl x :: st) w Q = zR 10 147 [l0, l1, l2, l3] st w Q := zR_go (zst zT_10_36 (by simp [zins, zi_table, zgo, zto, hx]))
theorem zr_10_36d {l0 l1 l2 l3 : Option zV} {x : Int} {st : List zV} {w : zW} {Q : Option zV → zW → Prop} (hx : zN x < 0 ∨ 7 < zN x) : zR 10 36 [l0, l1, l2, l3] (.inl x :: st) w Q = zR 10 152 [l0, l1, l2, l3] st w Q := zR_go (zst zT_10_36 (by simp [zins, zi_table, zgo, zto, hx]))
theorem zT_10_84 : zT 10 84 = some (.aload_n 0, 1, 0, []) := by decide +kernel
theorem zr_10_84 {l1 l2 l3 : Option zV} {x : Option Nat} {st : List zV} {w : zW} {Q : Option zV → zW → Prop}  : zR 10 84 [some (.inr x), l1, l2, l3] st w Q = zR 10 85 [some (.inr x), l1, l2, l3] (.inr x :: st) w Q := zR_go (zst zT_10_84 rfl)
theorem zT_10_85 : zT 10 85 = some (.getfield 17, 3, 0, [(0, 1)]) := by decide +kernel
theorem zr_10_85 {l0 l1 l2 l3 : Option zV} {h : Nat} {st : List zV} {w : zW} {Q : Option zV → zW → Prop} (hk : zk w h = 0) : zR 10 85 [l0, l1, l2, l3] (.inr (some h) :: st) w Q = zR 10 88 [l0, l1, l2, l3] (.inr (zp w 1 h) :: st) w Q := zR_go (zst zT_10_85 (zget_r hk rfl))
theorem zT_10_88 : zT 10 88 = some (.iload_n 1, 1, 0, []) := by decide +kernel
theorem zr_10_88 {l0 l2 l3 : Option zV} {x : Int} {st : List zV} {w : zW} {Q : Option zV → zW → Prop}  : zR 10 88 [l0, some (.inl x), l2, l3] st w Q = zR 10 89 [l0, some (.inl x), l2, l3] (.inl x :: st) w Q := zR_go (zst zT_10_88 rfl)
theorem zT_10_89 : zT 10 89 = some (.aaload, 1, 0, []) := by decide +kernel
theorem zr_10_89 {l0 l1 l2 l3 : Option zV} {j : Int} {h : Nat} {st : List zV} {w : zW} {Q : Option zV → zW → Prop} (hk : zNC + 2 < zk w h ∧ zk w h < 1000 ∧ 0 ≤ zN j ∧ zN j < zl w h) : zR 10 89 [l0, l1, l2, l3] (.inl j :: .inr (some h) :: st) w Q = zR 10 90 [l0, l1, l2, l3] (.inr (zb w h (zN j).toNat) :: st) w Q := zR_go (zst zT_10_89 (if_pos hk))
theorem zT_10_90 : zT 10 90 = some (.getfield 61, 3, 0, [(1, 9), (4, 11), (8, 10)]) := by decide +kernel
theorem zr_10_90c1 {l0 l1 l2 l3 : Option zV} {h : Nat} {st : List zV} {w : zW} {Q : Option zV → zW → Prop} (hk : zk w h = 1) : zR 10 90 [l0, l1, l2, l3] (.inr (some h) :: st) w Q = zR 10 93 [l0, l1, l2, l3] (.inl (zf w 15 h) :: st) w Q := zR_go (zst zT_10_90 (zget_i hk (Or.inl rfl)))
theorem zr_10_90c4 {l0 l1 l2 l3 : Option zV} {h : Nat} {st : List zV} {w : zW} {Q : Option zV → zW → Prop} (hk : zk w h = 4) : zR 10 90 [l0, l1, l2, l3] (.inr (some h) :: st) w Q = zR 10 93 [l0, l1, l2, l3] (.inl (zf w 15 h) :: st) w Q := zR_go (zst zT_10_90 (zget_i hk (Or.inl rfl)))
theorem zr_10_90c8 {l0 l1 l2 l3 : Option zV} {h : Nat} {st : List zV} {w : zW} {Q : Option zV → zW → Prop} (hk : zk w h = 8) : zR 10 90 [l0, l1, l2, l3] (.inr (some h) :: st) w Q = zR 10 93 [l0, l1, l2, l3] (.inl (zf w 15 h) :: st) w Q := zR_go (zst zT_10_90 (zget_i hk (Or.inl rfl)))
theorem zT_10_93 : zT 10 93 = some (.ireturn, 1, 0, []) := by decide +kernel
theorem zr_10_93 {l0 l1 l2 l3 : Option zV} {x : Int} {w : zW} {Q : Option zV → zW → Prop}  : zR 10 93 [l0, l1, l2, l3] [.inl x] w Q = Q (some (.inl x)) w := zR_ret (zst zT_10_93 rfl)
theorem zT_10_94 : zT 10 94 = some (.aload_n 3, 1, 0, []) := by decide +kernel
theorem zr_10_94 {l0 l1 l2 : Option zV} {x : Option Nat} {st : List zV} {w : zW} {Q : Option zV → zW → Prop}  : zR 10 94 [l0, l1, l2, some (.inr x)] st w Q = zR 10 95 [l0, l1, l2, some (.inr x)] (.inr x :: st) w Q := zR_go (zst zT_10_94 rfl)
theorem zT_10_95 : zT 10 95 = some (.getfield 131, 3, 0, [(2, 1)]) := by decide +kernel
theorem zr_10_95 {l0 l1 l2 l3 : Option zV} {h : Nat} {st : List zV} {w : zW} {Q : Option zV → zW → Prop} (hk : zk w h = 2) : zR 10 95 [l0, l1, l2, l3] (.inr (some h) :: st) w Q = zR 10 98 [l0, l1, l2, l3] (.inl (zf w 18 h) :: st) w Q := zR_go (zst zT_10_95 (zget_i hk (Or.inl rfl)))
theorem zT_10_98 : zT 10 98 = some (.ireturn, 1, 0, []) := by decide +kernel
theorem zr_10_98 {l0 l1 l2 l3 : Option zV} {x : Int} {w : zW} {Q : Option zV → zW → Prop}  : zR 10 98 [l0, l1, l2, l3] [.inl x] w Q = Q (some (.inl x)) w := zR_ret (zst zT_10_98 rfl)
theorem zT_10_99 : zT 10 99 = some (.aload_n 3, 1, 0, []) := by decide +kernel
theorem zr_10_99 {l0 l1 l2 : Option zV} {x : Option Nat} {st : List zV} {w : zW} {Q : Option zV → zW → Prop}  : zR 10 99 [l0, l1, l2, some (.inr x)] st w Q = zR 10 100 [l0, l1, l2, some (.inr x)] (.inr x :: st) w Q := zR_go (zst zT_10_99 rfl)
theorem zT_10_100 : zT 10 100 = some (.getfield 136, 3, 0, [(2, 2)]) := by decide +kernel
theorem zr_10_100 {l0 l1 l2 l3 : Option zV} {h : Nat} {st : List zV} {w : zW} {Q : Option zV → zW → Prop} (hk : zk w h = 2) : zR 10 100 [l0, l1, l2, l3] (.inr (some h) :: st) w Q = zR 10 103 [l0, l1, l2, l3] (.inl (zf w 19 h) :: st) w Q := zR_go (zst zT_10_100 (zget_i hk (Or.inl rfl)))
theorem zT_10_103 : zT 10 103 = some (.ireturn, 1, 0, []) := by decide +kernel
theorem zr_10_103 {l0 l1 l2 l3 : Option zV} {x : Int} {w : zW} {Q : Option zV → zW → Prop}  : zR 10 103 [l0, l1, l2, l3] [.inl x] w Q = Q (some (.inl x)) w := zR_ret (zst zT_10_103 rfl)
theorem zT_10_104 : zT 10 104 = some (.aload_n 3, 1, 0, []) := by decide +kernel
theorem zr_10_104 {l0 l1 l2 : Option zV} {x : Option Nat} {st : List zV} {w : zW} {Q : Option zV → zW → Prop}  : zR 10 104 [l0, l1, l2, some (.inr x)] st w Q = zR 10 105 [l0, l1, l2, some (.inr x)] (.inr x :: st) w Q := zR_go (zst zT_10_104 rfl)
theorem zT_10_105 : zT 10 105 = some (.getfield 139, 3, 0, [(2, 3)]) := by decide +kernel
theorem zr_10_105 {l0 l1 l2 l3 : Option zV} {h : Nat} {st : List zV} {w : zW} {Q : Option zV → zW → Prop} (hk : zk w h = 2) : zR 10 105 [l0, l1, l2, l3] (.inr (some h) :: st) w Q = zR 10 108 [l0, l1, l2, l3] (.inl (zf w 20 h) :: st) w Q := zR_go (zst zT_10_105 (zget_i hk (Or.inr rfl)))
theorem zT_10_108 : zT 10 108 = some (.ifCond .eq 7, 3, 0, []) := by decide +kernel
theorem zr_10_108 {l0 l1 l2 l3 : Option zV} {x : Int} {st : List zV} {w : zW} {Q : Option zV → zW → Prop}  : zR 10 108 [l0, l1, l2, l3] (.inl x :: st) w Q = (if zN x = 0 then zR 10 115 [l0, l1, l2, l3] st w Q else zR 10 111 [l0, l1, l2, l3] st w Q) := zR_if (zstB zT_10_108 rfl) (by simp [zcmp])
theorem zT_10_111 : zT 10 111 = some (.iconst 1, 1, 0, []) := by decide +kernel
theorem zr_10_111 {l0 l1 l2 l3 : Option zV} {st : List zV} {w : zW} {Q : Option zV → zW → Prop}  : zR 10 111 [l0, l1, l2, l3] st w Q = zR 10 112 [l0, l1, l2, l3] (.inl 1 :: st) w Q := zR_go (zst zT_10_111 rfl)
theorem zT_10_112 : zT 10 112 = some (.goto 4, 3, 0, []) := by decide +kernel
theorem zr_10_112 {l0 l1 l2 l3 : Option zV} {st : List zV} {w : zW} {Q : Option zV → zW → Prop}  : zR 10 112 [l0, l1, l2, l3] st w Q = zR 10 116 [l0, l1, l2, l3] st w Q := zR_go (zst zT_10_112 rfl)
theorem zT_10_115 : zT 10 115 = some (.iconst 0, 1, 0, []) := by decide +kernel
theorem zr_10_115 {l0 l1 l2 l3 : Option zV} {st : List zV} {w : zW} {Q : Option zV → zW → Prop}  : zR 10 115 [l0, l1, l2, l3] st w Q = zR 10 116 [l0, l1, l2, l3] (.inl 0 :: st) w Q := zR_go (zst zT_10_115 rfl)
theorem zT_10_116 : zT 10 116 = some (.ireturn, 1, 0, []) := by decide +kernel
theorem zr_10_116 {l0 l1 l2 l3 : Option zV} {x : Int} {w : zW} {Q : Option zV → zW → Prop}  : zR 10 116 [l0, l1, l2, l3] [.inl x] w Q = Q (some (.inl x)) w := zR_ret (zst zT_10_116 rfl)
theorem zT_10_117 : zT 10 117 = some (.aload_n 3, 1, 0, []) := by decide +kernel
theorem zr_10_117 {l0 l1 l2 : Option zV} {x : Option Nat} {st : List zV} {w : zW} {Q : Option zV → zW → Prop}  : zR 10 117 [l0, l1, l2, some (.inr x)] st w Q = zR 10 118 [l0, l1, l2, some (.inr x)] (.inr x :: st) w Q := zR_go (zst zT_10_117 rfl)
theorem zT_10_118 : zT 10 118 = some (.getfield 143, 3, 0, [(2, 4)]) := by decide +kernel
theorem zr_10_118 {l0 l1 l2 l3 : Option zV} {h : Nat} {st : List zV} {w : zW} {Q : Option zV → zW → Prop} (hk : zk w h = 2) : zR 10 118 [l0, l1, l2, l3] (.inr (some h) :: st) w Q = zR 10 121 [l0, l1, l2, l3] (.inl (zf w 21 h) :: st) w Q := zR_go (zst zT_10_118 (zget_i hk (Or.inl rfl)))
theorem zT_10_121 : zT 10 121 = some (.ireturn, 1, 0, []) := by decide +kernel
theorem zr_10_121 {l0 l1 l2 l3 : Option zV} {x : Int} {w : zW} {Q : Option zV → zW → Prop}  : zR 10 121 [l0, l1, l2, l3] [.inl x] w Q = Q (some (.inl x)) w := zR_ret (zst zT_10_121 rfl)
theorem zT_10_122 : zT 10 122 = some (.aload_n 3, 1, 0, []) := by decide +kernel
theorem zr_10_122 {l0 l1 l2 : Option zV} {x : Option Nat} {st : List zV} {w : zW} {Q : Option zV → zW → Prop}  : zR 10 122 [l0, l1, l2, some (.inr x)] st w Q = zR 10 123 [l0, l1, l2, some (.inr x)] (.inr x :: st) w Q := zR_go (zst zT_10_122 rfl)
theorem zT_10_123 : zT 10 123 = some (.getfield 146, 3, 0, [(2, 6)]) := by decide +kernel
theorem zr_10_123 {l0 l1 l2 l3 : Option zV} {h : Nat} {st : List zV} {w : zW} {Q : Option zV → zW → Prop} (hk : zk w h = 2) : zR 10 123 [l0, l1, l2, l3] (.inr (some h) :: st) w Q = zR 10 126 [l0, l1, l2, l3] (.inl (zf w 23 h) :: st) w Q := zR_go (zst zT_10_123 (zget_i hk (Or.inl rfl)))
theorem zT_10_126 : zT 10 126 = some (.ireturn, 1, 0, []) := by decide +kernel
theorem zr_10_126 {l0 l1 l2 l3 : Option zV} {x : Int} {w : zW} {Q : Option zV → zW → Prop}  : zR 10 126 [l0, l1, l2, l3] [.inl x] w Q = Q (some (.inl x)) w := zR_ret (zst zT_10_126 rfl)
theorem zT_10_127 : zT 10 127 = some (.iload_n 1, 1, 0, []) := by decide +kernel
theorem zr_10_127 {l0 l2 l3 : Option zV} {x : Int} {st : List zV} {w : zW} {Q : Option zV → zW → Prop}  : zR 10 127 [l0, some (.inl x), l2, l3] st w Q = zR 10 128 [l0, some (.inl x), l2, l3] (.inl x :: st) w Q := zR_go (zst zT_10_127 rfl)
theorem zT_10_128 : zT 10 128 = some (.iconst 1, 1, 0, []) := by decide +kernel
theorem zr_10_128 {l0 l1 l2 l3 : Option zV} {st : List zV} {w : zW} {Q : Option zV → zW → Prop}  : zR 10 128 [l0, l1, l2, l3] st w Q = zR 10 129 [l0, l1, l2, l3] (.inl 1 :: st) w Q := zR_go (zst zT_10_128 rfl)
theorem zT_10_129 : zT 10 129 = some (.if_icmp .ne 16, 3, 0, []) := by decide +kernel
theorem zr_10_129 {l0 l1 l2 l3 : Option zV} {x y : Int} {st : List zV} {w : zW} {Q : Option zV → zW → Prop}  : zR 10 129 [l0, l1, l2, l3] (.inl y :: .inl x :: st) w Q = (if zN x ≠ zN y then zR 10 145 [l0, l1, l2, l3] st w Q else zR 10 132 [l0, l1, l2, l3] st w Q) := zR_if (zstB zT_10_129 rfl) (by simp [zcmp])
theorem zT_10_132 : zT 10 132 = some (.aload_n 0, 1, 0, []) := by decide +kernel
theorem zr_10_132 {l1 l2 l3 : Option zV} {x : Option Nat} {st : List zV} {w : zW} {Q : Option zV → zW → Prop}  : zR 10 132 [some (.inr x), l1, l2, l3] st w Q = zR 10 133 [some (.inr x), l1, l2, l3] (.inr x :: st) w Q := zR_go (zst zT_10_132 rfl)
theorem zT_10_133 : zT 10 133 = some (.getfield 37, 3, 0, [(0, 4)]) := by decide +kernel
theorem zr_10_133 {l0 l1 l2 l3 : Option zV} {h : Nat} {st : List zV} {w : zW} {Q : Option zV → zW → Prop} (hk : zk w h = 0) : zR 10 133 [l0, l1, l2, l3] (.inr (some h) :: st) w Q = zR 10 136 [l0, l1, l2, l3] (.inr (zp w 4 h) :: st) w Q := zR_go (zst zT_10_133 (zget_r hk rfl))
theorem zT_10_136 : zT 10 136 = some (.getfield 54, 3, 0, [(4, 0)]) := by decide +kernel
theorem zr_10_136 {l0 l1 l2 l3 : Option zV} {h : Nat} {st : List zV} {w : zW} {Q : Option zV → zW → Prop} (hk : zk w h = 4) : zR 10 136 [l0, l1, l2, l3] (.inr (some h) :: st) w Q = zR 10 139 [l0, l1, l2, l3] (.inr (zp w 31 h) :: st) w Q := zR_go (zst zT_10_136 (zget_r hk rfl))
theorem zT_10_139 : zT 10 139 = some (.getfield 146, 3, 0, [(2, 6)]) := by decide +kernel
theorem zr_10_139 {l0 l1 l2 l3 : Option zV} {h : Nat} {st : List zV} {w : zW} {Q : Option zV → zW → Prop} (hk : zk w h = 2) : zR 10 139 [l0, l1, l2, l3] (.inr (some h) :: st) w Q = zR 10 142 [l0, l1, l2, l3] (.inl (zf w 23 h) :: st) w Q := zR_go (zst zT_10_139 (zget_i hk (Or.inl rfl)))
theorem zT_10_142 : zT 10 142 = some (.goto 4, 3, 0, []) := by decide +kernel
theorem zr_10_142 {l0 l1 l2 l3 : Option zV} {st : List zV} {w : zW} {Q : Option zV → zW → Prop}  : zR 10 142 [l0, l1, l2, l3] st w Q = zR 10 146 [l0, l1, l2, l3] st w Q := zR_go (zst zT_10_142 rfl)
theorem zT_10_145 : zT 10 145 = some (.iconst 0, 1, 0, []) := by decide +kernel
theorem zr_10_145 {l0 l1 l2 l3 : Option zV} {st : List zV} {w : zW} {Q : Option zV → zW → Prop}  : zR 10 145 [l0, l1, l2, l3] st w Q = zR 10 146 [l0, l1, l2, l3] (.inl 0 :: st) w Q := zR_go (zst zT_10_145 rfl)
theorem zT_10_146 : zT 10 146 = some (.ireturn, 1, 0, []) := by decide +kernel
theorem zr_10_146 {l0 l1 l2 l3 : Option zV} {x : Int} {w : zW} {Q : Option zV → zW → Prop}  : zR 10 146 [l0, l1, l2, l3] [.inl x] w Q = Q (some (.inl x)) w := zR_ret (zst zT_10_146 rfl)
theorem zT_10_147 : zT 10 147 = some (.aload_n 3, 1, 0, []) := by decide +kernel
theorem zr_10_147 {l0 l1 l2 : Option zV} {x : Option Nat} {st : List zV} {w : zW} {Q : Option zV → zW → Prop}  : zR 10 147 [l0, l1, l2, some (.inr x)] st w Q = zR 10 148 [l0, l1, l2, some (.inr x)] (.inr x :: st) w Q := zR_go (zst zT_10_147 rfl)
theorem zT_10_148 : zT 10 148 = some (.getfield 149, 3, 0, [(2, 5)]) := by decide +kernel
theorem zr_10_148 {l0 l1 l2 l3 : Option zV} {h : Nat} {st : List zV} {w : zW} {Q : Option zV → zW → Prop} (hk : zk w h = 2) : zR 10 148 [l0, l1, l2, l3] (.inr (some h) :: st) w Q = zR 10 151 [l0, l1, l2, l3] (.inl (zf w 22 h) :: st) w Q := zR_go (zst zT_10_148 (zget_i hk (Or.inl rfl)))
theorem zT_10_151 : zT 10 151 = some (.ireturn, 1, 0, []) := by decide +kernel
theorem zr_10_151 {l0 l1 l2 l3 : Option zV} {x : Int} {w : zW} {Q : Option zV → zW → Prop}  : zR 10 151 [l0, l1, l2, l3] [.inl x] w Q = Q (some (.inl x)) w := zR_ret (zst zT_10_151 rfl)
theorem zT_10_152 : zT 10 152 = some (.iconst (-1), 1, 0, []) := by decide +kernel
theorem zr_10_152 {l0 l1 l2 l3 : Option zV} {st : List zV} {w : zW} {Q : Option zV → zW → Prop}  : zR 10 152 [l0, l1, l2, l3] st w Q = zR 10 153 [l0, l1, l2, l3] (.inl (-1) :: st) w Q := zR_go (zst zT_10_152 rfl)
theorem zT_10_153 : zT 10 153 = some (.ireturn, 1, 0, []) := by decide +kernel
theorem zr_10_153 {l0 l1 l2 l3 : Option zV} {x : Int} {w : zW} {Q : Option zV → zW → Prop}  : zR 10 153 [l0, l1, l2, l3] [.inl x] w Q = Q (some (.inl x)) w := zR_ret (zst zT_10_153 rfl)
theorem zT_11_0 : zT 11 0 = some (.aload_n 0, 1, 0, []) := by decide +kernel
theorem zr_11_0 {l1 l2 l3 : Option zV} {x : Option Nat} {st : List zV} {w : zW} {Q : Option zV → zW → Prop}  : zR 11 0 [some (.inr x), l1, l2, l3] st w Q = zR 11 1 [some (.inr x), l1, l2, l3] (.inr x :: st) w Q := zR_go (zst zT_11_0 rfl)
theorem zT_11_1 : zT 11 1 = some (.iload_n 1, 1, 0, []) := by decide +kernel
theorem zr_11_1 {l0 l2 l3 : Option zV} {x : Int} {st : List zV} {w : zW} {Q : Option zV → zW → Prop}  : zR 11 1 [l0, some (.inl x), l2, l3] st w Q = zR 11 2 [l0, some (.inl x), l2, l3] (.inl x :: st) w Q := zR_go (zst zT_11_1 rfl)
theorem zT_11_2 : zT 11 2 = some (.invokevirtual 111, 3, 1, [(0, 19)]) := by decide +kernel
theorem zr_11_2 {l0 l1 l2 l3 : Option zV} {a0 : zV} {h : Nat} {st : List zV} {w : zW} {Q : Option zV → zW → Prop} (hs : st.length ≤ 8) (hk : zk w h = 0) : zR 11 2 [l0, l1, l2, l3] (a0 :: .inr (some h) :: st) w Q = zR 19 0 [some (.inr (some h)), some a0] [] w (fun r w2 => zR 11 5 [l0, l1, l2, l3] (r.toList ++ st) w2 Q) := zR_call (zst zT_11_2 (zcall_v [a0] rfl hs hk rfl))
theorem zT_11_5 : zT 11 5 = some (.astore_n 3, 1, 0, []) := by decide +kernel
theorem zr_11_5 {l0 l1 l2 l3 : Option zV} {x : Option Nat} {st : List zV} {w : zW} {Q : Option zV → zW → Prop}  : zR 11 5 [l0, l1, l2, l3] (.inr x :: st) w Q = zR 11 6 [l0, l1, l2, some (.inr x)] st w Q := zR_go (zst zT_11_5 rfl)
theorem zT_11_6 : zT 11 6 = some (.aload_n 3, 1, 0, []) := by decide +kernel
theorem zr_11_6 {l0 l1 l2 : Option zV} {x : Option Nat} {st : List zV} {w : zW} {Q : Option zV → zW → Prop}  : zR 11 6 [l0, l1, l2, some (.inr x)] st w Q = zR 11 7 [l0, l1, l2, some (.inr x)] (.inr x :: st) w Q := zR_go (zst zT_11_6 rfl)
theorem zT_11_7 : zT 11 7 = some (.ifnonnull 5, 3, 0, []) := by decide +kernel
theorem zr_11_7n {l0 l1 l2 l3 : Option zV} {st : List zV} {w : zW} {Q : Option zV → zW → Prop}  : zR 11 7 [l0, l1, l2, l3] (.inr none :: st) w Q = zR 11 10 [l0, l1, l2, l3] st w Q := zR_go (zst zT_11_7 rfl)
theorem zr_11_7s {l0 l1 l2 l3 : Option zV} {h : Nat} {st : List zV} {w : zW} {Q : Option zV → zW → Prop}  : zR 11 7 [l0, l1, l2, l3] (.inr (some h) :: st) w Q = zR 11 12 [l0, l1, l2, l3] st w Q := zR_go (zst zT_11_7 rfl)
theorem zT_11_10 : zT 11 10 = some (.iconst 0, 1, 0, []) := by decide +kernel
theorem zr_11_10 {l0 l1 l2 l3 : Option zV} {st : List zV} {w : zW} {Q : Option zV → zW → Prop}  : zR 11 10 [l0, l1, l2, l3] st w Q = zR 11 11 [l0, l1, l2, l3] (.inl 0 :: st) w Q := zR_go (zst zT_11_10 rfl)
theorem zT_11_11 : zT 11 11 = some (.ireturn, 1, 0, []) := by decide +kernel
theorem zr_11_11 {l0 l1 l2 l3 : Option zV} {x : Int} {w : zW} {Q : Option zV → zW → Prop}  : zR 11 11 [l0, l1, l2, l3] [.inl x] w Q = Q (some (.inl x)) w := zR_ret (zst zT_11_11 rfl)
theorem zT_11_12 : zT 11 12 = some (.iload_n 2, 1, 0, []) := by decide +kernel
theorem zr_11_12 {l0 l1 l3 : Option zV} {x : Int} {st : List zV} {w : zW} {Q : Option zV → zW → Prop}  : zR 11 12 [l0, l1, some (.inl x), l3] st w Q = zR 11 13 [l0, l1, some (.inl x), l3] (.inl x :: st) w Q := zR_go (zst zT_11_12 rfl)
theorem zT_11_13 : zT 11 13 = some (.tableswitch 78 0 6 #[43, 48, 53, 58, 63, 68, 73], 43, 0, []) := by decide +kernel
theorem zr_11_13k0 {l0 l1 l2 l3 : Option zV} {x : Int} {st : List zV} {w : zW} {Q : Option zV → zW → Prop} (hx : zN x = 0) : zR 11 13 [l0, l1, l2, l3] (.inl x :: st) w Q = zR 11 56 [l0, l1, l2, l3] st w Q := zR_go (zst zT_11_13 (by simp [zins, zi_table, zgo, zto, hx]))
theorem zr_11_13k1 {l0 l1 l2 l3 : Option zV} {x : Int} {st : List zV} {w : zW} {Q : Option zV → zW → Prop} (hx : zN x = 1) : zR 11 13 [l0, l1, l2, l3] (.inl x :: st) w Q = zR 11 61 [l0, l1, l2, l3] st w Q := zR_go (zst zT_11_13 (by simp [zins, zi_table, zgo, zto, hx]))
theorem zr_11_13k2 {l0 l1 l2 l3 : Option zV} {x : Int} {st : List zV} {w : zW} {Q : Option zV → zW → Prop} (hx : zN x = 2) : zR 11 13 [l0, l1, l2, l3] (.inl x :: st) w Q = zR 11 66 [l0, l1, l2, l3] st w Q := zR_go (zst zT_11_13 (by simp [zins, zi_table, zgo, zto, hx]))
theorem zr_11_13k3 {l0 l1 l2 l3 : Option zV} {x : Int} {st : List zV} {w : zW} {Q : Option zV → zW → Prop} (hx : zN x = 3) : zR 11 13 [l0, l1, l2, l3] (.inl x :: st) w Q = zR 11 71 [l0, l1, l2, l3] st w Q := zR_go (zst zT_11_13 (by simp [zins, zi_table, zgo, zto, hx]))
theorem zr_11_13k4 {l0 l1 l2 l3 : Option zV} {x : Int} {st : List zV} {w : zW} {Q : Option zV → zW → Prop} (hx : zN x = 4) : zR 11 13 [l0, l1, l2, l3] (.inl x :: st) w Q = zR 11 76 [l0, l1, l2, l3] st w Q := zR_go (zst zT_11_13 (by simp [zins, zi_table, zgo, zto, hx]))
theorem zr_11_13k5 {l0 l1 l2 l3 : Option zV} {x : Int} {st : List zV} {w : zW} {Q : Option zV → zW → Prop} (hx : zN x = 5) : zR 11 13 [l0, l1, l2, l3] (.inl x :: st) w Q = zR 11 81 [l0, l1, l2, l3] st w Q := zR_go (zst zT_11_13 (by simp [zins, zi_table, zgo, zto, hx]))
theorem zr_11_13k6 {l0 l1 l2 l3 : Option zV} {x : Int} {st : List zV} {w : zW} {Q : Option zV → zW → Prop} (hx : zN x = 6) : zR 11 13 [l0, l1, l2, l3] (.inl x :: st) w Q = zR 11 86 [l0, l1, l2, l3] st w Q := zR_go (zst zT_11_13 (by simp [zins, zi_table, zgo, zto, hx]))
theorem zr_11_13d {l0 l1 l2 l3 : Option zV} {x : Int} {st : List zV} {w : zW} {Q : Option zV → zW → Prop} (hx : zN x < 0 ∨ 6 < zN x) : zR 11 13 [l0, l1, l2, l3] (.inl x :: st) w Q = zR 11 91 [l0, l1, l2, l3] st w Q := zR_go (zst zT_11_13 (by simp [zins, zi_table, zgo, zto, hx]))
theorem zT_11_56 : zT 11 56 = some (.aload_n 3, 1, 0, []) := by decide +kernel
theorem zr_11_56 {l0 l1 l2 : Option zV} {x : Option Nat} {st : List zV} {w : zW} {Q : Option zV → zW → Prop}  : zR 11 56 [l0, l1, l2, some (.inr x)] st w Q = zR 11 57 [l0, l1, l2, some (.inr x)] (.inr x :: st) w Q := zR_go (zst zT_11_56 rfl)
theorem zT_11_57 : zT 11 57 = some (.getfield 115, 3, 0, [(4, 1), (8, 0)]) := by decide +kernel
theorem zr_11_57c4 {l0 l1 l2 l3 : Option zV} {h : Nat} {st : List zV} {w : zW} {Q : Option zV → zW → Prop} (hk : zk w h = 4) : zR 11 57 [l0, l1, l2, l3] (.inr (some h) :: st) w Q = zR 11 60 [l0, l1, l2, l3] (.inl (zf w 32 h) :: st) w Q := zR_go (zst zT_11_57 (zget_i hk (Or.inl rfl)))
theorem zr_11_57c8 {l0 l1 l2 l3 : Option zV} {h : Nat} {st : List zV} {w : zW} {Q : Option zV → zW → Prop} (hk : zk w h = 8) : zR 11 57 [l0, l1, l2, l3] (.inr (some h) :: st) w Q = zR 11 60 [l0, l1, l2, l3] (.inl (zf w 32 h) :: st) w Q := zR_go (zst zT_11_57 (zget_i hk (Or.inl rfl)))
theorem zT_11_60 : zT 11 60 = some (.ireturn, 1, 0, []) := by decide +kernel
theorem zr_11_60 {l0 l1 l2 l3 : Option zV} {x : Int} {w : zW} {Q : Option zV → zW → Prop}  : zR 11 60 [l0, l1, l2, l3] [.inl x] w Q = Q (some (.inl x)) w := zR_ret (zst zT_11_60 rfl)
theorem zT_11_61 : zT 11 61 = some (.aload_n 3, 1, 0, []) := by decide +kernel
theorem zr_11_61 {l0 l1 l2 : Option zV} {x : Option Nat} {st : List zV} {w : zW} {Q : Option zV → zW → Prop}  : zR 11 61 [l0, l1, l2, some (.inr x)] st w Q = zR 11 62 [l0, l1, l2, some (.inr x)] (.inr x :: st) w Q := zR_go (zst zT_11_61 rfl)
theorem zT_11_62 : zT 11 62 = some (.getfield 150, 3, 0, [(4, 2), (8, 1)]) := by decide +kernel
theorem zr_11_62c4 {l0 l1 l2 l3 : Option zV} {h : Nat} {st : List zV} {w : zW} {Q : Option zV → zW → Prop} (hk : zk w h = 4) : zR 11 62 [l0, l1, l2, l3] (.inr (some h) :: st) w Q = zR 11 65 [l0, l1, l2, l3] (.inl (zf w 33 h) :: st) w Q := zR_go (zst zT_11_62 (zget_i hk (Or.inl rfl)))
theorem zr_11_62c8 {l0 l1 l2 l3 : Option zV} {h : Nat} {st : List zV} {w : zW} {Q : Option zV → zW → Prop} (hk : zk w h = 8) : zR 11 62 [l0, l1, l2, l3] (.inr (some h) :: st) w Q = zR 11 65 [l0, l1, l2, l3] (.inl (zf w 33 h) :: st) w Q := zR_go (zst zT_11_62 (zget_i hk (Or.inl rfl)))
theorem zT_11_65 : zT 11 65 = some (.ireturn, 1, 0, []) := by decide +kernel
theorem zr_11_65 {l0 l1 l2 l3 : Option zV} {x : Int} {w : zW} {Q : Option zV → zW → Prop}  : zR 11 65 [l0, l1, l2, l3] [.inl x] w Q = Q (some (.inl x)) w := zR_ret (zst zT_11_65 rfl)
theorem zT_11_66 : zT 11 66 = some (.aload_n 3, 1, 0, []) := by decide +kernel
theorem zr_11_66 {l0 l1 l2 : Option zV} {x : Option Nat} {st : List zV} {w : zW} {Q : Option zV → zW → Prop}  : zR 11 66 [l0, l1, l2, some (.inr x)] st w Q = zR 11 67 [l0, l1, l2, some (.inr x)] (.inr x :: st) w Q := zR_go (zst zT_11_66 rfl)
theorem zT_11_67 : zT 11 67 = some (.getfield 151, 3, 0, [(4, 3), (8, 2)]) := by decide +kernel
theorem zr_11_67c4 {l0 l1 l2 l3 : Option zV} {h : Nat} {st : List zV} {w : zW} {Q : Option zV → zW → Prop} (hk : zk w h = 4) : zR 11 67 [l0, l1, l2, l3] (.inr (some h) :: st) w Q = zR 11 70 [l0, l1, l2, l3] (.inl (zf w 34 h) :: st) w Q := zR_go (zst zT_11_67 (zget_i hk (Or.inl rfl)))
theorem zr_11_67c8 {l0 l1 l2 l3 : Option zV} {h : Nat} {st : List zV} {w : zW} {Q : Option zV → zW → Prop} (hk : zk w h = 8) : zR 11 67 [l0, l1, l2, l3] (.inr (some h) :: st) w Q = zR 11 70 [l0, l1, l2, l3] (.inl (zf w 34 h) :: st) w Q := zR_go (zst zT_11_67 (zget_i hk (Or.inl rfl)))
theorem zT_11_70 : zT 11 70 = some (.ireturn, 1, 0, []) := by decide +kernel
theorem zr_11_70 {l0 l1 l2 l3 : Option zV} {x : Int} {w : zW} {Q : Option zV → zW → Prop}  : zR 11 70 [l0, l1, l2, l3] [.inl x] w Q = Q (some (.inl x)) w := zR_ret (zst zT_11_70 rfl)
theorem zT_11_71 : zT 11 71 = some (.aload_n 3, 1, 0, []) := by decide +kernel
theorem zr_11_71 {l0 l1 l2 : Option zV} {x : Option Nat} {st : List zV} {w : zW} {Q : Option zV → zW → Prop}  : zR 11 71 [l0, l1, l2, some (.inr x)] st w Q = zR 11 72 [l0, l1, l2, some (.inr x)] (.inr x :: st) w Q := zR_go (zst zT_11_71 rfl)
theorem zT_11_72 : zT 11 72 = some (.getfield 154, 3, 0, [(4, 4), (8, 3)]) := by decide +kernel
theorem zr_11_72c4 {l0 l1 l2 l3 : Option zV} {h : Nat} {st : List zV} {w : zW} {Q : Option zV → zW → Prop} (hk : zk w h = 4) : zR 11 72 [l0, l1, l2, l3] (.inr (some h) :: st) w Q = zR 11 75 [l0, l1, l2, l3] (.inl (zf w 35 h) :: st) w Q := zR_go (zst zT_11_72 (zget_i hk (Or.inl rfl)))
theorem zr_11_72c8 {l0 l1 l2 l3 : Option zV} {h : Nat} {st : List zV} {w : zW} {Q : Option zV → zW → Prop} (hk : zk w h = 8) : zR 11 72 [l0, l1, l2, l3] (.inr (some h) :: st) w Q = zR 11 75 [l0, l1, l2, l3] (.inl (zf w 35 h) :: st) w Q := zR_go (zst zT_11_72 (zget_i hk (Or.inl rfl)))
theorem zT_11_75 : zT 11 75 = some (.ireturn, 1, 0, []) := by decide +kernel
theorem zr_11_75 {l0 l1 l2 l3 : Option zV} {x : Int} {w : zW} {Q : Option zV → zW → Prop}  : zR 11 75 [l0, l1, l2, l3] [.inl x] w Q = Q (some (.inl x)) w := zR_ret (zst zT_11_75 rfl)
theorem zT_11_76 : zT 11 76 = some (.aload_n 3, 1, 0, []) := by decide +kernel
theorem zr_11_76 {l0 l1 l2 : Option zV} {x : Option Nat} {st : List zV} {w : zW} {Q : Option zV → zW → Prop}  : zR 11 76 [l0, l1, l2, some (.inr x)] st w Q = zR 11 77 [l0, l1, l2, some (.inr x)] (.inr x :: st) w Q := zR_go (zst zT_11_76 rfl)
theorem zT_11_77 : zT 11 77 = some (.getfield 157, 3, 0, [(4, 5), (8, 4)]) := by decide +kernel
theorem zr_11_77c4 {l0 l1 l2 l3 : Option zV} {h : Nat} {st : List zV} {w : zW} {Q : Option zV → zW → Prop} (hk : zk w h = 4) : zR 11 77 [l0, l1, l2, l3] (.inr (some h) :: st) w Q = zR 11 80 [l0, l1, l2, l3] (.inl (zf w 36 h) :: st) w Q := zR_go (zst zT_11_77 (zget_i hk (Or.inl rfl)))
theorem zr_11_77c8 {l0 l1 l2 l3 : Option zV} {h : Nat} {st : List zV} {w : zW} {Q : Option zV → zW → Prop} (hk : zk w h = 8) : zR 11 77 [l0, l1, l2, l3] (.inr (some h) :: st) w Q = zR 11 80 [l0, l1, l2, l3] (.inl (zf w 36 h) :: st) w Q := zR_go (zst zT_11_77 (zget_i hk (Or.inl rfl)))
theorem zT_11_80 : zT 11 80 = some (.ireturn, 1, 0, []) := by decide +kernel
theorem zr_11_80 {l0 l1 l2 l3 : Option zV} {x : Int} {w : zW} {Q : Option zV → zW → Prop}  : zR 11 80 [l0, l1, l2, l3] [.inl x] w Q = Q (some (.inl x)) w := zR_ret (zst zT_11_80 rfl)
theorem zT_11_81 : zT 11 81 = some (.aload_n 3, 1, 0, []) := by decide +kernel
theorem zr_11_81 {l0 l1 l2 : Option zV} {x : Option Nat} {st : List zV} {w : zW} {Q : Option zV → zW → Prop}  : zR 11 81 [l0, l1, l2, some (.inr x)] st w Q = zR 11 82 [l0, l1, l2, some (.inr x)] (.inr x :: st) w Q := zR_go (zst zT_11_81 rfl)
theorem zT_11_82 : zT 11 82 = some (.getfield 160, 3, 0, [(4, 7), (8, 6)]) := by decide +kernel
theorem zr_11_82c4 {l0 l1 l2 l3 : Option zV} {h : Nat} {st : List zV} {w : zW} {Q : Option zV → zW → Prop} (hk : zk w h = 4) : zR 11 82 [l0, l1, l2, l3] (.inr (some h) :: st) w Q = zR 11 85 [l0, l1, l2, l3] (.inl (zf w 38 h) :: st) w Q := zR_go (zst zT_11_82 (zget_i hk (Or.inl rfl)))
theorem zr_11_82c8 {l0 l1 l2 l3 : Option zV} {h : Nat} {st : List zV} {w : zW} {Q : Option zV → zW → Prop} (hk : zk w h = 8) : zR 11 82 [l0, l1, l2, l3] (.inr (some h) :: st) w Q = zR 11 85 [l0, l1, l2, l3] (.inl (zf w 38 h) :: st) w Q := zR_go (zst zT_11_82 (zget_i hk (Or.inl rfl)))
theorem zT_11_85 : zT 11 85 = some (.ireturn, 1, 0, []) := by decide +kernel
theorem zr_11_85 {l0 l1 l2 l3 : Option zV} {x : Int} {w : zW} {Q : Option zV → zW → Prop}  : zR 11 85 [l0, l1, l2, l3] [.inl x] w Q = Q (some (.inl x)) w := zR_ret (zst zT_11_85 rfl)
theorem zT_11_86 : zT 11 86 = some (.aload_n 3, 1, 0, []) := by decide +kernel
theorem zr_11_86 {l0 l1 l2 : Option zV} {x : Option Nat} {st : List zV} {w : zW} {Q : Option zV → zW → Prop}  : zR 11 86 [l0, l1, l2, some (.inr x)] st w Q = zR 11 87 [l0, l1, l2, some (.inr x)] (.inr x :: st) w Q := zR_go (zst zT_11_86 rfl)
theorem zT_11_87 : zT 11 87 = some (.getfield 163, 3, 0, [(4, 8), (8, 7)]) := by decide +kernel
theorem zr_11_87c4 {l0 l1 l2 l3 : Option zV} {h : Nat} {st : List zV} {w : zW} {Q : Option zV → zW → Prop} (hk : zk w h = 4) : zR 11 87 [l0, l1, l2, l3] (.inr (some h) :: st) w Q = zR 11 90 [l0, l1, l2, l3] (.inl (zf w 39 h) :: st) w Q := zR_go (zst zT_11_87 (zget_i hk (Or.inl rfl)))
theorem zr_11_87c8 {l0 l1 l2 l3 : Option zV} {h : Nat} {st : List zV} {w : zW} {Q : Option zV → zW → Prop} (hk : zk w h = 8) : zR 11 87 [l0, l1, l2, l3] (.inr (some h) :: st) w Q = zR 11 90 [l0, l1, l2, l3] (.inl (zf w 39 h) :: st) w Q := zR_go (zst zT_11_87 (zget_i hk (Or.inl rfl)))
theorem zT_11_90 : zT 11 90 = some (.ireturn, 1, 0, []) := by decide +kernel
theorem zr_11_90 {l0 l1 l2 l3 : Option zV} {x : Int} {w : zW} {Q : Option zV → zW → Prop}  : zR 11 90 [l0, l1, l2, l3] [.inl x] w Q = Q (some (.inl x)) w := zR_ret (zst zT_11_90 rfl)
theorem zT_11_91 : zT 11 91 = some (.iconst 0, 1, 0, []) := by decide +kernel
theorem zr_11_91 {l0 l1 l2 l3 : Option zV} {st : List zV} {w : zW} {Q : Option zV → zW → Prop}  : zR 11 91 [l0, l1, l2, l3] st w Q = zR 11 92 [l0, l1, l2, l3] (.inl 0 :: st) w Q := zR_go (zst zT_11_91 rfl)
theorem zT_11_92 : zT 11 92 = some (.ireturn, 1, 0, []) := by decide +kernel
theorem zr_11_92 {l0 l1 l2 l3 : Option zV} {x : Int} {w : zW} {Q : Option zV → zW → Prop}  : zR 11 92 [l0, l1, l2, l3] [.inl x] w Q = Q (some (.inl x)) w := zR_ret (zst zT_11_92 rfl)
theorem zT_12_0 : zT 12 0 = some (.aload_n 0, 1, 0, []) := by decide +kernel
theorem zr_12_0 {l1 l2 l3 : Option zV} {x : Option Nat} {st : List zV} {w : zW} {Q : Option zV → zW → Prop}  : zR 12 0 [some (.inr x), l1, l2, l3] st w Q = zR 12 1 [some (.inr x), l1, l2, l3] (.inr x :: st) w Q := zR_go (zst zT_12_0 rfl)
theorem zT_12_1 : zT 12 1 = some (.iload_n 1, 1, 0, []) := by decide +kernel
theorem zr_12_1 {l0 l2 l3 : Option zV} {x : Int} {st : List zV} {w : zW} {Q : Option zV → zW → Prop}  : zR 12 1 [l0, some (.inl x), l2, l3] st w Q = zR 12 2 [l0, some (.inl x), l2, l3] (.inl x :: st) w Q := zR_go (zst zT_12_1 rfl)
theorem zT_12_2 : zT 12 2 = some (.invokevirtual 111, 3, 1, [(0, 19)]) := by decide +kernel
theorem zr_12_2 {l0 l1 l2 l3 : Option zV} {a0 : zV} {h : Nat} {st : List zV} {w : zW} {Q : Option zV → zW → Prop} (hs : st.length ≤ 8) (hk : zk w h = 0) : zR 12 2 [l0, l1, l2, l3] (a0 :: .inr (some h) :: st) w Q = zR 19 0 [some (.inr (some h)), some a0] [] w (fun r w2 => zR 12 5 [l0, l1, l2, l3] (r.toList ++ st) w2 Q) := zR_call (zst zT_12_2 (zcall_v [a0] rfl hs hk rfl))
theorem zT_12_5 : zT 12 5 = some (.astore_n 3, 1, 0, []) := by decide +kernel
theorem zr_12_5 {l0 l1 l2 l3 : Option zV} {x : Option Nat} {st : List zV} {w : zW} {Q : Option zV → zW → Prop}  : zR 12 5 [l0, l1, l2, l3] (.inr x :: st) w Q = zR 12 6 [l0, l1, l2, some (.inr x)] st w Q := zR_go (zst zT_12_5 rfl)
theorem zT_12_6 : zT 12 6 = some (.aload_n 3, 1, 0, []) := by decide +kernel
theorem zr_12_6 {l0 l1 l2 : Option zV} {x : Option Nat} {st : List zV} {w : zW} {Q : Option zV → zW → Prop}  : zR 12 6 [l0, l1, l2, some (.inr x)] st w Q = zR 12 7 [l0, l1, l2, some (.inr x)] (.inr x :: st) w Q := zR_go (zst zT_12_6 rfl)
theorem zT_12_7 : zT 12 7 = some (.ifnull 13, 3, 0, []) := by decide +kernel
theorem zr_12_7n {l0 l1 l2 l3 : Option zV} {st : List zV} {w : zW} {Q : Option zV → zW → Prop}  : zR 12 7 [l0, l1, l2, l3] (.inr none :: st) w Q = zR 12 20 [l0, l1, l2, l3] st w Q := zR_go (zst zT_12_7 rfl)
theorem zr_12_7s {l0 l1 l2 l3 : Option zV} {h : Nat} {st : List zV} {w : zW} {Q : Option zV → zW → Prop}  : zR 12 7 [l0, l1, l2, l3] (.inr (some h) :: st) w Q = zR 12 10 [l0, l1, l2, l3] st w Q := zR_go (zst zT_12_7 rfl)
theorem zT_12_10 : zT 12 10 = some (.iload_n 2, 1, 0, []) := by decide +kernel
theorem zr_12_10 {l0 l1 l3 : Option zV} {x : Int} {st : List zV} {w : zW} {Q : Option zV → zW → Prop}  : zR 12 10 [l0, l1, some (.inl x), l3] st w Q = zR 12 11 [l0, l1, some (.inl x), l3] (.inl x :: st) w Q := zR_go (zst zT_12_10 rfl)
theorem zT_12_11 : zT 12 11 = some (.ifCond .lt 9, 3, 0, []) := by decide +kernel
theorem zr_12_11 {l0 l1 l2 l3 : Option zV} {x : Int} {st : List zV} {w : zW} {Q : Option zV → zW → Prop}  : zR 12 11 [l0, l1, l2, l3] (.inl x :: st) w Q = (if zN x < 0 then zR 12 20 [l0, l1, l2, l3] st w Q else zR 12 14 [l0, l1, l2, l3] st w Q) := zR_if (zstB zT_12_11 rfl) (by simp [zcmp])
theorem zT_12_14 : zT 12 14 = some (.iload_n 2, 1, 0, []) := by decide +kernel
theorem zr_12_14 {l0 l1 l3 : Option zV} {x : Int} {st : List zV} {w : zW} {Q : Option zV → zW → Prop}  : zR 12 14 [l0, l1, some (.inl x), l3] st w Q = zR 12 15 [l0, l1, some (.inl x), l3] (.inl x :: st) w Q := zR_go (zst zT_12_14 rfl)
theorem zT_12_15 : zT 12 15 = some (.bipush 24, 2, 0, []) := by decide +kernel
theorem zr_12_15 {l0 l1 l2 l3 : Option zV} {st : List zV} {w : zW} {Q : Option zV → zW → Prop}  : zR 12 15 [l0, l1, l2, l3] st w Q = zR 12 17 [l0, l1, l2, l3] (.inl 24 :: st) w Q := zR_go (zst zT_12_15 rfl)
theorem zT_12_17 : zT 12 17 = some (.if_icmp .lt 5, 3, 0, []) := by decide +kernel
theorem zr_12_17 {l0 l1 l2 l3 : Option zV} {x y : Int} {st : List zV} {w : zW} {Q : Option zV → zW → Prop}  : zR 12 17 [l0, l1, l2, l3] (.inl y :: .inl x :: st) w Q = (if zN x < zN y then zR 12 22 [l0, l1, l2, l3] st w Q else zR 12 20 [l0, l1, l2, l3] st w Q) := zR_if (zstB zT_12_17 rfl) (by simp [zcmp])
theorem zT_12_20 : zT 12 20 = some (.iconst (-1), 1, 0, []) := by decide +kernel
theorem zr_12_20 {l0 l1 l2 l3 : Option zV} {st : List zV} {w : zW} {Q : Option zV → zW → Prop}  : zR 12 20 [l0, l1, l2, l3] st w Q = zR 12 21 [l0, l1, l2, l3] (.inl (-1) :: st) w Q := zR_go (zst zT_12_20 rfl)
theorem zT_12_21 : zT 12 21 = some (.ireturn, 1, 0, []) := by decide +kernel
theorem zr_12_21 {l0 l1 l2 l3 : Option zV} {x : Int} {w : zW} {Q : Option zV → zW → Prop}  : zR 12 21 [l0, l1, l2, l3] [.inl x] w Q = Q (some (.inl x)) w := zR_ret (zst zT_12_21 rfl)
theorem zT_12_22 : zT 12 22 = some (.aload_n 3, 1, 0, []) := by decide +kernel
theorem zr_12_22 {l0 l1 l2 : Option zV} {x : Option Nat} {st : List zV} {w : zW} {Q : Option zV → zW → Prop}  : zR 12 22 [l0, l1, l2, some (.inr x)] st w Q = zR 12 23 [l0, l1, l2, some (.inr x)] (.inr x :: st) w Q := zR_go (zst zT_12_22 rfl)
theorem zT_12_23 : zT 12 23 = some (.getfield 166, 3, 0, [(4, 6), (8, 5)]) := by decide +kernel
theorem zr_12_23c4 {l0 l1 l2 l3 : Option zV} {h : Nat} {st : List zV} {w : zW} {Q : Option zV → zW → Prop} (hk : zk w h = 4) : zR 12 23 [l0, l1, l2, l3] (.inr (some h) :: st) w Q = zR 12 26 [l0, l1, l2, l3] (.inr (zp w 37 h) :: st) w Q := zR_go (zst zT_12_23 (zget_r hk rfl))
theorem zr_12_23c8 {l0 l1 l2 l3 : Option zV} {h : Nat} {st : List zV} {w : zW} {Q : Option zV → zW → Prop} (hk : zk w h = 8) : zR 12 23 [l0, l1, l2, l3] (.inr (some h) :: st) w Q = zR 12 26 [l0, l1, l2, l3] (.inr (zp w 37 h) :: st) w Q := zR_go (zst zT_12_23 (zget_r hk rfl))
theorem zT_12_26 : zT 12 26 = some (.iload_n 2, 1, 0, []) := by decide +kernel
theorem zr_12_26 {l0 l1 l3 : Option zV} {x : Int} {st : List zV} {w : zW} {Q : Option zV → zW → Prop}  : zR 12 26 [l0, l1, some (.inl x), l3] st w Q = zR 12 27 [l0, l1, some (.inl x), l3] (.inl x :: st) w Q := zR_go (zst zT_12_26 rfl)
theorem zT_12_27 : zT 12 27 = some (.iaload, 1, 0, []) := by decide +kernel
theorem zr_12_27 {l0 l1 l2 l3 : Option zV} {j : Int} {h : Nat} {st : List zV} {w : zW} {Q : Option zV → zW → Prop} (hk : (zk w h = zNC ∨ zk w h = zNC + 2) ∧ 0 ≤ zN j ∧ zN j < zl w h) : zR 12 27 [l0, l1, l2, l3] (.inl j :: .inr (some h) :: st) w Q = zR 12 28 [l0, l1, l2, l3] (.inl (za w h (zN j).toNat) :: st) w Q := zR_go (zst zT_12_27 (if_pos hk))
theorem zT_12_28 : zT 12 28 = some (.ireturn, 1, 0, []) := by decide +kernel
theorem zr_12_28 {l0 l1 l2 l3 : Option zV} {x : Int} {w : zW} {Q : Option zV → zW → Prop}  : zR 12 28 [l0, l1, l2, l3] [.inl x] w Q = Q (some (.inl x)) w := zR_ret (zst zT_12_28 rfl)
theorem zT_13_0 : zT 13 0 = some (.aload_n 0, 1, 0, []) := by decide +kernel
theorem zr_13_0 {l1 l2 l3 : Option zV} {x : Option Nat} {st : List zV} {w : zW} {Q : Option zV → zW → Prop}  : zR 13 0 [some (.inr x), l1, l2, l3] st w Q = zR 13 1 [some (.inr x), l1, l2, l3] (.inr x :: st) w Q := zR_go (zst zT_13_0 rfl)
theorem zT_13_1 : zT 13 1 = some (.getfield 30, 3, 0, [(0, 3)]) := by decide +kernel
theorem zr_13_1 {l0 l1 l2 l3 : Option zV} {h : Nat} {st : List zV} {w : zW} {Q : Option zV → zW → Prop} (hk : zk w h = 0) : zR 13 1 [l0, l1, l2, l3] (.inr (some h) :: st) w Q = zR 13 4 [l0, l1, l2, l3] (.inr (zp w 3 h) :: st) w Q := zR_go (zst zT_13_1 (zget_r hk rfl))
theorem zT_13_4 : zT 13 4 = some (.iload_n 1, 1, 0, []) := by decide +kernel
theorem zr_13_4 {l0 l2 l3 : Option zV} {x : Int} {st : List zV} {w : zW} {Q : Option zV → zW → Prop}  : zR 13 4 [l0, some (.inl x), l2, l3] st w Q = zR 13 5 [l0, some (.inl x), l2, l3] (.inl x :: st) w Q := zR_go (zst zT_13_4 rfl)
theorem zT_13_5 : zT 13 5 = some (.invokevirtual 169, 3, 1, [(1, 103)]) := by decide +kernel
theorem zr_13_5 {l0 l1 l2 l3 : Option zV} {a0 : zV} {h : Nat} {st : List zV} {w : zW} {Q : Option zV → zW → Prop} (hs : st.length ≤ 8) (hk : zk w h = 1) : zR 13 5 [l0, l1, l2, l3] (a0 :: .inr (some h) :: st) w Q = zR 103 0 [some (.inr (some h)), some a0] [] w (fun r w2 => zR 13 8 [l0, l1, l2, l3] (r.toList ++ st) w2 Q) := zR_call (zst zT_13_5 (zcall_v [a0] rfl hs hk rfl))
theorem zT_13_8 : zT 13 8 = some (.astore_n 3, 1, 0, []) := by decide +kernel
theorem zr_13_8 {l0 l1 l2 l3 : Option zV} {x : Option Nat} {st : List zV} {w : zW} {Q : Option zV → zW → Prop}  : zR 13 8 [l0, l1, l2, l3] (.inr x :: st) w Q = zR 13 9 [l0, l1, l2, some (.inr x)] st w Q := zR_go (zst zT_13_8 rfl)
theorem zT_13_9 : zT 13 9 = some (.aload_n 3, 1, 0, []) := by decide +kernel
theorem zr_13_9 {l0 l1 l2 : Option zV} {x : Option Nat} {st : List zV} {w : zW} {Q : Option zV → zW → Prop}  : zR 13 9 [l0, l1, l2, some (.inr x)] st w Q = zR 13 10 [l0, l1, l2, some (.inr x)] (.inr x :: st) w Q := zR_go (zst zT_13_9 rfl)
theorem zT_13_10 : zT 13 10 = some (.ifnonnull 5, 3, 0, []) := by decide +kernel
theorem zr_13_10n {l0 l1 l2 l3 : Option zV} {st : List zV} {w : zW} {Q : Option zV → zW → Prop}  : zR 13 10 [l0, l1, l2, l3] (.inr none :: st) w Q = zR 13 13 [l0, l1, l2, l3] st w Q := zR_go (zst zT_13_10 rfl)
theorem zr_13_10s {l0 l1 l2 l3 : Option zV} {h : Nat} {st : List zV} {w : zW} {Q : Option zV → zW → Prop}  : zR 13 10 [l0, l1, l2, l3] (.inr (some h) :: st) w Q = zR 13 15 [l0, l1, l2, l3] st w Q := zR_go (zst zT_13_10 rfl)
theorem zT_13_13 : zT 13 13 = some (.iconst (-1), 1, 0, []) := by decide +kernel
theorem zr_13_13 {l0 l1 l2 l3 : Option zV} {st : List zV} {w : zW} {Q : Option zV → zW → Prop}  : zR 13 13 [l0, l1, l2, l3] st w Q = zR 13 14 [l0, l1, l2, l3] (.inl (-1) :: st) w Q := zR_go (zst zT_13_13 rfl)
theorem zT_13_14 : zT 13 14 = some (.ireturn, 1, 0, []) := by decide +kernel
theorem zr_13_14 {l0 l1 l2 l3 : Option zV} {x : Int} {w : zW} {Q : Option zV → zW → Prop}  : zR 13 14 [l0, l1, l2, l3] [.inl x] w Q = Q (some (.inl x)) w := zR_ret (zst zT_13_14 rfl)
theorem zT_13_15 : zT 13 15 = some (.iload_n 2, 1, 0, []) := by decide +kernel
theorem zr_13_15 {l0 l1 l3 : Option zV} {x : Int} {st : List zV} {w : zW} {Q : Option zV → zW → Prop}  : zR 13 15 [l0, l1, some (.inl x), l3] st w Q = zR 13 16 [l0, l1, some (.inl x), l3] (.inl x :: st) w Q := zR_go (zst zT_13_15 rfl)
theorem zT_13_16 : zT 13 16 = some (.tableswitch 61 0 4 #[36, 41, 46, 51, 56], 36, 0, []) := by decide +kernel
theorem zr_13_16k0 {l0 l1 l2 l3 : Option zV} {x : Int} {st : List zV} {w : zW} {Q : Option zV → zW → Prop} (hx : zN x = 0) : zR 13 16 [l0, l1, l2, l3] (.inl x :: st) w Q = zR 13 52 [l0, l1, l2, l3] st w Q := zR_go (zst zT_13_16 (by simp [zins, zi_table, zgo, zto, hx]))
theorem zr_13_16k1 {l0 l1 l2 l3 : Option zV} {x : Int} {st : List zV} {w : zW} {Q : Option zV → zW → Prop} (hx : zN x = 1) : zR 13 16 [l0, l1, l2, l3] (.inl x :: st) w Q = zR 13 57 [l0, l1, l2, l3] st w Q := zR_go (zst zT_13_16 (by simp [zins, zi_table, zgo, zto, hx]))
theorem zr_13_16k2 {l0 l1 l2 l3 : Option zV} {x : Int} {st : List zV} {w : zW} {Q : Option zV → zW → Prop} (hx : zN x = 2) : zR 13 16 [l0, l1, l2, l3] (.inl x :: st) w Q = zR 13 62 [l0, l1, l2, l3] st w Q := zR_go (zst zT_13_16 (by simp [zins, zi_table, zgo, zto, hx]))
theorem zr_13_16k3 {l0 l1 l2 l3 : Option zV} {x : Int} {st : List zV} {w : zW} {Q : Option zV → zW → Prop} (hx : zN x = 3) : zR 13 16 [l0, l1, l2, l3] (.inl x :: st) w Q = zR 13 67 [l0, l1, l2, l3] st w Q := zR_go (zst zT_13_16 (by simp [zins, zi_table, zgo, zto, hx]))
theorem zr_13_16k4 {l0 l1 l2 l3 : Option zV} {x : Int} {st : List zV} {w : zW} {Q : Option zV → zW → Prop} (hx : zN x = 4) : zR 13 16 [l0, l1, l2, l3] (.inl x :: st) w Q = zR 13 72 [l0, l1, l2, l3] st w Q := zR_go (zst zT_13_16 (by simp [zins, zi_table, zgo, zto, hx]))
theorem zr_13_16d {l0 l1 l2 l3 : Option zV} {x : Int} {st : List zV} {w : zW} {Q : Option zV → zW → Prop} (hx : zN x < 0 ∨ 4 < zN x) : zR 13 16 [l0, l1, l2, l3] (.inl x :: st) w Q = zR 13 77 [l0, l1, l2, l3] st w Q := zR_go (zst zT_13_16 (by simp [zins, zi_table, zgo, zto, hx]))
theorem zT_13_52 : zT 13 52 = some (.aload_n 3, 1, 0, []) := by decide +kernel
theorem zr_13_52 {l0 l1 l2 : Option zV} {x : Option Nat} {st : List zV} {w : zW} {Q : Option zV → zW → Prop}  : zR 13 52 [l0, l1, l2, some (.inr x)] st w Q = zR 13 53 [l0, l1, l2, some (.inr x)] (.inr x :: st) w Q := zR_go (zst zT_13_52 rfl)
theorem zT_13_53 : zT 13 53 = some (.getfield 173, 3, 0, [(10, 5)]) := by decide +kernel
theorem zr_13_53 {l0 l1 l2 l3 : Option zV} {h : Nat} {st : List zV} {w : zW} {Q : Option zV → zW → Prop} (hk : zk w h = 10) : zR 13 53 [l0, l1, l2, l3] (.inr (some h) :: st) w Q = zR 13 56 [l0, l1, l2, l3] (.inl (zf w 69 h) :: st) w Q := zR_go (zst zT_13_53 (zget_i hk (Or.inl rfl)))
theorem zT_13_56 : zT 13 56 = some (.ireturn, 1, 0, []) := by decide +kernel
theorem zr_13_56 {l0 l1 l2 l3 : Option zV} {x : Int} {w : zW} {Q : Option zV → zW → Prop}  : zR 13 56 [l0, l1, l2, l3] [.inl x] w Q = Q (some (.inl x)) w := zR_ret (zst zT_13_56 rfl)
theorem zT_13_57 : zT 13 57 = some (.aload_n 3, 1, 0, []) := by decide +kernel
theorem zr_13_57 {l0 l1 l2 : Option zV} {x : Option Nat} {st : List zV} {w : zW} {Q : Option zV → zW → Prop}  : zR 13 57 [l0, l1, l2, some (.inr x)] st w Q = zR 13 58 [l0, l1, l2, some (.inr x)] (.inr x :: st) w Q := zR_go (zst zT_13_57 rfl)
theorem zT_13_58 : zT 13 58 = some (.getfield 176, 3, 0, [(10, 0)]) := by decide +kernel
theorem zr_13_58 {l0 l1 l2 l3 : Option zV} {h : Nat} {st : List zV} {w : zW} {Q : Option zV → zW → Prop} (hk : zk w h = 10) : zR 13 58 [l0, l1, l2, l3] (.inr (some h) :: st) w Q = zR 13 61 [l0, l1, l2, l3] (.inl (zf w 64 h) :: st) w Q := zR_go (zst zT_13_58 (zget_i hk (Or.inl rfl)))
theorem zT_13_61 : zT 13 61 = some (.ireturn, 1, 0, []) := by decide +kernel
theorem zr_13_61 {l0 l1 l2 l3 : Option zV} {x : Int} {w : zW} {Q : Option zV → zW → Prop}  : zR 13 61 [l0, l1, l2, l3] [.inl x] w Q = Q (some (.inl x)) w := zR_ret (zst zT_13_61 rfl)
theorem zT_13_62 : zT 13 62 = some (.aload_n 3, 1, 0, []) := by decide +kernel
theorem zr_13_62 {l0 l1 l2 : Option zV} {x : Option Nat} {st : List zV} {w : zW} {Q : Option zV → zW → Prop}  : zR 13 62 [l0, l1, l2, some (.inr x)] st w Q = zR 13 63 [l0, l1, l2, some (.inr x)] (.inr x :: st) w Q := zR_go (zst zT_13_62 rfl)
theorem zT_13_63 : zT 13 63 = some (.getfield 177, 3, 0, [(10, 6)]) := by decide +kernel
theorem zr_13_63 {l0 l1 l2 l3 : Option zV} {h : Nat} {st : List zV} {w : zW} {Q : Option zV → zW → Prop} (hk : zk w h = 10) : zR 13 63 [l0, l1, l2, l3] (.inr (some h) :: st) w Q = zR 13 66 [l0, l1, l2, l3] (.inl (zf w 70 h) :: st) w Q := zR_go (zst zT_13_63 (zget_i hk (Or.inl rfl)))
theorem zT_13_66 : zT 13 66 = some (.ireturn, 1, 0, []) := by decide +kernel
theorem zr_13_66 {l0 l1 l2 l3 : Option zV} {x : Int} {w : zW} {Q : Option zV → zW → Prop}  : zR 13 66 [l0, l1, l2, l3] [.inl x] w Q = Q (some (.inl x)) w := zR_ret (zst zT_13_66 rfl)
theorem zT_13_67 : zT 13 67 = some (.aload_n 3, 1, 0, []) := by decide +kernel
theorem zr_13_67 {l0 l1 l2 : Option zV} {x : Option Nat} {st : List zV} {w : zW} {Q : Option zV → zW → Prop}  : zR 13 67 [l0, l1, l2, some (.inr x)] st w Q = zR 13 68 [l0, l1, l2, some (.inr x)] (.inr x :: st) w Q := zR_go (zst zT_13_67 rfl)
theorem zT_13_68 : zT 13 68 = some (.getfield 180, 3, 0, [(10, 7)]) := by decide +kernel
theorem zr_13_68 {l0 l1 l2 l3 : Option zV} {h : Nat} {st : List zV} {w : zW} {Q : Option zV → zW → Prop} (hk : zk w h = 10) : zR 13 68 [l0, l1, l2, l3] (.inr (some h) :: st) w Q = zR 13 71 [l0, l1, l2, l3] (.inl (zf w 71 h) :: st) w Q := zR_go (zst zT_13_68 (zget_i hk (Or.inl rfl)))
theorem zT_13_71 : zT 13 71 = some (.ireturn, 1, 0, []) := by decide +kernel
theorem zr_13_71 {l0 l1 l2 l3 : Option zV} {x : Int} {w : zW} {Q : Option zV → zW → Prop}  : zR 13 71 [l0, l1, l2, l3] [.inl x] w Q = Q (some (.inl x)) w := zR_ret (zst zT_13_71 rfl)
theorem zT_13_72 : zT 13 72 = some (.aload_n 3, 1, 0, []) := by decide +kernel
theorem zr_13_72 {l0 l1 l2 : Option zV} {x : Option Nat} {st : List zV} {w : zW} {Q : Option zV → zW → Prop}  : zR 13 72 [l0, l1, l2, some (.inr x)] st w Q = zR 13 73 [l0, l1, l2, some (.inr x)] (.inr x :: st) w Q := zR_go (zst zT_13_72 rfl)
theorem zT_13_73 : zT 13 73 = some (.getfield 183, 3, 0, [(10, 4)]) := by decide +kernel
theorem zr_13_73 {l0 l1 l2 l3 : Option zV} {h : Nat} {st : List zV} {w : zW} {Q : Option zV → zW → Prop} (hk : zk w h = 10) : zR 13 73 [l0, l1, l2, l3] (.inr (some h) :: st) w Q = zR 13 76 [l0, l1, l2, l3] (.inl (zf w 68 h) :: st) w Q := zR_go (zst zT_13_73 (zget_i hk (Or.inl rfl)))
theorem zT_13_76 : zT 13 76 = some (.ireturn, 1, 0, []) := by decide +kernel
theorem zr_13_76 {l0 l1 l2 l3 : Option zV} {x : Int} {w : zW} {Q : Option zV → zW → Prop}  : zR 13 76 [l0, l1, l2, l3] [.inl x] w Q = Q (some (.inl x)) w := zR_ret (zst zT_13_76 rfl)
theorem zT_13_77 : zT 13 77 = some (.iconst (-1), 1, 0, []) := by decide +kernel
theorem zr_13_77 {l0 l1 l2 l3 : Option zV} {st : List zV} {w : zW} {Q : Option zV → zW → Prop}  : zR 13 77 [l0, l1, l2, l3] st w Q = zR 13 78 [l0, l1, l2, l3] (.inl (-1) :: st) w Q := zR_go (zst zT_13_77 rfl)
theorem zT_13_78 : zT 13 78 = some (.ireturn, 1, 0, []) := by decide +kernel
theorem zr_13_78 {l0 l1 l2 l3 : Option zV} {x : Int} {w : zW} {Q : Option zV → zW → Prop}  : zR 13 78 [l0, l1, l2, l3] [.inl x] w Q = Q (some (.inl x)) w := zR_ret (zst zT_13_78 rfl)
theorem zT_14_0 : zT 14 0 = some (.aload_n 0, 1, 0, []) := by decide +kernel
theorem zr_14_0 {l1 l2 l3 : Option zV} {x : Option Nat} {st : List zV} {w : zW} {Q : Option zV → zW → Prop}  : zR 14 0 [some (.inr x), l1, l2, l3] st w Q = zR 14 1 [some (.inr x), l1, l2, l3] (.inr x :: st) w Q := zR_go (zst zT_14_0 rfl)
theorem zT_14_1 : zT 14 1 = some (.getfield 30, 3, 0, [(0, 3)]) := by decide +kernel
theorem zr_14_1 {l0 l1 l2 l3 : Option zV} {h : Nat} {st : List zV} {w : zW} {Q : Option zV → zW → Prop} (hk : zk w h = 0) : zR 14 1 [l0, l1, l2, l3] (.inr (some h) :: st) w Q = zR 14 4 [l0, l1, l2, l3] (.inr (zp w 3 h) :: st) w Q := zR_go (zst zT_14_1 (zget_r hk rfl))
theorem zT_14_4 : zT 14 4 = some (.iload_n 1, 1, 0, []) := by decide +kernel
theorem zr_14_4 {l0 l2 l3 : Option zV} {x : Int} {st : List zV} {w : zW} {Q : Option zV → zW → Prop}  : zR 14 4 [l0, some (.inl x), l2, l3] st w Q = zR 14 5 [l0, some (.inl x), l2, l3] (.inl x :: st) w Q := zR_go (zst zT_14_4 rfl)
theorem zT_14_5 : zT 14 5 = some (.invokevirtual 169, 3, 1, [(1, 103)]) := by decide +kernel
theorem zr_14_5 {l0 l1 l2 l3 : Option zV} {a0 : zV} {h : Nat} {st : List zV} {w : zW} {Q : Option zV → zW → Prop} (hs : st.length ≤ 8) (hk : zk w h = 1) : zR 14 5 [l0, l1, l2, l3] (a0 :: .inr (some h) :: st) w Q = zR 103 0 [some (.inr (some h)), some a0] [] w (fun r w2 => zR 14 8 [l0, l1, l2, l3] (r.toList ++ st) w2 Q) := zR_call (zst zT_14_5 (zcall_v [a0] rfl hs hk rfl))
theorem zT_14_8 : zT 14 8 = some (.astore_n 3, 1, 0, []) := by decide +kernel
theorem zr_14_8 {l0 l1 l2 l3 : Option zV} {x : Option Nat} {st : List zV} {w : zW} {Q : Option zV → zW → Prop}  : zR 14 8 [l0, l1, l2, l3] (.inr x :: st) w Q = zR 14 9 [l0, l1, l2, some (.inr x)] st w Q := zR_go (zst zT_14_8 rfl)
theorem zT_14_9 : zT 14 9 = some (.aload_n 3, 1, 0, []) := by decide +kernel
theorem zr_14_9 {l0 l1 l2 : Option zV} {x : Option Nat} {st : List zV} {w : zW} {Q : Option zV → zW → Prop}  : zR 14 9 [l0, l1, l2, some (.inr x)] st w Q = zR 14 10 [l0, l1, l2, some (.inr x)] (.inr x :: st) w Q := zR_go (zst zT_14_9 rfl)
theorem zT_14_10 : zT 14 10 = some (.ifnull 15, 3, 0, []) := by decide +kernel
theorem zr_14_10n {l0 l1 l2 l3 : Option zV} {st : List zV} {w : zW} {Q : Option zV → zW → Prop}  : zR 14 10 [l0, l1, l2, l3] (.inr none :: st) w Q = zR 14 25 [l0, l1, l2, l3] st w Q := zR_go (zst zT_14_10 rfl)
theorem zr_14_10s {l0 l1 l2 l3 : Option zV} {h : Nat} {st : List zV} {w : zW} {Q : Option zV → zW → Prop}  : zR 14 10 [l0, l1, l2, l3] (.inr (some h) :: st) w Q = zR 14 13 [l0, l1, l2, l3] st w Q := zR_go (zst zT_14_10 rfl)
theorem zT_14_13 : zT 14 13 = some (.iload_n 2, 1, 0, []) := by decide +kernel
theorem zr_14_13 {l0 l1 l3 : Option zV} {x : Int} {st : List zV} {w : zW} {Q : Option zV → zW → Prop}  : zR 14 13 [l0, l1, some (.inl x), l3] st w Q = zR 14 14 [l0, l1, some (.inl x), l3] (.inl x :: st) w Q := zR_go (zst zT_14_13 rfl)
theorem zT_14_14 : zT 14 14 = some (.ifCond .lt 11, 3, 0, []) := by decide +kernel
theorem zr_14_14 {l0 l1 l2 l3 : Option zV} {x : Int} {st : List zV} {w : zW} {Q : Option zV → zW → Prop}  : zR 14 14 [l0, l1, l2, l3] (.inl x :: st) w Q = (if zN x < 0 then zR 14 25 [l0, l1, l2, l3] st w Q else zR 14 17 [l0, l1, l2, l3] st w Q) := zR_if (zstB zT_14_14 rfl) (by simp [zcmp])
theorem zT_14_17 : zT 14 17 = some (.iload_n 2, 1, 0, []) := by decide +kernel
theorem zr_14_17 {l0 l1 l3 : Option zV} {x : Int} {st : List zV} {w : zW} {Q : Option zV → zW → Prop}  : zR 14 17 [l0, l1, some (.inl x), l3] st w Q = zR 14 18 [l0, l1, some (.inl x), l3] (.inl x :: st) w Q := zR_go (zst zT_14_17 rfl)
theorem zT_14_18 : zT 14 18 = some (.aload_n 3, 1, 0, []) := by decide +kernel
theorem zr_14_18 {l0 l1 l2 : Option zV} {x : Option Nat} {st : List zV} {w : zW} {Q : Option zV → zW → Prop}  : zR 14 18 [l0, l1, l2, some (.inr x)] st w Q = zR 14 19 [l0, l1, l2, some (.inr x)] (.inr x :: st) w Q := zR_go (zst zT_14_18 rfl)
theorem zT_14_19 : zT 14 19 = some (.getfield 183, 3, 0, [(10, 4)]) := by decide +kernel
theorem zr_14_19 {l0 l1 l2 l3 : Option zV} {h : Nat} {st : List zV} {w : zW} {Q : Option zV → zW → Prop} (hk : zk w h = 10) : zR 14 19 [l0, l1, l2, l3] (.inr (some h) :: st) w Q = zR 14 22 [l0, l1, l2, l3] (.inl (zf w 68 h) :: st) w Q := zR_go (zst zT_14_19 (zget_i hk (Or.inl rfl)))
theorem zT_14_22 : zT 14 22 = some (.if_icmp .lt 5, 3, 0, []) := by decide +kernel
theorem zr_14_22 {l0 l1 l2 l3 : Option zV} {x y : Int} {st : List zV} {w : zW} {Q : Option zV → zW → Prop}  : zR 14 22 [l0, l1, l2, l3] (.inl y :: .inl x :: st) w Q = (if zN x < zN y then zR 14 27 [l0, l1, l2, l3] st w Q else zR 14 25 [l0, l1, l2, l3] st w Q) := zR_if (zstB zT_14_22 rfl) (by simp [zcmp])
theorem zT_14_25 : zT 14 25 = some (.iconst (-1), 1, 0, []) := by decide +kernel
theorem zr_14_25 {l0 l1 l2 l3 : Option zV} {st : List zV} {w : zW} {Q : Option zV → zW → Prop}  : zR 14 25 [l0, l1, l2, l3] st w Q = zR 14 26 [l0, l1, l2, l3] (.inl (-1) :: st) w Q := zR_go (zst zT_14_25 rfl)
theorem zT_14_26 : zT 14 26 = some (.ireturn, 1, 0, []) := by decide +kernel
theorem zr_14_26 {l0 l1 l2 l3 : Option zV} {x : Int} {w : zW} {Q : Option zV → zW → Prop}  : zR 14 26 [l0, l1, l2, l3] [.inl x] w Q = Q (some (.inl x)) w := zR_ret (zst zT_14_26 rfl)
theorem zT_14_27 : zT 14 27 = some (.aload_n 3, 1, 0, []) := by decide +kernel
theorem zr_14_27 {l0 l1 l2 : Option zV} {x : Option Nat} {st : List zV} {w : zW} {Q : Option zV → zW → Prop}  : zR 14 27 [l0, l1, l2, some (.inr x)] st w Q = zR 14 28 [l0, l1, l2, some (.inr x)] (.inr x :: st) w Q := zR_go (zst zT_14_27 rfl)
theorem zT_14_28 : zT 14 28 = some (.getfield 186, 3, 0, [(10, 3)]) := by decide +kernel
theorem zr_14_28 {l0 l1 l2 l3 : Option zV} {h : Nat} {st : List zV} {w : zW} {Q : Option zV → zW → Prop} (hk : zk w h = 10) : zR 14 28 [l0, l1, l2, l3] (.inr (some h) :: st) w Q = zR 14 31 [l0, l1, l2, l3] (.inr (zp w 67 h) :: st) w Q := zR_go (zst zT_14_28 (zget_r hk rfl))
theorem zT_14_31 : zT 14 31 = some (.iload_n 2, 1, 0, []) := by decide +kernel
theorem zr_14_31 {l0 l1 l3 : Option zV} {x : Int} {st : List zV} {w : zW} {Q : Option zV → zW → Prop}  : zR 14 31 [l0, l1, some (.inl x), l3] st w Q = zR 14 32 [l0, l1, some (.inl x), l3] (.inl x :: st) w Q := zR_go (zst zT_14_31 rfl)
theorem zT_14_32 : zT 14 32 = some (.iaload, 1, 0, []) := by decide +kernel
theorem zr_14_32 {l0 l1 l2 l3 : Option zV} {j : Int} {h : Nat} {st : List zV} {w : zW} {Q : Option zV → zW → Prop} (hk : (zk w h = zNC ∨ zk w h = zNC + 2) ∧ 0 ≤ zN j ∧ zN j < zl w h) : zR 14 32 [l0, l1, l2, l3] (.inl j :: .inr (some h) :: st) w Q = zR 14 33 [l0, l1, l2, l3] (.inl (za w h (zN j).toNat) :: st) w Q := zR_go (zst zT_14_32 (if_pos hk))
theorem zT_14_33 : zT 14 33 = some (.ireturn, 1, 0, []) := by decide +kernel
theorem zr_14_33 {l0 l1 l2 l3 : Option zV} {x : Int} {w : zW} {Q : Option zV → zW → Prop}  : zR 14 33 [l0, l1, l2, l3] [.inl x] w Q = Q (some (.inl x)) w := zR_ret (zst zT_14_33 rfl)
theorem zT_15_0 : zT 15 0 = some (.iload_n 1, 1, 0, []) := by decide +kernel
theorem zr_15_0 {l0 l2 l3 : Option zV} {x : Int} {st : List zV} {w : zW} {Q : Option zV → zW → Prop}  : zR 15 0 [l0, some (.inl x), l2, l3] st w Q = zR 15 1 [l0, some (.inl x), l2, l3] (.inl x :: st) w Q := zR_go (zst zT_15_0 rfl)
theorem zT_15_1 : zT 15 1 = some (.ifCond .lt 14, 3, 0, []) := by decide +kernel
theorem zr_15_1 {l0 l1 l2 l3 : Option zV} {x : Int} {st : List zV} {w : zW} {Q : Option zV → zW → Prop}  : zR 15 1 [l0, l1, l2, l3] (.inl x :: st) w Q = (if zN x < 0 then zR 15 15 [l0, l1, l2, l3] st w Q else zR 15 4 [l0, l1, l2, l3] st w Q) := zR_if (zstB zT_15_1 rfl) (by simp [zcmp])
theorem zT_15_4 : zT 15 4 = some (.iload_n 1, 1, 0, []) := by decide +kernel
theorem zr_15_4 {l0 l2 l3 : Option zV} {x : Int} {st : List zV} {w : zW} {Q : Option zV → zW → Prop}  : zR 15 4 [l0, some (.inl x), l2, l3] st w Q = zR 15 5 [l0, some (.inl x), l2, l3] (.inl x :: st) w Q := zR_go (zst zT_15_4 rfl)
theorem zT_15_5 : zT 15 5 = some (.aload_n 0, 1, 0, []) := by decide +kernel
theorem zr_15_5 {l1 l2 l3 : Option zV} {x : Option Nat} {st : List zV} {w : zW} {Q : Option zV → zW → Prop}  : zR 15 5 [some (.inr x), l1, l2, l3] st w Q = zR 15 6 [some (.inr x), l1, l2, l3] (.inr x :: st) w Q := zR_go (zst zT_15_5 rfl)
theorem zT_15_6 : zT 15 6 = some (.getfield 30, 3, 0, [(0, 3)]) := by decide +kernel
theorem zr_15_6 {l0 l1 l2 l3 : Option zV} {h : Nat} {st : List zV} {w : zW} {Q : Option zV → zW → Prop} (hk : zk w h = 0) : zR 15 6 [l0, l1, l2, l3] (.inr (some h) :: st) w Q = zR 15 9 [l0, l1, l2, l3] (.inr (zp w 3 h) :: st) w Q := zR_go (zst zT_15_6 (zget_r hk rfl))
theorem zT_15_9 : zT 15 9 = some (.getfield 189, 3, 0, [(1, 4)]) := by decide +kernel
theorem zr_15_9 {l0 l1 l2 l3 : Option zV} {h : Nat} {st : List zV} {w : zW} {Q : Option zV → zW → Prop} (hk : zk w h = 1) : zR 15 9 [l0, l1, l2, l3] (.inr (some h) :: st) w Q = zR 15 12 [l0, l1, l2, l3] (.inl (zf w 10 h) :: st) w Q := zR_go (zst zT_15_9 (zget_i hk (Or.inl rfl)))
theorem zT_15_12 : zT 15 12 = some (.if_icmp .lt 6, 3, 0, []) := by decide +kernel
theorem zr_15_12 {l0 l1 l2 l3 : Option zV} {x y : Int} {st : List zV} {w : zW} {Q : Option zV → zW → Prop}  : zR 15 12 [l0, l1, l2, l3] (.inl y :: .inl x :: st) w Q = (if zN x < zN y then zR 15 18 [l0, l1, l2, l3] st w Q else zR 15 15 [l0, l1, l2, l3] st w Q) := zR_if (zstB zT_15_12 rfl) (by simp [zcmp])
theorem zT_15_15 : zT 15 15 = some (.ldc 192, 2, (-40000), []) := by decide +kernel
theorem zr_15_15 {l0 l1 l2 l3 : Option zV} {st : List zV} {w : zW} {Q : Option zV → zW → Prop}  : zR 15 15 [l0, l1, l2, l3] st w Q = zR 15 17 [l0, l1, l2, l3] (.inl (-40000) :: st) w Q := zR_go (zst zT_15_15 rfl)
theorem zT_15_17 : zT 15 17 = some (.ireturn, 1, 0, []) := by decide +kernel
theorem zr_15_17 {l0 l1 l2 l3 : Option zV} {x : Int} {w : zW} {Q : Option zV → zW → Prop}  : zR 15 17 [l0, l1, l2, l3] [.inl x] w Q = Q (some (.inl x)) w := zR_ret (zst zT_15_17 rfl)
theorem zT_15_18 : zT 15 18 = some (.aload_n 0, 1, 0, []) := by decide +kernel
theorem zr_15_18 {l1 l2 l3 : Option zV} {x : Option Nat} {st : List zV} {w : zW} {Q : Option zV → zW → Prop}  : zR 15 18 [some (.inr x), l1, l2, l3] st w Q = zR 15 19 [some (.inr x), l1, l2, l3] (.inr x :: st) w Q := zR_go (zst zT_15_18 rfl)
theorem zT_15_19 : zT 15 19 = some (.getfield 30, 3, 0, [(0, 3)]) := by decide +kernel
theorem zr_15_19 {l0 l1 l2 l3 : Option zV} {h : Nat} {st : List zV} {w : zW} {Q : Option zV → zW → Prop} (hk : zk w h = 0) : zR 15 19 [l0, l1, l2, l3] (.inr (some h) :: st) w Q = zR 15 22 [l0, l1, l2, l3] (.inr (zp w 3 h) :: st) w Q := zR_go (zst zT_15_19 (zget_r hk rfl))
theorem zT_15_22 : zT 15 22 = some (.iload_n 1, 1, 0, []) := by decide +kernel
theorem zr_15_22 {l0 l2 l3 : Option zV} {x : Int} {st : List zV} {w : zW} {Q : Option zV → zW → Prop}  : zR 15 22 [l0, some (.inl x), l2, l3] st w Q = zR 15 23 [l0, some (.inl x), l2, l3] (.inl x :: st) w Q := zR_go (zst zT_15_22 rfl)
theorem zT_15_23 : zT 15 23 = some (.invokevirtual 193, 3, 1, [(1, 109)]) := by decide +kernel
theorem zr_15_23 {l0 l1 l2 l3 : Option zV} {a0 : zV} {h : Nat} {st : List zV} {w : zW} {Q : Option zV → zW → Prop} (hs : st.length ≤ 8) (hk : zk w h = 1) : zR 15 23 [l0, l1, l2, l3] (a0 :: .inr (some h) :: st) w Q = zR 109 0 [some (.inr (some h)), some a0] [] w (fun r w2 => zR 15 26 [l0, l1, l2, l3] (r.toList ++ st) w2 Q) := zR_call (zst zT_15_23 (zcall_v [a0] rfl hs hk rfl))
theorem zT_15_26 : zT 15 26 = some (.istore_n 3, 1, 0, []) := by decide +kernel
theorem zr_15_26 {l0 l1 l2 l3 : Option zV} {x : Int} {st : List zV} {w : zW} {Q : Option zV → zW → Prop}  : zR 15 26 [l0, l1, l2, l3] (.inl x :: st) w Q = zR 15 27 [l0, l1, l2, some (.inl x)] st w Q := zR_go (zst zT_15_26 rfl)
theorem zT_15_27 : zT 15 27 = some (.iload_n 2, 1, 0, []) := by decide +kernel
theorem zr_15_27 {l0 l1 l3 : Option zV} {x : Int} {st : List zV} {w : zW} {Q : Option zV → zW → Prop}  : zR 15 27 [l0, l1, some (.inl x), l3] st w Q = zR 15 28 [l0, l1, some (.inl x), l3] (.inl x :: st) w Q := zR_go (zst zT_15_27 rfl)
theorem zT_15_28 : zT 15 28 = some (.tableswitch 58 0 2 #[28, 38, 48], 28, 0, []) := by decide +kernel
theorem zr_15_28k0 {l0 l1 l2 l3 : Option zV} {x : Int} {st : List zV} {w : zW} {Q : Option zV → zW → Prop} (hx : zN x = 0) : zR 15 28 [l0, l1, l2, l3] (.inl x :: st) w Q = zR 15 56 [l0, l1, l2, l3] st w Q := zR_go (zst zT_15_28 (by simp [zins, zi_table, zgo, zto, hx]))
theorem zr_15_28k1 {l0 l1 l2 l3 : Option zV} {x : Int} {st : List zV} {w : zW} {Q : Option zV → zW → Prop} (hx : zN x = 1) : zR 15 28 [l0, l1, l2, l3] (.inl x :: st) w Q = zR 15 66 [l0, l1, l2, l3] st w Q := zR_go (zst zT_15_28 (by simp [zins, zi_table, zgo, zto, hx]))
theorem zr_15_28k2 {l0 l1 l2 l3 : Option zV} {x : Int} {st : List zV} {w : zW} {Q : Option zV → zW → Prop} (hx : zN x = 2) : zR 15 28 [l0, l1, l2, l3] (.inl x :: st) w Q = zR 15 76 [l0, l1, l2, l3] st w Q := zR_go (zst zT_15_28 (by simp [zins, zi_table, zgo, zto, hx]))
theorem zr_15_28d {l0 l1 l2 l3 : Option zV} {x : Int} {st : List zV} {w : zW} {Q : Option zV → zW → Prop} (hx : zN x < 0 ∨ 2 < zN x) : zR 15 28 [l0, l1, l2, l3] (.inl x :: st) w Q = zR 15 86 [l0, l1, l2, l3] st w Q := zR_go (zst zT_15_28 (by simp [zins, zi_table, zgo, zto, hx]))
theorem zT_15_56 : zT 15 56 = some (.aload_n 0, 1, 0, []) := by decide +kernel
theorem zr_15_56 {l1 l2 l3 : Option zV} {x : Option Nat} {st : List zV} {w : zW} {Q : Option zV → zW → Prop}  : zR 15 56 [some (.inr x), l1, l2, l3] st w Q = zR 15 57 [some (.inr x), l1, l2, l3] (.inr x :: st) w Q := zR_go (zst zT_15_56 rfl)
theorem zT_15_57 : zT 15 57 = some (.getfield 30, 3, 0, [(0, 3)]) := by decide +kernel
theorem zr_15_57 {l0 l1 l2 l3 : Option zV} {h : Nat} {st : List zV} {w : zW} {Q : Option zV → zW → Prop} (hk : zk w h = 0) : zR 15 57 [l0, l1, l2, l3] (.inr (some h) :: st) w Q = zR 15 60 [l0, l1, l2, l3] (.inr (zp w 3 h) :: st) w Q := zR_go (zst zT_15_57 (zget_r hk rfl))
theorem zT_15_60 : zT 15 60 = some (.getfield 197, 3, 0, [(1, 1)]) := by decide +kernel
theorem zr_15_60 {l0 l1 l2 l3 : Option zV} {h : Nat} {st : List zV} {w : zW} {Q : Option zV → zW → Prop} (hk : zk w h = 1) : zR 15 60 [l0, l1, l2, l3] (.inr (some h) :: st) w Q = zR 15 63 [l0, l1, l2, l3] (.inr (zp w 7 h) :: st) w Q := zR_go (zst zT_15_60 (zget_r hk rfl))
theorem zT_15_63 : zT 15 63 = some (.iload_n 3, 1, 0, []) := by decide +kernel
theorem zr_15_63 {l0 l1 l2 : Option zV} {x : Int} {st : List zV} {w : zW} {Q : Option zV → zW → Prop}  : zR 15 63 [l0, l1, l2, some (.inl x)] st w Q = zR 15 64 [l0, l1, l2, some (.inl x)] (.inl x :: st) w Q := zR_go (zst zT_15_63 rfl)
theorem zT_15_64 : zT 15 64 = some (.iaload, 1, 0, []) := by decide +kernel
theorem zr_15_64 {l0 l1 l2 l3 : Option zV} {j : Int} {h : Nat} {st : List zV} {w : zW} {Q : Option zV → zW → Prop} (hk : (zk w h = zNC ∨ zk w h = zNC + 2) ∧ 0 ≤ zN j ∧ zN j < zl w h) : zR 15 64 [l0, l1, l2, l3] (.inl j :: .inr (some h) :: st) w Q = zR 15 65 [l0, l1, l2, l3] (.inl (za w h (zN j).toNat) :: st) w Q := zR_go (zst zT_15_64 (if_pos hk))
theorem zT_15_65 : zT 15 65 = some (.ireturn, 1, 0, []) := by decide +kernel
theorem zr_15_65 {l0 l1 l2 l3 : Option zV} {x : Int} {w : zW} {Q : Option zV → zW → Prop}  : zR 15 65 [l0, l1, l2, l3] [.inl x] w Q = Q (some (.inl x)) w := zR_ret (zst zT_15_65 rfl)
theorem zT_15_66 : zT 15 66 = some (.aload_n 0, 1, 0, []) := by decide +kernel
theorem zr_15_66 {l1 l2 l3 : Option zV} {x : Option Nat} {st : List zV} {w : zW} {Q : Option zV → zW → Prop}  : zR 15 66 [some (.inr x), l1, l2, l3] st w Q = zR 15 67 [some (.inr x), l1, l2, l3] (.inr x :: st) w Q := zR_go (zst zT_15_66 rfl)
theorem zT_15_67 : zT 15 67 = some (.getfield 30, 3, 0, [(0, 3)]) := by decide +kernel
theorem zr_15_67 {l0 l1 l2 l3 : Option zV} {h : Nat} {st : List zV} {w : zW} {Q : Option zV → zW → Prop} (hk : zk w h = 0) : zR 15 67 [l0, l1, l2, l3] (.inr (some h) :: st) w Q = zR 15 70 [l0, l1, l2, l3] (.inr (zp w 3 h) :: st) w Q := zR_go (zst zT_15_67 (zget_r hk rfl))
theorem zT_15_70 : zT 15 70 = some (.getfield 200, 3, 0, [(1, 2)]) := by decide +kernel
theorem zr_15_70 {l0 l1 l2 l3 : Option zV} {h : Nat} {st : List zV} {w : zW} {Q : Option zV → zW → Prop} (hk : zk w h = 1) : zR 15 70 [l0, l1, l2, l3] (.inr (some h) :: st) w Q = zR 15 73 [l0, l1, l2, l3] (.inr (zp w 8 h) :: st) w Q := zR_go (zst zT_15_70 (zget_r hk rfl))
theorem zT_15_73 : zT 15 73 = some (.iload_n 3, 1, 0, []) := by decide +kernel
theorem zr_15_73 {l0 l1 l2 : Option zV} {x : Int} {st : List zV} {w : zW} {Q : Option zV → zW → Prop}  : zR 15 73 [l0, l1, l2, some (.inl x)] st w Q = zR 15 74 [l0, l1, l2, some (.inl x)] (.inl x :: st) w Q := zR_go (zst zT_15_73 rfl)
theorem zT_15_74 : zT 15 74 = some (.iaload, 1, 0, []) := by decide +kernel
theorem zr_15_74 {l0 l1 l2 l3 : Option zV} {j : Int} {h : Nat} {st : List zV} {w : zW} {Q : Option zV → zW → Prop} (hk : (zk w h = zNC ∨ zk w h = zNC + 2) ∧ 0 ≤ zN j ∧ zN j < zl w h) : zR 15 74 [l0, l1, l2, l3] (.inl j :: .inr (some h) :: st) w Q = zR 15 75 [l0, l1, l2, l3] (.inl (za w h (zN j).toNat) :: st) w Q := zR_go (zst zT_15_74 (if_pos hk))
theorem zT_15_75 : zT 15 75 = some (.ireturn, 1, 0, []) := by decide +kernel
theorem zr_15_75 {l0 l1 l2 l3 : Option zV} {x : Int} {w : zW} {Q : Option zV → zW → Prop}  : zR 15 75 [l0, l1, l2, l3] [.inl x] w Q = Q (some (.inl x)) w := zR_ret (zst zT_15_75 rfl)
theorem zT_15_76 : zT 15 76 = some (.aload_n 0, 1, 0, []) := by decide +kernel
theorem zr_15_76 {l1 l2 l3 : Option zV} {x : Option Nat} {st : List zV} {w : zW} {Q : Option zV → zW → Prop}  : zR 15 76 [some (.inr x), l1, l2, l3] st w Q = zR 15 77 [some (.inr x), l1, l2, l3] (.inr x :: st) w Q := zR_go (zst zT_15_76 rfl)
theorem zT_15_77 : zT 15 77 = some (.getfield 30, 3, 0, [(0, 3)]) := by decide +kernel
theorem zr_15_77 {l0 l1 l2 l3 : Option zV} {h : Nat} {st : List zV} {w : zW} {Q : Option zV → zW → Prop} (hk : zk w h = 0) : zR 15 77 [l0, l1, l2, l3] (.inr (some h) :: st) w Q = zR 15 80 [l0, l1, l2, l3] (.inr (zp w 3 h) :: st) w Q := zR_go (zst zT_15_77 (zget_r hk rfl))
theorem zT_15_80 : zT 15 80 = some (.getfield 203, 3, 0, [(1, 3)]) := by decide +kernel
theorem zr_15_80 {l0 l1 l2 l3 : Option zV} {h : Nat} {st : List zV} {w : zW} {Q : Option zV → zW → Prop} (hk : zk w h = 1) : zR 15 80 [l0, l1, l2, l3] (.inr (some h) :: st) w Q = zR 15 83 [l0, l1, l2, l3] (.inr (zp w 9 h) :: st) w Q := zR_go (zst zT_15_80 (zget_r hk rfl))
theorem zT_15_83 : zT 15 83 = some (.iload_n 3, 1, 0, []) := by decide +kernel
theorem zr_15_83 {l0 l1 l2 : Option zV} {x : Int} {st : List zV} {w : zW} {Q : Option zV → zW → Prop}  : zR 15 83 [l0, l1, l2, some (.inl x)] st w Q = zR 15 84 [l0, l1, l2, some (.inl x)] (.inl x :: st) w Q := zR_go (zst zT_15_83 rfl)
theorem zT_15_84 : zT 15 84 = some (.iaload, 1, 0, []) := by decide +kernel
theorem zr_15_84 {l0 l1 l2 l3 : Option zV} {j : Int} {h : Nat} {st : List zV} {w : zW} {Q : Option zV → zW → Prop} (hk : (zk w h = zNC ∨ zk w h = zNC + 2) ∧ 0 ≤ zN j ∧ zN j < zl w h) : zR 15 84 [l0, l1, l2, l3] (.inl j :: .inr (some h) :: st) w Q = zR 15 85 [l0, l1, l2, l3] (.inl (za w h (zN j).toNat) :: st) w Q := zR_go (zst zT_15_84 (if_pos hk))
theorem zT_15_85 : zT 15 85 = some (.ireturn, 1, 0, []) := by decide +kernel
theorem zr_15_85 {l0 l1 l2 l3 : Option zV} {x : Int} {w : zW} {Q : Option zV → zW → Prop}  : zR 15 85 [l0, l1, l2, l3] [.inl x] w Q = Q (some (.inl x)) w := zR_ret (zst zT_15_85 rfl)
theorem zT_15_86 : zT 15 86 = some (.ldc 192, 2, (-40000), []) := by decide +kernel
theorem zr_15_86 {l0 l1 l2 l3 : Option zV} {st : List zV} {w : zW} {Q : Option zV → zW → Prop}  : zR 15 86 [l0, l1, l2, l3] st w Q = zR 15 88 [l0, l1, l2, l3] (.inl (-40000) :: st) w Q := zR_go (zst zT_15_86 rfl)
theorem zT_15_88 : zT 15 88 = some (.ireturn, 1, 0, []) := by decide +kernel
theorem zr_15_88 {l0 l1 l2 l3 : Option zV} {x : Int} {w : zW} {Q : Option zV → zW → Prop}  : zR 15 88 [l0, l1, l2, l3] [.inl x] w Q = Q (some (.inl x)) w := zR_ret (zst zT_15_88 rfl)
theorem zT_16_0 : zT 16 0 = some (.iload_n 1, 1, 0, []) := by decide +kernel
theorem zr_16_0 {l0 l2 l3 : Option zV} {x : Int} {st : List zV} {w : zW} {Q : Option zV → zW → Prop}  : zR 16 0 [l0, some (.inl x), l2, l3] st w Q = zR 16 1 [l0, some (.inl x), l2, l3] (.inl x :: st) w Q := zR_go (zst zT_16_0 rfl)
theorem zT_16_1 : zT 16 1 = some (.invokestatic 65, 3, 1, [(17, 1)]) := by decide +kernel
theorem zr_16_1 {l0 l1 l2 l3 : Option zV} {a0 : zV} {st : List zV} {w : zW} {Q : Option zV → zW → Prop} (hs : st.length ≤ 8) : zR 16 1 [l0, l1, l2, l3] (a0 :: st) w Q = zR 17 0 [some a0] [] w (fun r w2 => zR 16 4 [l0, l1, l2, l3] (r.toList ++ st) w2 Q) := zR_call (zst zT_16_1 ((zcall_s (z := 1) (pc := 1) (j := 17) (ls := [l0, l1, l2, l3]) (w := w) [a0] rfl hs : zi_static 1 [(17, 1)] 1 [l0, l1, l2, l3] ([a0] ++ st) w = _)))
theorem zT_16_4 : zT 16 4 = some (.ifCond .ne 5, 3, 0, []) := by decide +kernel
theorem zr_16_4 {l0 l1 l2 l3 : Option zV} {x : Int} {st : List zV} {w : zW} {Q : Option zV → zW → Prop}  : zR 16 4 [l0, l1, l2, l3] (.inl x :: st) w Q = (if zN x ≠ 0 then zR 16 9 [l0, l1, l2, l3] st w Q else zR 16 7 [l0, l1, l2, l3] st w Q) := zR_if (zstB zT_16_4 rfl) (by simp [zcmp])
theorem zT_16_7 : zT 16 7 = some (.iconst (-1), 1, 0, []) := by decide +kernel
theorem zr_16_7 {l0 l1 l2 l3 : Option zV} {st : List zV} {w : zW} {Q : Option zV → zW → Prop}  : zR 16 7 [l0, l1, l2, l3] st w Q = zR 16 8 [l0, l1, l2, l3] (.inl (-1) :: st) w Q := zR_go (zst zT_16_7 rfl)
theorem zT_16_8 : zT 16 8 = some (.ireturn, 1, 0, []) := by decide +kernel
theorem zr_16_8 {l0 l1 l2 l3 : Option zV} {x : Int} {w : zW} {Q : Option zV → zW → Prop}  : zR 16 8 [l0, l1, l2, l3] [.inl x] w Q = Q (some (.inl x)) w := zR_ret (zst zT_16_8 rfl)
theorem zT_16_9 : zT 16 9 = some (.aload_n 0, 1, 0, []) := by decide +kernel
theorem zr_16_9 {l1 l2 l3 : Option zV} {x : Option Nat} {st : List zV} {w : zW} {Q : Option zV → zW → Prop}  : zR 16 9 [some (.inr x), l1, l2, l3] st w Q = zR 16 10 [some (.inr x), l1, l2, l3] (.inr x :: st) w Q := zR_go (zst zT_16_9 rfl)
theorem zT_16_10 : zT 16 10 = some (.getfield 11, 3, 0, [(0, 0)]) := by decide +kernel
theorem zr_16_10 {l0 l1 l2 l3 : Option zV} {h : Nat} {st : List zV} {w : zW} {Q : Option zV → zW → Prop} (hk : zk w h = 0) : zR 16 10 [l0, l1, l2, l3] (.inr (some h) :: st) w Q = zR 16 13 [l0, l1, l2, l3] (.inr (zp w 0 h) :: st) w Q := zR_go (zst zT_16_10 (zget_r hk rfl))
theorem zT_16_13 : zT 16 13 = some (.iload_n 1, 1, 0, []) := by decide +kernel
theorem zr_16_13 {l0 l2 l3 : Option zV} {x : Int} {st : List zV} {w : zW} {Q : Option zV → zW → Prop}  : zR 16 13 [l0, some (.inl x), l2, l3] st w Q = zR 16 14 [l0, some (.inl x), l2, l3] (.inl x :: st) w Q := zR_go (zst zT_16_13 rfl)
theorem zT_16_14 : zT 16 14 = some (.aaload, 1, 0, []) := by decide +kernel
theorem zr_16_14 {l0 l1 l2 l3 : Option zV} {j : Int} {h : Nat} {st : List zV} {w : zW} {Q : Option zV → zW → Prop} (hk : zNC + 2 < zk w h ∧ zk w h < 1000 ∧ 0 ≤ zN j ∧ zN j < zl w h) : zR 16 14 [l0, l1, l2, l3] (.inl j :: .inr (some h) :: st) w Q = zR 16 15 [l0, l1, l2, l3] (.inr (zb w h (zN j).toNat) :: st) w Q := zR_go (zst zT_16_14 (if_pos hk))
theorem zT_16_15 : zT 16 15 = some (.getfield 206, 3, 0, [(5, 3)]) := by decide +kernel
theorem zr_16_15 {l0 l1 l2 l3 : Option zV} {h : Nat} {st : List zV} {w : zW} {Q : Option zV → zW → Prop} (hk : zk w h = 5) : zR 16 15 [l0, l1, l2, l3] (.inr (some h) :: st) w Q = zR 16 18 [l0, l1, l2, l3] (.inr (zp w 44 h) :: st) w Q := zR_go (zst zT_16_15 (zget_r hk rfl))
theorem zT_16_18 : zT 16 18 = some (.astore_n 3, 1, 0, []) := by decide +kernel
theorem zr_16_18 {l0 l1 l2 l3 : Option zV} {x : Option Nat} {st : List zV} {w : zW} {Q : Option zV → zW → Prop}  : zR 16 18 [l0, l1, l2, l3] (.inr x :: st) w Q = zR 16 19 [l0, l1, l2, some (.inr x)] st w Q := zR_go (zst zT_16_18 rfl)
theorem zT_16_19 : zT 16 19 = some (.iload_n 2, 1, 0, []) := by decide +kernel
theorem zr_16_19 {l0 l1 l3 : Option zV} {x : Int} {st : List zV} {w : zW} {Q : Option zV → zW → Prop}  : zR 16 19 [l0, l1, some (.inl x), l3] st w Q = zR 16 20 [l0, l1, some (.inl x), l3] (.inl x :: st) w Q := zR_go (zst zT_16_19 rfl)
theorem zT_16_20 : zT 16 20 = some (.iconst (-1), 1, 0, []) := by decide +kernel
theorem zr_16_20 {l0 l1 l2 l3 : Option zV} {st : List zV} {w : zW} {Q : Option zV → zW → Prop}  : zR 16 20 [l0, l1, l2, l3] st w Q = zR 16 21 [l0, l1, l2, l3] (.inl (-1) :: st) w Q := zR_go (zst zT_16_20 rfl)
theorem zT_16_21 : zT 16 21 = some (.if_icmp .ne 8, 3, 0, []) := by decide +kernel
theorem zr_16_21 {l0 l1 l2 l3 : Option zV} {x y : Int} {st : List zV} {w : zW} {Q : Option zV → zW → Prop}  : zR 16 21 [l0, l1, l2, l3] (.inl y :: .inl x :: st) w Q = (if zN x ≠ zN y then zR 16 29 [l0, l1, l2, l3] st w Q else zR 16 24 [l0, l1, l2, l3] st w Q) := zR_if (zstB zT_16_21 rfl) (by simp [zcmp])
theorem zT_16_24 : zT 16 24 = some (.aload_n 3, 1, 0, []) := by decide +kernel
theorem zr_16_24 {l0 l1 l2 : Option zV} {x : Option Nat} {st : List zV} {w : zW} {Q : Option zV → zW → Prop}  : zR 16 24 [l0, l1, l2, some (.inr x)] st w Q = zR 16 25 [l0, l1, l2, some (.inr x)] (.inr x :: st) w Q := zR_go (zst zT_16_24 rfl)
theorem zT_16_25 : zT 16 25 = some (.getfield 210, 3, 0, [(7, 1)]) := by decide +kernel
theorem zr_16_25 {l0 l1 l2 l3 : Option zV} {h : Nat} {st : List zV} {w : zW} {Q : Option zV → zW → Prop} (hk : zk w h = 7) : zR 16 25 [l0, l1, l2, l3] (.inr (some h) :: st) w Q = zR 16 28 [l0, l1, l2, l3] (.inl (zf w 57 h) :: st) w Q := zR_go (zst zT_16_25 (zget_i hk (Or.inl rfl)))
theorem zT_16_28 : zT 16 28 = some (.ireturn, 1, 0, []) := by decide +kernel
theorem zr_16_28 {l0 l1 l2 l3 : Option zV} {x : Int} {w : zW} {Q : Option zV → zW → Prop}  : zR 16 28 [l0, l1, l2, l3] [.inl x] w Q = Q (some (.inl x)) w := zR_ret (zst zT_16_28 rfl)
theorem zT_16_29 : zT 16 29 = some (.iload_n 2, 1, 0, []) := by decide +kernel
theorem zr_16_29 {l0 l1 l3 : Option zV} {x : Int} {st : List zV} {w : zW} {Q : Option zV → zW → Prop}  : zR 16 29 [l0, l1, some (.inl x), l3] st w Q = zR 16 30 [l0, l1, some (.inl x), l3] (.inl x :: st) w Q := zR_go (zst zT_16_29 rfl)
theorem zT_16_30 : zT 16 30 = some (.ifCond .lt 20, 3, 0, []) := by decide +kernel
theorem zr_16_30 {l0 l1 l2 l3 : Option zV} {x : Int} {st : List zV} {w : zW} {Q : Option zV → zW → Prop}  : zR 16 30 [l0, l1, l2, l3] (.inl x :: st) w Q = (if zN x < 0 then zR 16 50 [l0, l1, l2, l3] st w Q else zR 16 33 [l0, l1, l2, l3] st w Q) := zR_if (zstB zT_16_30 rfl) (by simp [zcmp])
theorem zT_16_33 : zT 16 33 = some (.iload_n 2, 1, 0, []) := by decide +kernel
theorem zr_16_33 {l0 l1 l3 : Option zV} {x : Int} {st : List zV} {w : zW} {Q : Option zV → zW → Prop}  : zR 16 33 [l0, l1, some (.inl x), l3] st w Q = zR 16 34 [l0, l1, some (.inl x), l3] (.inl x :: st) w Q := zR_go (zst zT_16_33 rfl)
theorem zT_16_34 : zT 16 34 = some (.aload_n 3, 1, 0, []) := by decide +kernel
theorem zr_16_34 {l0 l1 l2 : Option zV} {x : Option Nat} {st : List zV} {w : zW} {Q : Option zV → zW → Prop}  : zR 16 34 [l0, l1, l2, some (.inr x)] st w Q = zR 16 35 [l0, l1, l2, some (.inr x)] (.inr x :: st) w Q := zR_go (zst zT_16_34 rfl)
theorem zT_16_35 : zT 16 35 = some (.getfield 210, 3, 0, [(7, 1)]) := by decide +kernel
theorem zr_16_35 {l0 l1 l2 l3 : Option zV} {h : Nat} {st : List zV} {w : zW} {Q : Option zV → zW → Prop} (hk : zk w h = 7) : zR 16 35 [l0, l1, l2, l3] (.inr (some h) :: st) w Q = zR 16 38 [l0, l1, l2, l3] (.inl (zf w 57 h) :: st) w Q := zR_go (zst zT_16_35 (zget_i hk (Or.inl rfl)))
theorem zT_16_38 : zT 16 38 = some (.if_icmp .ge 12, 3, 0, []) := by decide +kernel
theorem zr_16_38 {l0 l1 l2 l3 : Option zV} {x y : Int} {st : List zV} {w : zW} {Q : Option zV → zW → Prop}  : zR 16 38 [l0, l1, l2, l3] (.inl y :: .inl x :: st) w Q = (if zN y ≤ zN x then zR 16 50 [l0, l1, l2, l3] st w Q else zR 16 41 [l0, l1, l2, l3] st w Q) := zR_if (zstB zT_16_38 rfl) (by simp [zcmp])
theorem zT_16_41 : zT 16 41 = some (.aload_n 3, 1, 0, []) := by decide +kernel
theorem zr_16_41 {l0 l1 l2 : Option zV} {x : Option Nat} {st : List zV} {w : zW} {Q : Option zV → zW → Prop}  : zR 16 41 [l0, l1, l2, some (.inr x)] st w Q = zR 16 42 [l0, l1, l2, some (.inr x)] (.inr x :: st) w Q := zR_go (zst zT_16_41 rfl)
theorem zT_16_42 : zT 16 42 = some (.getfield 215, 3, 0, [(7, 0)]) := by decide +kernel
theorem zr_16_42 {l0 l1 l2 l3 : Option zV} {h : Nat} {st : List zV} {w : zW} {Q : Option zV → zW → Prop} (hk : zk w h = 7) : zR 16 42 [l0, l1, l2, l3] (.inr (some h) :: st) w Q = zR 16 45 [l0, l1, l2, l3] (.inr (zp w 56 h) :: st) w Q := zR_go (zst zT_16_42 (zget_r hk rfl))
theorem zT_16_45 : zT 16 45 = some (.iload_n 2, 1, 0, []) := by decide +kernel
theorem zr_16_45 {l0 l1 l3 : Option zV} {x : Int} {st : List zV} {w : zW} {Q : Option zV → zW → Prop}  : zR 16 45 [l0, l1, some (.inl x), l3] st w Q = zR 16 46 [l0, l1, some (.inl x), l3] (.inl x :: st) w Q := zR_go (zst zT_16_45 rfl)
theorem zT_16_46 : zT 16 46 = some (.iaload, 1, 0, []) := by decide +kernel
theorem zr_16_46 {l0 l1 l2 l3 : Option zV} {j : Int} {h : Nat} {st : List zV} {w : zW} {Q : Option zV → zW → Prop} (hk : (zk w h = zNC ∨ zk w h = zNC + 2) ∧ 0 ≤ zN j ∧ zN j < zl w h) : zR 16 46 [l0, l1, l2, l3] (.inl j :: .inr (some h) :: st) w Q = zR 16 47 [l0, l1, l2, l3] (.inl (za w h (zN j).toNat) :: st) w Q := zR_go (zst zT_16_46 (if_pos hk))
theorem zT_16_47 : zT 16 47 = some (.goto 4, 3, 0, []) := by decide +kernel
theorem zr_16_47 {l0 l1 l2 l3 : Option zV} {st : List zV} {w : zW} {Q : Option zV → zW → Prop}  : zR 16 47 [l0, l1, l2, l3] st w Q = zR 16 51 [l0, l1, l2, l3] st w Q := zR_go (zst zT_16_47 rfl)
theorem zT_16_50 : zT 16 50 = some (.iconst (-1), 1, 0, []) := by decide +kernel
theorem zr_16_50 {l0 l1 l2 l3 : Option zV} {st : List zV} {w : zW} {Q : Option zV → zW → Prop}  : zR 16 50 [l0, l1, l2, l3] st w Q = zR 16 51 [l0, l1, l2, l3] (.inl (-1) :: st) w Q := zR_go (zst zT_16_50 rfl)
theorem zT_16_51 : zT 16 51 = some (.ireturn, 1, 0, []) := by decide +kernel
theorem zr_16_51 {l0 l1 l2 l3 : Option zV} {x : Int} {w : zW} {Q : Option zV → zW → Prop}  : zR 16 51 [l0, l1, l2, l3] [.inl x] w Q = Q (some (.inl x)) w := zR_ret (zst zT_16_51 rfl)
theorem zT_17_0 : zT 17 0 = some (.iload_n 0, 1, 0, []) := by decide +kernel
theorem zr_17_0 {x : Int} {st : List zV} {w : zW} {Q : Option zV → zW → Prop}  : zR 17 0 [some (.inl x)] st w Q = zR 17 1 [some (.inl x)] (.inl x :: st) w Q := zR_go (zst zT_17_0 rfl)
theorem zT_17_1 : zT 17 1 = some (.ifCond .lt 12, 3, 0, []) := by decide +kernel
theorem zr_17_1 {l0 : Option zV} {x : Int} {st : List zV} {w : zW} {Q : Option zV → zW → Prop}  : zR 17 1 [l0] (.inl x :: st) w Q = (if zN x < 0 then zR 17 13 [l0] st w Q else zR 17 4 [l0] st w Q) := zR_if (zstB zT_17_1 rfl) (by simp [zcmp])
theorem zT_17_4 : zT 17 4 = some (.iload_n 0, 1, 0, []) := by decide +kernel
theorem zr_17_4 {x : Int} {st : List zV} {w : zW} {Q : Option zV → zW → Prop}  : zR 17 4 [some (.inl x)] st w Q = zR 17 5 [some (.inl x)] (.inl x :: st) w Q := zR_go (zst zT_17_4 rfl)
theorem zT_17_5 : zT 17 5 = some (.iconst 2, 1, 0, []) := by decide +kernel
theorem zr_17_5 {l0 : Option zV} {st : List zV} {w : zW} {Q : Option zV → zW → Prop}  : zR 17 5 [l0] st w Q = zR 17 6 [l0] (.inl 2 :: st) w Q := zR_go (zst zT_17_5 rfl)
theorem zT_17_6 : zT 17 6 = some (.if_icmp .ge 7, 3, 0, []) := by decide +kernel
theorem zr_17_6 {l0 : Option zV} {x y : Int} {st : List zV} {w : zW} {Q : Option zV → zW → Prop}  : zR 17 6 [l0] (.inl y :: .inl x :: st) w Q = (if zN y ≤ zN x then zR 17 13 [l0] st w Q else zR 17 9 [l0] st w Q) := zR_if (zstB zT_17_6 rfl) (by simp [zcmp])
theorem zT_17_9 : zT 17 9 = some (.iconst 1, 1, 0, []) := by decide +kernel
theorem zr_17_9 {l0 : Option zV} {st : List zV} {w : zW} {Q : Option zV → zW → Prop}  : zR 17 9 [l0] st w Q = zR 17 10 [l0] (.inl 1 :: st) w Q := zR_go (zst zT_17_9 rfl)
theorem zT_17_10 : zT 17 10 = some (.goto 4, 3, 0, []) := by decide +kernel
theorem zr_17_10 {l0 : Option zV} {st : List zV} {w : zW} {Q : Option zV → zW → Prop}  : zR 17 10 [l0] st w Q = zR 17 14 [l0] st w Q := zR_go (zst zT_17_10 rfl)
theorem zT_17_13 : zT 17 13 = some (.iconst 0, 1, 0, []) := by decide +kernel
theorem zr_17_13 {l0 : Option zV} {st : List zV} {w : zW} {Q : Option zV → zW → Prop}  : zR 17 13 [l0] st w Q = zR 17 14 [l0] (.inl 0 :: st) w Q := zR_go (zst zT_17_13 rfl)
theorem zT_17_14 : zT 17 14 = some (.ireturn, 1, 0, []) := by decide +kernel
theorem zr_17_14 {l0 : Option zV} {x : Int} {w : zW} {Q : Option zV → zW → Prop} (hx : zN x = 0 ∨ zN x = 1) : zR 17 14 [l0] [.inl x] w Q = Q (some (.inl x)) w := zR_ret (zst zT_17_14 (if_pos (Or.inr ⟨rfl, hx⟩)))
theorem zT_18_0 : zT 18 0 = some (.iload_n 0, 1, 0, []) := by decide +kernel
theorem zr_18_0 {x : Int} {st : List zV} {w : zW} {Q : Option zV → zW → Prop}  : zR 18 0 [some (.inl x)] st w Q = zR 18 1 [some (.inl x)] (.inl x :: st) w Q := zR_go (zst zT_18_0 rfl)
theorem zT_18_1 : zT 18 1 = some (.iconst 2, 1, 0, []) := by decide +kernel
theorem zr_18_1 {l0 : Option zV} {st : List zV} {w : zW} {Q : Option zV → zW → Prop}  : zR 18 1 [l0] st w Q = zR 18 2 [l0] (.inl 2 :: st) w Q := zR_go (zst zT_18_1 rfl)
theorem zT_18_2 : zT 18 2 = some (.if_icmp .lt 13, 3, 0, []) := by decide +kernel
theorem zr_18_2 {l0 : Option zV} {x y : Int} {st : List zV} {w : zW} {Q : Option zV → zW → Prop}  : zR 18 2 [l0] (.inl y :: .inl x :: st) w Q = (if zN x < zN y then zR 18 15 [l0] st w Q else zR 18 5 [l0] st w Q) := zR_if (zstB zT_18_2 rfl) (by simp [zcmp])
theorem zT_18_5 : zT 18 5 = some (.iload_n 0, 1, 0, []) := by decide +kernel
theorem zr_18_5 {x : Int} {st : List zV} {w : zW} {Q : Option zV → zW → Prop}  : zR 18 5 [some (.inl x)] st w Q = zR 18 6 [some (.inl x)] (.inl x :: st) w Q := zR_go (zst zT_18_5 rfl)
theorem zT_18_6 : zT 18 6 = some (.bipush 7, 2, 0, []) := by decide +kernel
theorem zr_18_6 {l0 : Option zV} {st : List zV} {w : zW} {Q : Option zV → zW → Prop}  : zR 18 6 [l0] st w Q = zR 18 8 [l0] (.inl 7 :: st) w Q := zR_go (zst zT_18_6 rfl)
theorem zT_18_8 : zT 18 8 = some (.if_icmp .ge 7, 3, 0, []) := by decide +kernel
theorem zr_18_8 {l0 : Option zV} {x y : Int} {st : List zV} {w : zW} {Q : Option zV → zW → Prop}  : zR 18 8 [l0] (.inl y :: .inl x :: st) w Q = (if zN y ≤ zN x then zR 18 15 [l0] st w Q else zR 18 11 [l0] st w Q) := zR_if (zstB zT_18_8 rfl) (by simp [zcmp])
theorem zT_18_11 : zT 18 11 = some (.iconst 1, 1, 0, []) := by decide +kernel
theorem zr_18_11 {l0 : Option zV} {st : List zV} {w : zW} {Q : Option zV → zW → Prop}  : zR 18 11 [l0] st w Q = zR 18 12 [l0] (.inl 1 :: st) w Q := zR_go (zst zT_18_11 rfl)
theorem zT_18_12 : zT 18 12 = some (.goto 4, 3, 0, []) := by decide +kernel
theorem zr_18_12 {l0 : Option zV} {st : List zV} {w : zW} {Q : Option zV → zW → Prop}  : zR 18 12 [l0] st w Q = zR 18 16 [l0] st w Q := zR_go (zst zT_18_12 rfl)
theorem zT_18_15 : zT 18 15 = some (.iconst 0, 1, 0, []) := by decide +kernel
theorem zr_18_15 {l0 : Option zV} {st : List zV} {w : zW} {Q : Option zV → zW → Prop}  : zR 18 15 [l0] st w Q = zR 18 16 [l0] (.inl 0 :: st) w Q := zR_go (zst zT_18_15 rfl)
theorem zT_18_16 : zT 18 16 = some (.ireturn, 1, 0, []) := by decide +kernel
theorem zr_18_16 {l0 : Option zV} {x : Int} {w : zW} {Q : Option zV → zW → Prop} (hx : zN x = 0 ∨ zN x = 1) : zR 18 16 [l0] [.inl x] w Q = Q (some (.inl x)) w := zR_ret (zst zT_18_16 (if_pos (Or.inr ⟨rfl, hx⟩)))
theorem zT_19_0 : zT 19 0 = some (.iload_n 1, 1, 0, []) := by decide +kernel
theorem zr_19_0 {l0 : Option zV} {x : Int} {st : List zV} {w : zW} {Q : Option zV → zW → Prop}  : zR 19 0 [l0, some (.inl x)] st w Q = zR 19 1 [l0, some (.inl x)] (.inl x :: st) w Q := zR_go (zst zT_19_0 rfl)
theorem zT_19_1 : zT 19 1 = some (.iconst 1, 1, 0, []) := by decide +kernel
theorem zr_19_1 {l0 l1 : Option zV} {st : List zV} {w : zW} {Q : Option zV → zW → Prop}  : zR 19 1 [l0, l1] st w Q = zR 19 2 [l0, l1] (.inl 1 :: st) w Q := zR_go (zst zT_19_1 rfl)
theorem zT_19_2 : zT 19 2 = some (.if_icmp .eq 12, 3, 0, []) := by decide +kernel
theorem zr_19_2 {l0 l1 : Option zV} {x y : Int} {st : List zV} {w : zW} {Q : Option zV → zW → Prop}  : zR 19 2 [l0, l1] (.inl y :: .inl x :: st) w Q = (if zN x = zN y then zR 19 14 [l0, l1] st w Q else zR 19 5 [l0, l1] st w Q) := zR_if (zstB zT_19_2 rfl) (by simp [zcmp])
theorem zT_19_5 : zT 19 5 = some (.iload_n 1, 1, 0, []) := by decide +kernel
theorem zr_19_5 {l0 : Option zV} {x : Int} {st : List zV} {w : zW} {Q : Option zV → zW → Prop}  : zR 19 5 [l0, some (.inl x)] st w Q = zR 19 6 [l0, some (.inl x)] (.inl x :: st) w Q := zR_go (zst zT_19_5 rfl)
theorem zT_19_6 : zT 19 6 = some (.invokestatic 57, 3, 1, [(18, 1)]) := by decide +kernel
theorem zr_19_6 {l0 l1 : Option zV} {a0 : zV} {st : List zV} {w : zW} {Q : Option zV → zW → Prop} (hs : st.length ≤ 8) : zR 19 6 [l0, l1] (a0 :: st) w Q = zR 18 0 [some a0] [] w (fun r w2 => zR 19 9 [l0, l1] (r.toList ++ st) w2 Q) := zR_call (zst zT_19_6 ((zcall_s (z := 1) (pc := 6) (j := 18) (ls := [l0, l1]) (w := w) [a0] rfl hs : zi_static 1 [(18, 1)] 6 [l0, l1] ([a0] ++ st) w = _)))
theorem zT_19_9 : zT 19 9 = some (.ifCond .ne 5, 3, 0, []) := by decide +kernel
theorem zr_19_9 {l0 l1 : Option zV} {x : Int} {st : List zV} {w : zW} {Q : Option zV → zW → Prop}  : zR 19 9 [l0, l1] (.inl x :: st) w Q = (if zN x ≠ 0 then zR 19 14 [l0, l1] st w Q else zR 19 12 [l0, l1] st w Q) := zR_if (zstB zT_19_9 rfl) (by simp [zcmp])
theorem zT_19_12 : zT 19 12 = some (.aconst_null, 1, 0, []) := by decide +kernel
theorem zr_19_12 {l0 l1 : Option zV} {st : List zV} {w : zW} {Q : Option zV → zW → Prop}  : zR 19 12 [l0, l1] st w Q = zR 19 13 [l0, l1] (.inr none :: st) w Q := zR_go (zst zT_19_12 rfl)
theorem zT_19_13 : zT 19 13 = some (.areturn, 1, 0, []) := by decide +kernel
theorem zr_19_13 {l0 l1 : Option zV} {x : Option Nat} {w : zW} {Q : Option zV → zW → Prop} : zR 19 13 [l0, l1] [.inr x] w Q = Q (some (.inr x)) w := zR_ret (zst zT_19_13 rfl)
theorem zT_19_14 : zT 19 14 = some (.aload_n 0, 1, 0, []) := by decide +kernel
theorem zr_19_14 {l1 : Option zV} {x : Option Nat} {st : List zV} {w : zW} {Q : Option zV → zW → Prop}  : zR 19 14 [some (.inr x), l1] st w Q = zR 19 15 [some (.inr x), l1] (.inr x :: st) w Q := zR_go (zst zT_19_14 rfl)
theorem zT_19_15 : zT 19 15 = some (.getfield 23, 3, 0, [(0, 2)]) := by decide +kernel
theorem zr_19_15 {l0 l1 : Option zV} {h : Nat} {st : List zV} {w : zW} {Q : Option zV → zW → Prop} (hk : zk w h = 0) : zR 19 15 [l0, l1] (.inr (some h) :: st) w Q = zR 19 18 [l0, l1] (.inr (zp w 2 h) :: st) w Q := zR_go (zst zT_19_15 (zget_r hk rfl))
theorem zT_19_18 : zT 19 18 = some (.iload_n 1, 1, 0, []) := by decide +kernel
theorem zr_19_18 {l0 : Option zV} {x : Int} {st : List zV} {w : zW} {Q : Option zV → zW → Prop}  : zR 19 18 [l0, some (.inl x)] st w Q = zR 19 19 [l0, some (.inl x)] (.inl x :: st) w Q := zR_go (zst zT_19_18 rfl)
theorem zT_19_19 : zT 19 19 = some (.aaload, 1, 0, []) := by decide +kernel
theorem zr_19_19 {l0 l1 : Option zV} {j : Int} {h : Nat} {st : List zV} {w : zW} {Q : Option zV → zW → Prop} (hk : zNC + 2 < zk w h ∧ zk w h < 1000 ∧ 0 ≤ zN j ∧ zN j < zl w h) : zR 19 19 [l0, l1] (.inl j :: .inr (some h) :: st) w Q = zR 19 20 [l0, l1] (.inr (zb w h (zN j).toNat) :: st) w Q := zR_go (zst zT_19_19 (if_pos hk))
theorem zT_19_20 : zT 19 20 = some (.getfield 218, 3, 0, [(4, 11), (8, 10)]) := by decide +kernel
theorem zr_19_20c4 {l0 l1 : Option zV} {h : Nat} {st : List zV} {w : zW} {Q : Option zV → zW → Prop} (hk : zk w h = 4) : zR 19 20 [l0, l1] (.inr (some h) :: st) w Q = zR 19 23 [l0, l1] (.inl (zf w 15 h) :: st) w Q := zR_go (zst zT_19_20 (zget_i hk (Or.inl rfl)))
theorem zr_19_20c8 {l0 l1 : Option zV} {h : Nat} {st : List zV} {w : zW} {Q : Option zV → zW → Prop} (hk : zk w h = 8) : zR 19 20 [l0, l1] (.inr (some h) :: st) w Q = zR 19 23 [l0, l1] (.inl (zf w 15 h) :: st) w Q := zR_go (zst zT_19_20 (zget_i hk (Or.inl rfl)))
theorem zT_19_23 : zT 19 23 = some (.iconst (-1), 1, 0, []) := by decide +kernel
theorem zr_19_23 {l0 l1 : Option zV} {st : List zV} {w : zW} {Q : Option zV → zW → Prop}  : zR 19 23 [l0, l1] st w Q = zR 19 24 [l0, l1] (.inl (-1) :: st) w Q := zR_go (zst zT_19_23 rfl)
theorem zT_19_24 : zT 19 24 = some (.if_icmp .ne 7, 3, 0, []) := by decide +kernel
theorem zr_19_24 {l0 l1 : Option zV} {x y : Int} {st : List zV} {w : zW} {Q : Option zV → zW → Prop}  : zR 19 24 [l0, l1] (.inl y :: .inl x :: st) w Q = (if zN x ≠ zN y then zR 19 31 [l0, l1] st w Q else zR 19 27 [l0, l1] st w Q) := zR_if (zstB zT_19_24 rfl) (by simp [zcmp])
theorem zT_19_27 : zT 19 27 = some (.aconst_null, 1, 0, []) := by decide +kernel
theorem zr_19_27 {l0 l1 : Option zV} {st : List zV} {w : zW} {Q : Option zV → zW → Prop}  : zR 19 27 [l0, l1] st w Q = zR 19 28 [l0, l1] (.inr none :: st) w Q := zR_go (zst zT_19_27 rfl)
theorem zT_19_28 : zT 19 28 = some (.goto 9, 3, 0, []) := by decide +kernel
theorem zr_19_28 {l0 l1 : Option zV} {st : List zV} {w : zW} {Q : Option zV → zW → Prop}  : zR 19 28 [l0, l1] st w Q = zR 19 37 [l0, l1] st w Q := zR_go (zst zT_19_28 rfl)
theorem zT_19_31 : zT 19 31 = some (.aload_n 0, 1, 0, []) := by decide +kernel
theorem zr_19_31 {l1 : Option zV} {x : Option Nat} {st : List zV} {w : zW} {Q : Option zV → zW → Prop}  : zR 19 31 [some (.inr x), l1] st w Q = zR 19 32 [some (.inr x), l1] (.inr x :: st) w Q := zR_go (zst zT_19_31 rfl)
theorem zT_19_32 : zT 19 32 = some (.getfield 23, 3, 0, [(0, 2)]) := by decide +kernel
theorem zr_19_32 {l0 l1 : Option zV} {h : Nat} {st : List zV} {w : zW} {Q : Option zV → zW → Prop} (hk : zk w h = 0) : zR 19 32 [l0, l1] (.inr (some h) :: st) w Q = zR 19 35 [l0, l1] (.inr (zp w 2 h) :: st) w Q := zR_go (zst zT_19_32 (zget_r hk rfl))
theorem zT_19_35 : zT 19 35 = some (.iload_n 1, 1, 0, []) := by decide +kernel
theorem zr_19_35 {l0 : Option zV} {x : Int} {st : List zV} {w : zW} {Q : Option zV → zW → Prop}  : zR 19 35 [l0, some (.inl x)] st w Q = zR 19 36 [l0, some (.inl x)] (.inl x :: st) w Q := zR_go (zst zT_19_35 rfl)
theorem zT_19_36 : zT 19 36 = some (.aaload, 1, 0, []) := by decide +kernel
theorem zr_19_36 {l0 l1 : Option zV} {j : Int} {h : Nat} {st : List zV} {w : zW} {Q : Option zV → zW → Prop} (hk : zNC + 2 < zk w h ∧ zk w h < 1000 ∧ 0 ≤ zN j ∧ zN j < zl w h) : zR 19 36 [l0, l1] (.inl j :: .inr (some h) :: st) w Q = zR 19 37 [l0, l1] (.inr (zb w h (zN j).toNat) :: st) w Q := zR_go (zst zT_19_36 (if_pos hk))
theorem zT_19_37 : zT 19 37 = some (.areturn, 1, 0, []) := by decide +kernel
theorem zr_19_37 {l0 l1 : Option zV} {x : Option Nat} {w : zW} {Q : Option zV → zW → Prop} : zR 19 37 [l0, l1] [.inr x] w Q = Q (some (.inr x)) w := zR_ret (zst zT_19_37 rfl)
theorem zT_20_0 : zT 20 0 = some (.aload_n 1, 1, 0, []) := by decide +kernel
theorem zr_20_0 {l0 l2 : Option zV} {x : Option Nat} {st : List zV} {w : zW} {Q : Option zV → zW → Prop}  : zR 20 0 [l0, some (.inr x), l2] st w Q = zR 20 1 [l0, some (.inr x), l2] (.inr x :: st) w Q := zR_go (zst zT_20_0 rfl)
theorem zT_20_1 : zT 20 1 = some (.getfield 74, 3, 0, [(5, 2)]) := by decide +kernel
theorem zr_20_1 {l0 l1 l2 : Option zV} {h : Nat} {st : List zV} {w : zW} {Q : Option zV → zW → Prop} (hk : zk w h = 5) : zR 20 1 [l0, l1, l2] (.inr (some h) :: st) w Q = zR 20 4 [l0, l1, l2] (.inr (zp w 43 h) :: st) w Q := zR_go (zst zT_20_1 (zget_r hk rfl))
theorem zT_20_4 : zT 20 4 = some (.invokevirtual 78, 3, 0, [(6, 88)]) := by decide +kernel
theorem zr_20_4 {l0 l1 l2 : Option zV} {h : Nat} {st : List zV} {w : zW} {Q : Option zV → zW → Prop} (hs : st.length ≤ 8) (hk : zk w h = 6) : zR 20 4 [l0, l1, l2] (.inr (some h) :: st) w Q = zR 88 0 [some (.inr (some h))] [] w (fun r w2 => zR 20 7 [l0, l1, l2] (r.toList ++ st) w2 Q) := zR_call (zst zT_20_4 (zcall_v [] rfl hs hk rfl))
theorem zT_20_7 : zT 20 7 = some (.ifCond .eq 12, 3, 0, []) := by decide +kernel
theorem zr_20_7 {l0 l1 l2 : Option zV} {x : Int} {st : List zV} {w : zW} {Q : Option zV → zW → Prop}  : zR 20 7 [l0, l1, l2] (.inl x :: st) w Q = (if zN x = 0 then zR 20 19 [l0, l1, l2] st w Q else zR 20 10 [l0, l1, l2] st w Q) := zR_if (zstB zT_20_7 rfl) (by simp [zcmp])
theorem zT_20_10 : zT 20 10 = some (.aload_n 1, 1, 0, []) := by decide +kernel
theorem zr_20_10 {l0 l2 : Option zV} {x : Option Nat} {st : List zV} {w : zW} {Q : Option zV → zW → Prop}  : zR 20 10 [l0, some (.inr x), l2] st w Q = zR 20 11 [l0, some (.inr x), l2] (.inr x :: st) w Q := zR_go (zst zT_20_10 rfl)
theorem zT_20_11 : zT 20 11 = some (.getfield 74, 3, 0, [(5, 2)]) := by decide +kernel
theorem zr_20_11 {l0 l1 l2 : Option zV} {h : Nat} {st : List zV} {w : zW} {Q : Option zV → zW → Prop} (hk : zk w h = 5) : zR 20 11 [l0, l1, l2] (.inr (some h) :: st) w Q = zR 20 14 [l0, l1, l2] (.inr (zp w 43 h) :: st) w Q := zR_go (zst zT_20_11 (zget_r hk rfl))
theorem zT_20_14 : zT 20 14 = some (.aload_n 1, 1, 0, []) := by decide +kernel
theorem zr_20_14 {l0 l2 : Option zV} {x : Option Nat} {st : List zV} {w : zW} {Q : Option zV → zW → Prop}  : zR 20 14 [l0, some (.inr x), l2] st w Q = zR 20 15 [l0, some (.inr x), l2] (.inr x :: st) w Q := zR_go (zst zT_20_14 rfl)
theorem zT_20_15 : zT 20 15 = some (.invokevirtual 219, 3, 1, [(6, 90)]) := by decide +kernel
theorem zr_20_15 {l0 l1 l2 : Option zV} {a0 : zV} {h : Nat} {st : List zV} {w : zW} {Q : Option zV → zW → Prop} (hs : st.length ≤ 8) (hk : zk w h = 6) : zR 20 15 [l0, l1, l2] (a0 :: .inr (some h) :: st) w Q = zR 90 0 [some (.inr (some h)), some a0] [] w (fun r w2 => zR 20 18 [l0, l1, l2] (r.toList ++ st) w2 Q) := zR_call (zst zT_20_15 (zcall_v [a0] rfl hs hk rfl))
theorem zT_20_18 : zT 20 18 = some (.return_, 1, 0, []) := by decide +kernel
theorem zr_20_18 {l0 l1 l2 : Option zV} {w : zW} {Q : Option zV → zW → Prop} : zR 20 18 [l0, l1, l2] [] w Q = Q none w := zR_ret (zst zT_20_18 rfl)
theorem zT_20_19 : zT 20 19 = some (.aload_n 1, 1, 0, []) := by decide +kernel
theorem zr_20_19 {l0 l2 : Option zV} {x : Option Nat} {st : List zV} {w : zW} {Q : Option zV → zW → Prop}  : zR 20 19 [l0, some (.inr x), l2] st w Q = zR 20 20 [l0, some (.inr x), l2] (.inr x :: st) w Q := zR_go (zst zT_20_19 rfl)
theorem zT_20_20 : zT 20 20 = some (.invokevirtual 222, 3, 0, [(5, 78)]) := by decide +kernel
theorem zr_20_20 {l0 l1 l2 : Option zV} {h : Nat} {st : List zV} {w : zW} {Q : Option zV → zW → Prop} (hs : st.length ≤ 8) (hk : zk w h = 5) : zR 20 20 [l0, l1, l2] (.inr (some h) :: st) w Q = zR 78 0 [some (.inr (some h)), none, none, none] [] w (fun r w2 => zR 20 23 [l0, l1, l2] (r.toList ++ st) w2 Q) := zR_call (zst zT_20_20 (zcall_v [] rfl hs hk rfl))
theorem zT_20_23 : zT 20 23 = some (.astore_n 2, 1, 0, []) := by decide +kernel
theorem zr_20_23 {l0 l1 l2 : Option zV} {x : Option Nat} {st : List zV} {w : zW} {Q : Option zV → zW → Prop}  : zR 20 23 [l0, l1, l2] (.inr x :: st) w Q = zR 20 24 [l0, l1, some (.inr x)] st w Q := zR_go (zst zT_20_23 rfl)
theorem zT_20_24 : zT 20 24 = some (.aload_n 2, 1, 0, []) := by decide +kernel
theorem zr_20_24 {l0 l1 : Option zV} {x : Option Nat} {st : List zV} {w : zW} {Q : Option zV → zW → Prop}  : zR 20 24 [l0, l1, some (.inr x)] st w Q = zR 20 25 [l0, l1, some (.inr x)] (.inr x :: st) w Q := zR_go (zst zT_20_24 rfl)
theorem zT_20_25 : zT 20 25 = some (.ifnonnull 4, 3, 0, []) := by decide +kernel
theorem zr_20_25n {l0 l1 l2 : Option zV} {st : List zV} {w : zW} {Q : Option zV → zW → Prop}  : zR 20 25 [l0, l1, l2] (.inr none :: st) w Q = zR 20 28 [l0, l1, l2] st w Q := zR_go (zst zT_20_25 rfl)
theorem zr_20_25s {l0 l1 l2 : Option zV} {h : Nat} {st : List zV} {w : zW} {Q : Option zV → zW → Prop}  : zR 20 25 [l0, l1, l2] (.inr (some h) :: st) w Q = zR 20 29 [l0, l1, l2] st w Q := zR_go (zst zT_20_25 rfl)
theorem zT_20_28 : zT 20 28 = some (.return_, 1, 0, []) := by decide +kernel
theorem zr_20_28 {l0 l1 l2 : Option zV} {w : zW} {Q : Option zV → zW → Prop} : zR 20 28 [l0, l1, l2] [] w Q = Q none w := zR_ret (zst zT_20_28 rfl)
theorem zT_20_29 : zT 20 29 = some (.aload_n 1, 1, 0, []) := by decide +kernel
theorem zr_20_29 {l0 l2 : Option zV} {x : Option Nat} {st : List zV} {w : zW} {Q : Option zV → zW → Prop}  : zR 20 29 [l0, some (.inr x), l2] st w Q = zR 20 30 [l0, some (.inr x), l2] (.inr x :: st) w Q := zR_go (zst zT_20_29 rfl)
theorem zT_20_30 : zT 20 30 = some (.invokevirtual 226, 3, 0, [(5, 77)]) := by decide +kernel
theorem zr_20_30 {l0 l1 l2 : Option zV} {h : Nat} {st : List zV} {w : zW} {Q : Option zV → zW → Prop} (hs : st.length ≤ 8) (hk : zk w h = 5) : zR 20 30 [l0, l1, l2] (.inr (some h) :: st) w Q = zR 77 0 [some (.inr (some h))] [] w (fun r w2 => zR 20 33 [l0, l1, l2] (r.toList ++ st) w2 Q) := zR_call (zst zT_20_30 (zcall_v [] rfl hs hk rfl))
theorem zT_20_33 : zT 20 33 = some (.ifCond .eq 19, 3, 0, []) := by decide +kernel
theorem zr_20_33 {l0 l1 l2 : Option zV} {x : Int} {st : List zV} {w : zW} {Q : Option zV → zW → Prop}  : zR 20 33 [l0, l1, l2] (.inl x :: st) w Q = (if zN x = 0 then zR 20 52 [l0, l1, l2] st w Q else zR 20 36 [l0, l1, l2] st w Q) := zR_if (zstB zT_20_33 rfl) (by simp [zcmp])
theorem zT_20_36 : zT 20 36 = some (.aload_n 0, 1, 0, []) := by decide +kernel
theorem zr_20_36 {l1 l2 : Option zV} {x : Option Nat} {st : List zV} {w : zW} {Q : Option zV → zW → Prop}  : zR 20 36 [some (.inr x), l1, l2] st w Q = zR 20 37 [some (.inr x), l1, l2] (.inr x :: st) w Q := zR_go (zst zT_20_36 rfl)
theorem zT_20_37 : zT 20 37 = some (.aload_n 1, 1, 0, []) := by decide +kernel
theorem zr_20_37 {l0 l2 : Option zV} {x : Option Nat} {st : List zV} {w : zW} {Q : Option zV → zW → Prop}  : zR 20 37 [l0, some (.inr x), l2] st w Q = zR 20 38 [l0, some (.inr x), l2] (.inr x :: st) w Q := zR_go (zst zT_20_37 rfl)
theorem zT_20_38 : zT 20 38 = some (.aload_n 2, 1, 0, []) := by decide +kernel
theorem zr_20_38 {l0 l1 : Option zV} {x : Option Nat} {st : List zV} {w : zW} {Q : Option zV → zW → Prop}  : zR 20 38 [l0, l1, some (.inr x)] st w Q = zR 20 39 [l0, l1, some (.inr x)] (.inr x :: st) w Q := zR_go (zst zT_20_38 rfl)
theorem zT_20_39 : zT 20 39 = some (.invokevirtual 229, 3, 2, [(0, 21)]) := by decide +kernel
theorem zr_20_39 {l0 l1 l2 : Option zV} {a0 a1 : zV} {h : Nat} {st : List zV} {w : zW} {Q : Option zV → zW → Prop} (hs : st.length ≤ 8) (hk : zk w h = 0) : zR 20 39 [l0, l1, l2] (a1 :: a0 :: .inr (some h) :: st) w Q = zR 21 0 [some (.inr (some h)), some a0, some a1, none, none, none, none, none, none] [] w (fun r w2 => zR 20 42 [l0, l1, l2] (r.toList ++ st) w2 Q) := zR_call (zst zT_20_39 (zcall_v [a1, a0] rfl hs hk rfl))
theorem zT_20_42 : zT 20 42 = some (.ifCond .eq 10, 3, 0, []) := by decide +kernel
theorem zr_20_42 {l0 l1 l2 : Option zV} {x : Int} {st : List zV} {w : zW} {Q : Option zV → zW → Prop}  : zR 20 42 [l0, l1, l2] (.inl x :: st) w Q = (if zN x = 0 then zR 20 52 [l0, l1, l2] st w Q else zR 20 45 [l0, l1, l2] st w Q) := zR_if (zstB zT_20_42 rfl) (by simp [zcmp])
theorem zT_20_45 : zT 20 45 = some (.aload_n 2, 1, 0, []) := by decide +kernel
theorem zr_20_45 {l0 l1 : Option zV} {x : Option Nat} {st : List zV} {w : zW} {Q : Option zV → zW → Prop}  : zR 20 45 [l0, l1, some (.inr x)] st w Q = zR 20 46 [l0, l1, some (.inr x)] (.inr x :: st) w Q := zR_go (zst zT_20_45 rfl)
theorem zT_20_46 : zT 20 46 = some (.invokevirtual 233, 3, 0, [(2, 132)]) := by decide +kernel
theorem zr_20_46 {l0 l1 l2 : Option zV} {h : Nat} {st : List zV} {w : zW} {Q : Option zV → zW → Prop} (hs : st.length ≤ 8) (hk : zk w h = 2) : zR 20 46 [l0, l1, l2] (.inr (some h) :: st) w Q = zR 132 0 [some (.inr (some h))] [] w (fun r w2 => zR 20 49 [l0, l1, l2] (r.toList ++ st) w2 Q) := zR_call (zst zT_20_46 (zcall_v [] rfl hs hk rfl))
theorem zT_20_49 : zT 20 49 = some (.goto 7, 3, 0, []) := by decide +kernel
theorem zr_20_49 {l0 l1 l2 : Option zV} {st : List zV} {w : zW} {Q : Option zV → zW → Prop}  : zR 20 49 [l0, l1, l2] st w Q = zR 20 56 [l0, l1, l2] st w Q := zR_go (zst zT_20_49 rfl)
theorem zT_20_52 : zT 20 52 = some (.aload_n 2, 1, 0, []) := by decide +kernel
theorem zr_20_52 {l0 l1 : Option zV} {x : Option Nat} {st : List zV} {w : zW} {Q : Option zV → zW → Prop}  : zR 20 52 [l0, l1, some (.inr x)] st w Q = zR 20 53 [l0, l1, some (.inr x)] (.inr x :: st) w Q := zR_go (zst zT_20_52 rfl)
theorem zT_20_53 : zT 20 53 = some (.invokevirtual 236, 3, 0, [(2, 133)]) := by decide +kernel
theorem zr_20_53 {l0 l1 l2 : Option zV} {h : Nat} {st : List zV} {w : zW} {Q : Option zV → zW → Prop} (hs : st.length ≤ 8) (hk : zk w h = 2) : zR 20 53 [l0, l1, l2] (.inr (some h) :: st) w Q = zR 133 0 [some (.inr (some h))] [] w (fun r w2 => zR 20 56 [l0, l1, l2] (r.toList ++ st) w2 Q) := zR_call (zst zT_20_53 (zcall_v [] rfl hs hk rfl))
theorem zT_20_56 : zT 20 56 = some (.return_, 1, 0, []) := by decide +kernel
theorem zr_20_56 {l0 l1 l2 : Option zV} {w : zW} {Q : Option zV → zW → Prop} : zR 20 56 [l0, l1, l2] [] w Q = Q none w := zR_ret (zst zT_20_56 rfl)
theorem zT_21_0 : zT 21 0 = some (.aload_n 2, 1, 0, []) := by decide +kernel
theorem zr_21_0 {l0 l1 l3 l4 l5 l6 l7 l8 : Option zV} {x : Option Nat} {st : List zV} {w : zW} {Q : Option zV → zW → Prop}  : zR 21 0 [l0, l1, some (.inr x), l3, l4, l5, l6, l7, l8] st w Q = zR 21 1 [l0, l1, some (.inr x), l3, l4, l5, l6, l7, l8] (.inr x :: st) w Q := zR_go (zst zT_21_0 rfl)
theorem zT_21_1 : zT 21 1 = some (.invokevirtual 239, 3, 0, [(2, 130)]) := by decide +kernel
theorem zr_21_1 {l0 l1 l2 l3 l4 l5 l6 l7 l8 : Option zV} {h : Nat} {st : List zV} {w : zW} {Q : Option zV → zW → Prop} (hs : st.length ≤ 8) (hk : zk w h = 2) : zR 21 1 [l0, l1, l2, l3, l4, l5, l6, l7, l8] (.inr (some h) :: st) w Q = zR 130 0 [some (.inr (some h))] [] w (fun r w2 => zR 21 4 [l0, l1, l2, l3, l4, l5, l6, l7, l8] (r.toList ++ st) w2 Q) := zR_call (zst zT_21_1 (zcall_v [] rfl hs hk rfl))
theorem zT_21_4 : zT 21 4 = some (.astore_n 3, 1, 0, []) := by decide +kernel
theorem zr_21_4 {l0 l1 l2 l3 l4 l5 l6 l7 l8 : Option zV} {x : Option Nat} {st : List zV} {w : zW} {Q : Option zV → zW → Prop}  : zR 21 4 [l0, l1, l2, l3, l4, l5, l6, l7, l8] (.inr x :: st) w Q = zR 21 5 [l0, l1, l2, some (.inr x), l4, l5, l6, l7, l8] st w Q := zR_go (zst zT_21_4 rfl)
theorem zT_21_5 : zT 21 5 = some (.aload_n 1, 1, 0, []) := by decide +kernel
theorem zr_21_5 {l0 l2 l3 l4 l5 l6 l7 l8 : Option zV} {x : Option Nat} {st : List zV} {w : zW} {Q : Option zV → zW → Prop}  : zR 21 5 [l0, some (.inr x), l2, l3, l4, l5, l6, l7, l8] st w Q = zR 21 6 [l0, some (.inr x), l2, l3, l4, l5, l6, l7, l8] (.inr x :: st) w Q := zR_go (zst zT_21_5 rfl)
theorem zT_21_6 : zT 21 6 = some (.getfield 206, 3, 0, [(5, 3)]) := by decide +kernel
theorem zr_21_6 {l0 l1 l2 l3 l4 l5 l6 l7 l8 : Option zV} {h : Nat} {st : List zV} {w : zW} {Q : Option zV → zW → Prop} (hk : zk w h = 5) : zR 21 6 [l0, l1, l2, l3, l4, l5, l6, l7, l8] (.inr (some h) :: st) w Q = zR 21 9 [l0, l1, l2, l3, l4, l5, l6, l7, l8] (.inr (zp w 44 h) :: st) w Q := zR_go (zst zT_21_6 (zget_r hk rfl))
theorem zT_21_9 : zT 21 9 = some (.getfield 215, 3, 0, [(7, 0)]) := by decide +kernel
theorem zr_21_9 {l0 l1 l2 l3 l4 l5 l6 l7 l8 : Option zV} {h : Nat} {st : List zV} {w : zW} {Q : Option zV → zW → Prop} (hk : zk w h = 7) : zR 21 9 [l0, l1, l2, l3, l4, l5, l6, l7, l8] (.inr (some h) :: st) w Q = zR 21 12 [l0, l1, l2, l3, l4, l5, l6, l7, l8] (.inr (zp w 56 h) :: st) w Q := zR_go (zst zT_21_9 (zget_r hk rfl))
theorem zT_21_12 : zT 21 12 = some (.iconst 0, 1, 0, []) := by decide +kernel
theorem zr_21_12 {l0 l1 l2 l3 l4 l5 l6 l7 l8 : Option zV} {st : List zV} {w : zW} {Q : Option zV → zW → Prop}  : zR 21 12 [l0, l1, l2, l3, l4, l5, l6, l7, l8] st w Q = zR 21 13 [l0, l1, l2, l3, l4, l5, l6, l7, l8] (.inl 0 :: st) w Q := zR_go (zst zT_21_12 rfl)
theorem zT_21_13 : zT 21 13 = some (.iaload, 1, 0, []) := by decide +kernel
theorem zr_21_13 {l0 l1 l2 l3 l4 l5 l6 l7 l8 : Option zV} {j : Int} {h : Nat} {st : List zV} {w : zW} {Q : Option zV → zW → Prop} (hk : (zk w h = zNC ∨ zk w h = zNC + 2) ∧ 0 ≤ zN j ∧ zN j < zl w h) : zR 21 13 [l0, l1, l2, l3, l4, l5, l6, l7, l8] (.inl j :: .inr (some h) :: st) w Q = zR 21 14 [l0, l1, l2, l3, l4, l5, l6, l7, l8] (.inl (za w h (zN j).toNat) :: st) w Q := zR_go (zst zT_21_13 (if_pos hk))
theorem zT_21_14 : zT 21 14 = some (.istore 4, 2, 0, []) := by decide +kernel
theorem zr_21_14 {l0 l1 l2 l3 l4 l5 l6 l7 l8 : Option zV} {x : Int} {st : List zV} {w : zW} {Q : Option zV → zW → Prop}  : zR 21 14 [l0, l1, l2, l3, l4, l5, l6, l7, l8] (.inl x :: st) w Q = zR 21 16 [l0, l1, l2, l3, some (.inl x), l5, l6, l7, l8] st w Q := zR_go (zst zT_21_14 rfl)
theorem zT_21_16 : zT 21 16 = some (.iconst 0, 1, 0, []) := by decide +kernel
theorem zr_21_16 {l0 l1 l2 l3 l4 l5 l6 l7 l8 : Option zV} {st : List zV} {w : zW} {Q : Option zV → zW → Prop}  : zR 21 16 [l0, l1, l2, l3, l4, l5, l6, l7, l8] st w Q = zR 21 17 [l0, l1, l2, l3, l4, l5, l6, l7, l8] (.inl 0 :: st) w Q := zR_go (zst zT_21_16 rfl)
theorem zT_21_17 : zT 21 17 = some (.istore 5, 2, 0, []) := by decide +kernel
theorem zr_21_17 {l0 l1 l2 l3 l4 l5 l6 l7 l8 : Option zV} {x : Int} {st : List zV} {w : zW} {Q : Option zV → zW → Prop}  : zR 21 17 [l0, l1, l2, l3, l4, l5, l6, l7, l8] (.inl x :: st) w Q = zR 21 19 [l0, l1, l2, l3, l4, some (.inl x), l6, l7, l8] st w Q := zR_go (zst zT_21_17 rfl)
theorem zT_21_19 : zT 21 19 = some (.iconst 0, 1, 0, []) := by decide +kernel
theorem zr_21_19 {l0 l1 l2 l3 l4 l5 l6 l7 l8 : Option zV} {st : List zV} {w : zW} {Q : Option zV → zW → Prop}  : zR 21 19 [l0, l1, l2, l3, l4, l5, l6, l7, l8] st w Q = zR 21 20 [l0, l1, l2, l3, l4, l5, l6, l7, l8] (.inl 0 :: st) w Q := zR_go (zst zT_21_19 rfl)
theorem zT_21_20 : zT 21 20 = some (.istore 6, 2, 0, []) := by decide +kernel
theorem zr_21_20 {l0 l1 l2 l3 l4 l5 l6 l7 l8 : Option zV} {x : Int} {st : List zV} {w : zW} {Q : Option zV → zW → Prop}  : zR 21 20 [l0, l1, l2, l3, l4, l5, l6, l7, l8] (.inl x :: st) w Q = zR 21 22 [l0, l1, l2, l3, l4, l5, some (.inl x), l7, l8] st w Q := zR_go (zst zT_21_20 rfl)
theorem zT_21_22 : zT 21 22 = some (.iload 6, 2, 0, []) := by decide +kernel
theorem zr_21_22 {l0 l1 l2 l3 l4 l5 l7 l8 : Option zV} {x : Int} {st : List zV} {w : zW} {Q : Option zV → zW → Prop}  : zR 21 22 [l0, l1, l2, l3, l4, l5, some (.inl x), l7, l8] st w Q = zR 21 24 [l0, l1, l2, l3, l4, l5, some (.inl x), l7, l8] (.inl x :: st) w Q := zR_go (zst zT_21_22 rfl)
theorem zT_21_24 : zT 21 24 = some (.bipush 7, 2, 0, []) := by decide +kernel
theorem zr_21_24 {l0 l1 l2 l3 l4 l5 l6 l7 l8 : Option zV} {st : List zV} {w : zW} {Q : Option zV → zW → Prop}  : zR 21 24 [l0, l1, l2, l3, l4, l5, l6, l7, l8] st w Q = zR 21 26 [l0, l1, l2, l3, l4, l5, l6, l7, l8] (.inl 7 :: st) w Q := zR_go (zst zT_21_24 rfl)
theorem zT_21_26 : zT 21 26 = some (.if_icmp .ge 76, 3, 0, []) := by decide +kernel
theorem zr_21_26 {l0 l1 l2 l3 l4 l5 l6 l7 l8 : Option zV} {x y : Int} {st : List zV} {w : zW} {Q : Option zV → zW → Prop}  : zR 21 26 [l0, l1, l2, l3, l4, l5, l6, l7, l8] (.inl y :: .inl x :: st) w Q = (if zN y ≤ zN x then zR 21 102 [l0, l1, l2, l3, l4, l5, l6, l7, l8] st w Q else zR 21 29 [l0, l1, l2, l3, l4, l5, l6, l7, l8] st w Q) := zR_if (zstB zT_21_26 rfl) (by simp [zcmp])
theorem zT_21_29 : zT 21 29 = some (.aload_n 1, 1, 0, []) := by decide +kernel
theorem zr_21_29 {l0 l2 l3 l4 l5 l6 l7 l8 : Option zV} {x : Option Nat} {st : List zV} {w : zW} {Q : Option zV → zW → Prop}  : zR 21 29 [l0, some (.inr x), l2, l3, l4, l5, l6, l7, l8] st w Q = zR 21 30 [l0, some (.inr x), l2, l3, l4, l5, l6, l7, l8] (.inr x :: st) w Q := zR_go (zst zT_21_29 rfl)
theorem zT_21_30 : zT 21 30 = some (.getfield 45, 3, 0, [(5, 1)]) := by decide +kernel
theorem zr_21_30 {l0 l1 l2 l3 l4 l5 l6 l7 l8 : Option zV} {h : Nat} {st : List zV} {w : zW} {Q : Option zV → zW → Prop} (hk : zk w h = 5) : zR 21 30 [l0, l1, l2, l3, l4, l5, l6, l7, l8] (.inr (some h) :: st) w Q = zR 21 33 [l0, l1, l2, l3, l4, l5, l6, l7, l8] (.inr (zp w 42 h) :: st) w Q := zR_go (zst zT_21_30 (zget_r hk rfl))
theorem zT_21_33 : zT 21 33 = some (.iload 6, 2, 0, []) := by decide +kernel
theorem zr_21_33 {l0 l1 l2 l3 l4 l5 l7 l8 : Option zV} {x : Int} {st : List zV} {w : zW} {Q : Option zV → zW → Prop}  : zR 21 33 [l0, l1, l2, l3, l4, l5, some (.inl x), l7, l8] st w Q = zR 21 35 [l0, l1, l2, l3, l4, l5, some (.inl x), l7, l8] (.inl x :: st) w Q := zR_go (zst zT_21_33 rfl)
theorem zT_21_35 : zT 21 35 = some (.aaload, 1, 0, []) := by decide +kernel
theorem zr_21_35 {l0 l1 l2 l3 l4 l5 l6 l7 l8 : Option zV} {j : Int} {h : Nat} {st : List zV} {w : zW} {Q : Option zV → zW → Prop} (hk : zNC + 2 < zk w h ∧ zk w h < 1000 ∧ 0 ≤ zN j ∧ zN j < zl w h) : zR 21 35 [l0, l1, l2, l3, l4, l5, l6, l7, l8] (.inl j :: .inr (some h) :: st) w Q = zR 21 36 [l0, l1, l2, l3, l4, l5, l6, l7, l8] (.inr (zb w h (zN j).toNat) :: st) w Q := zR_go (zst zT_21_35 (if_pos hk))
theorem zT_21_36 : zT 21 36 = some (.astore 7, 2, 0, []) := by decide +kernel
theorem zr_21_36 {l0 l1 l2 l3 l4 l5 l6 l7 l8 : Option zV} {x : Option Nat} {st : List zV} {w : zW} {Q : Option zV → zW → Prop}  : zR 21 36 [l0, l1, l2, l3, l4, l5, l6, l7, l8] (.inr x :: st) w Q = zR 21 38 [l0, l1, l2, l3, l4, l5, l6, some (.inr x), l8] st w Q := zR_go (zst zT_21_36 rfl)
theorem zT_21_38 : zT 21 38 = some (.aload 7, 2, 0, []) := by decide +kernel
theorem zr_21_38 {l0 l1 l2 l3 l4 l5 l6 l8 : Option zV} {x : Option Nat} {st : List zV} {w : zW} {Q : Option zV → zW → Prop}  : zR 21 38 [l0, l1, l2, l3, l4, l5, l6, some (.inr x), l8] st w Q = zR 21 40 [l0, l1, l2, l3, l4, l5, l6, some (.inr x), l8] (.inr x :: st) w Q := zR_go (zst zT_21_38 rfl)
theorem zT_21_40 : zT 21 40 = some (.ifnull 56, 3, 0, []) := by decide +kernel
theorem zr_21_40n {l0 l1 l2 l3 l4 l5 l6 l7 l8 : Option zV} {st : List zV} {w : zW} {Q : Option zV → zW → Prop}  : zR 21 40 [l0, l1, l2, l3, l4, l5, l6, l7, l8] (.inr none :: st) w Q = zR 21 96 [l0, l1, l2, l3, l4, l5, l6, l7, l8] st w Q := zR_go (zst zT_21_40 rfl)
theorem zr_21_40s {l0 l1 l2 l3 l4 l5 l6 l7 l8 : Option zV} {h : Nat} {st : List zV} {w : zW} {Q : Option zV → zW → Prop}  : zR 21 40 [l0, l1, l2, l3, l4, l5, l6, l7, l8] (.inr (some h) :: st) w Q = zR 21 43 [l0, l1, l2, l3, l4, l5, l6, l7, l8] st w Q := zR_go (zst zT_21_40 rfl)
theorem zT_21_43 : zT 21 43 = some (.aload 7, 2, 0, []) := by decide +kernel
theorem zr_21_43 {l0 l1 l2 l3 l4 l5 l6 l8 : Option zV} {x : Option Nat} {st : List zV} {w : zW} {Q : Option zV → zW → Prop}  : zR 21 43 [l0, l1, l2, l3, l4, l5, l6, some (.inr x), l8] st w Q = zR 21 45 [l0, l1, l2, l3, l4, l5, l6, some (.inr x), l8] (.inr x :: st) w Q := zR_go (zst zT_21_43 rfl)
theorem zT_21_45 : zT 21 45 = some (.aload_n 2, 1, 0, []) := by decide +kernel
theorem zr_21_45 {l0 l1 l3 l4 l5 l6 l7 l8 : Option zV} {x : Option Nat} {st : List zV} {w : zW} {Q : Option zV → zW → Prop}  : zR 21 45 [l0, l1, some (.inr x), l3, l4, l5, l6, l7, l8] st w Q = zR 21 46 [l0, l1, some (.inr x), l3, l4, l5, l6, l7, l8] (.inr x :: st) w Q := zR_go (zst zT_21_45 rfl)
theorem zT_21_46 : zT 21 46 = some (.if_acmp .eq 50, 3, 0, []) := by decide +kernel
theorem zr_21_46 {l0 l1 l2 l3 l4 l5 l6 l7 l8 : Option zV} {x y : Option Nat} {st : List zV} {w : zW} {Q : Option zV → zW → Prop}  : zR 21 46 [l0, l1, l2, l3, l4, l5, l6, l7, l8] (.inr y :: .inr x :: st) w Q = (if x = y then zR 21 96 [l0, l1, l2, l3, l4, l5, l6, l7, l8] st w Q else zR 21 49 [l0, l1, l2, l3, l4, l5, l6, l7, l8] st w Q) := zR_if (zstB zT_21_46 rfl) (by simp [zacmp])
theorem zT_21_49 : zT 21 49 = some (.aload 7, 2, 0, []) := by decide +kernel
theorem zr_21_49 {l0 l1 l2 l3 l4 l5 l6 l8 : Option zV} {x : Option Nat} {st : List zV} {w : zW} {Q : Option zV → zW → Prop}  : zR 21 49 [l0, l1, l2, l3, l4, l5, l6, some (.inr x), l8] st w Q = zR 21 51 [l0, l1, l2, l3, l4, l5, l6, some (.inr x), l8] (.inr x :: st) w Q := zR_go (zst zT_21_49 rfl)
theorem zT_21_51 : zT 21 51 = some (.getfield 136, 3, 0, [(2, 2)]) := by decide +kernel
theorem zr_21_51 {l0 l1 l2 l3 l4 l5 l6 l7 l8 : Option zV} {h : Nat} {st : List zV} {w : zW} {Q : Option zV → zW → Prop} (hk : zk w h = 2) : zR 21 51 [l0, l1, l2, l3, l4, l5, l6, l7, l8] (.inr (some h) :: st) w Q = zR 21 54 [l0, l1, l2, l3, l4, l5, l6, l7, l8] (.inl (zf w 19 h) :: st) w Q := zR_go (zst zT_21_51 (zget_i hk (Or.inl rfl)))
theorem zT_21_54 : zT 21 54 = some (.iload 4, 2, 0, []) := by decide +kernel
theorem zr_21_54 {l0 l1 l2 l3 l5 l6 l7 l8 : Option zV} {x : Int} {st : List zV} {w : zW} {Q : Option zV → zW → Prop}  : zR 21 54 [l0, l1, l2, l3, some (.inl x), l5, l6, l7, l8] st w Q = zR 21 56 [l0, l1, l2, l3, some (.inl x), l5, l6, l7, l8] (.inl x :: st) w Q := zR_go (zst zT_21_54 rfl)
theorem zT_21_56 : zT 21 56 = some (.if_icmp .ne 40, 3, 0, []) := by decide +kernel
theorem zr_21_56 {l0 l1 l2 l3 l4 l5 l6 l7 l8 : Option zV} {x y : Int} {st : List zV} {w : zW} {Q : Option zV → zW → Prop}  : zR 21 56 [l0, l1, l2, l3, l4, l5, l6, l7, l8] (.inl y :: .inl x :: st) w Q = (if zN x ≠ zN y then zR 21 96 [l0, l1, l2, l3, l4, l5, l6, l7, l8] st w Q else zR 21 59 [l0, l1, l2, l3, l4, l5, l6, l7, l8] st w Q) := zR_if (zstB zT_21_56 rfl) (by simp [zcmp])
theorem zT_21_59 : zT 21 59 = some (.iconst 1, 1, 0, []) := by decide +kernel
theorem zr_21_59 {l0 l1 l2 l3 l4 l5 l6 l7 l8 : Option zV} {st : List zV} {w : zW} {Q : Option zV → zW → Prop}  : zR 21 59 [l0, l1, l2, l3, l4, l5, l6, l7, l8] st w Q = zR 21 60 [l0, l1, l2, l3, l4, l5, l6, l7, l8] (.inl 1 :: st) w Q := zR_go (zst zT_21_59 rfl)
theorem zT_21_60 : zT 21 60 = some (.istore 5, 2, 0, []) := by decide +kernel
theorem zr_21_60 {l0 l1 l2 l3 l4 l5 l6 l7 l8 : Option zV} {x : Int} {st : List zV} {w : zW} {Q : Option zV → zW → Prop}  : zR 21 60 [l0, l1, l2, l3, l4, l5, l6, l7, l8] (.inl x :: st) w Q = zR 21 62 [l0, l1, l2, l3, l4, some (.inl x), l6, l7, l8] st w Q := zR_go (zst zT_21_60 rfl)
theorem zT_21_62 : zT 21 62 = some (.aload_n 0, 1, 0, []) := by decide +kernel
theorem zr_21_62 {l1 l2 l3 l4 l5 l6 l7 l8 : Option zV} {x : Option Nat} {st : List zV} {w : zW} {Q : Option zV → zW → Prop}  : zR 21 62 [some (.inr x), l1, l2, l3, l4, l5, l6, l7, l8] st w Q = zR 21 63 [some (.inr x), l1, l2, l3, l4, l5, l6, l7, l8] (.inr x :: st) w Q := zR_go (zst zT_21_62 rfl)
theorem zT_21_63 : zT 21 63 = some (.getfield 17, 3, 0, [(0, 1)]) := by decide +kernel
theorem zr_21_63 {l0 l1 l2 l3 l4 l5 l6 l7 l8 : Option zV} {h : Nat} {st : List zV} {w : zW} {Q : Option zV → zW → Prop} (hk : zk w h = 0) : zR 21 63 [l0, l1, l2, l3, l4, l5, l6, l7, l8] (.inr (some h) :: st) w Q = zR 21 66 [l0, l1, l2, l3, l4, l5, l6, l7, l8] (.inr (zp w 1 h) :: st) w Q := zR_go (zst zT_21_63 (zget_r hk rfl))
theorem zT_21_66 : zT 21 66 = some (.iload 6, 2, 0, []) := by decide +kernel
theorem zr_21_66 {l0 l1 l2 l3 l4 l5 l7 l8 : Option zV} {x : Int} {st : List zV} {w : zW} {Q : Option zV → zW → Prop}  : zR 21 66 [l0, l1, l2, l3, l4, l5, some (.inl x), l7, l8] st w Q = zR 21 68 [l0, l1, l2, l3, l4, l5, some (.inl x), l7, l8] (.inl x :: st) w Q := zR_go (zst zT_21_66 rfl)
theorem zT_21_68 : zT 21 68 = some (.aaload, 1, 0, []) := by decide +kernel
theorem zr_21_68 {l0 l1 l2 l3 l4 l5 l6 l7 l8 : Option zV} {j : Int} {h : Nat} {st : List zV} {w : zW} {Q : Option zV → zW → Prop} (hk : zNC + 2 < zk w h ∧ zk w h < 1000 ∧ 0 ≤ zN j ∧ zN j < zl w h) : zR 21 68 [l0, l1, l2, l3, l4, l5, l6, l7, l8] (.inl j :: .inr (some h) :: st) w Q = zR 21 69 [l0, l1, l2, l3, l4, l5, l6, l7, l8] (.inr (zb w h (zN j).toNat) :: st) w Q := zR_go (zst zT_21_68 (if_pos hk))
theorem zT_21_69 : zT 21 69 = some (.aload_n 3, 1, 0, []) := by decide +kernel
theorem zr_21_69 {l0 l1 l2 l4 l5 l6 l7 l8 : Option zV} {x : Option Nat} {st : List zV} {w : zW} {Q : Option zV → zW → Prop}  : zR 21 69 [l0, l1, l2, some (.inr x), l4, l5, l6, l7, l8] st w Q = zR 21 70 [l0, l1, l2, some (.inr x), l4, l5, l6, l7, l8] (.inr x :: st) w Q := zR_go (zst zT_21_69 rfl)
theorem zT_21_70 : zT 21 70 = some (.aload_n 1, 1, 0, []) := by decide +kernel
theorem zr_21_70 {l0 l2 l3 l4 l5 l6 l7 l8 : Option zV} {x : Option Nat} {st : List zV} {w : zW} {Q : Option zV → zW → Prop}  : zR 21 70 [l0, some (.inr x), l2, l3, l4, l5, l6, l7, l8] st w Q = zR 21 71 [l0, some (.inr x), l2, l3, l4, l5, l6, l7, l8] (.inr x :: st) w Q := zR_go (zst zT_21_70 rfl)
theorem zT_21_71 : zT 21 71 = some (.getfield 243, 3, 0, [(5, 0)]) := by decide +kernel
theorem zr_21_71 {l0 l1 l2 l3 l4 l5 l6 l7 l8 : Option zV} {h : Nat} {st : List zV} {w : zW} {Q : Option zV → zW → Prop} (hk : zk w h = 5) : zR 21 71 [l0, l1, l2, l3, l4, l5, l6, l7, l8] (.inr (some h) :: st) w Q = zR 21 74 [l0, l1, l2, l3, l4, l5, l6, l7, l8] (.inl (zf w 41 h) :: st) w Q := zR_go (zst zT_21_71 (zget_i hk (Or.inl rfl)))
theorem zT_21_74 : zT 21 74 = some (.invokevirtual 246, 3, 2, [(1, 113), (4, 113), (8, 113)]) := by decide +kernel
theorem zr_21_74c1 {l0 l1 l2 l3 l4 l5 l6 l7 l8 : Option zV} {a0 a1 : zV} {h : Nat} {st : List zV} {w : zW} {Q : Option zV → zW → Prop} (hs : st.length ≤ 8) (hk : zk w h = 1) : zR 21 74 [l0, l1, l2, l3, l4, l5, l6, l7, l8] (a1 :: a0 :: .inr (some h) :: st) w Q = zR 113 0 [some (.inr (some h)), some a0, some a1, none] [] w (fun r w2 => zR 21 77 [l0, l1, l2, l3, l4, l5, l6, l7, l8] (r.toList ++ st) w2 Q) := zR_call (zst zT_21_74 (zcall_v [a1, a0] rfl hs hk rfl))
theorem zr_21_74c4 {l0 l1 l2 l3 l4 l5 l6 l7 l8 : Option zV} {a0 a1 : zV} {h : Nat} {st : List zV} {w : zW} {Q : Option zV → zW → Prop} (hs : st.length ≤ 8) (hk : zk w h = 4) : zR 21 74 [l0, l1, l2, l3, l4, l5, l6, l7, l8] (a1 :: a0 :: .inr (some h) :: st) w Q = zR 113 0 [some (.inr (some h)), some a0, some a1, none] [] w (fun r w2 => zR 21 77 [l0, l1, l2, l3, l4, l5, l6, l7, l8] (r.toList ++ st) w2 Q) := zR_call (zst zT_21_74 (zcall_v [a1, a0] rfl hs hk rfl))
theorem zr_21_74c8 {l0 l1 l2 l3 l4 l5 l6 l7 l8 : Option zV} {a0 a1 : zV} {h : Nat} {st : List zV} {w : zW} {Q : Option zV → zW → Prop} (hs : st.length ≤ 8) (hk : zk w h = 8) : zR 21 74 [l0, l1, l2, l3, l4, l5, l6, l7, l8] (a1 :: a0 :: .inr (some h) :: st) w Q = zR 113 0 [some (.inr (some h)), some a0, some a1, none] [] w (fun r w2 => zR 21 77 [l0, l1, l2, l3, l4, l5, l6, l7, l8] (r.toList ++ st) w2 Q) := zR_call (zst zT_21_74 (zcall_v [a1, a0] rfl hs hk rfl))
theorem zT_21_77 : zT 21 77 = some (.astore 8, 2, 0, []) := by decide +kernel
theorem zr_21_77 {l0 l1 l2 l3 l4 l5 l6 l7 l8 : Option zV} {x : Option Nat} {st : List zV} {w : zW} {Q : Option zV → zW → Prop}  : zR 21 77 [l0, l1, l2, l3, l4, l5, l6, l7, l8] (.inr x :: st) w Q = zR 21 79 [l0, l1, l2, l3, l4, l5, l6, l7, some (.inr x)] st w Q := zR_go (zst zT_21_77 rfl)
theorem zT_21_79 : zT 21 79 = some (.aload 8, 2, 0, []) := by decide +kernel
theorem zr_21_79 {l0 l1 l2 l3 l4 l5 l6 l7 : Option zV} {x : Option Nat} {st : List zV} {w : zW} {Q : Option zV → zW → Prop}  : zR 21 79 [l0, l1, l2, l3, l4, l5, l6, l7, some (.inr x)] st w Q = zR 21 81 [l0, l1, l2, l3, l4, l5, l6, l7, some (.inr x)] (.inr x :: st) w Q := zR_go (zst zT_21_79 rfl)
theorem zT_21_81 : zT 21 81 = some (.ifnull 15, 3, 0, []) := by decide +kernel
theorem zr_21_81n {l0 l1 l2 l3 l4 l5 l6 l7 l8 : Option zV} {st : List zV} {w : zW} {Q : Option zV → zW → Prop}  : zR 21 81 [l0, l1, l2, l3, l4, l5, l6, l7, l8] (.inr none :: st) w Q = zR 21 96 [l0, l1, l2, l3, l4, l5, l6, l7, l8] st w Q := zR_go (zst zT_21_81 rfl)
theorem zr_21_81s {l0 l1 l2 l3 l4 l5 l6 l7 l8 : Option zV} {h : Nat} {st : List zV} {w : zW} {Q : Option zV → zW → Prop}  : zR 21 81 [l0, l1, l2, l3, l4, l5, l6, l7, l8] (.inr (some h) :: st) w Q = zR 21 84 [l0, l1, l2, l3, l4, l5, l6, l7, l8] st w Q := zR_go (zst zT_21_81 rfl)
theorem zT_21_84 : zT 21 84 = some (.aload_n 0, 1, 0, []) := by decide +kernel
theorem zr_21_84 {l1 l2 l3 l4 l5 l6 l7 l8 : Option zV} {x : Option Nat} {st : List zV} {w : zW} {Q : Option zV → zW → Prop}  : zR 21 84 [some (.inr x), l1, l2, l3, l4, l5, l6, l7, l8] st w Q = zR 21 85 [some (.inr x), l1, l2, l3, l4, l5, l6, l7, l8] (.inr x :: st) w Q := zR_go (zst zT_21_84 rfl)
theorem zT_21_85 : zT 21 85 = some (.getfield 17, 3, 0, [(0, 1)]) := by decide +kernel
theorem zr_21_85 {l0 l1 l2 l3 l4 l5 l6 l7 l8 : Option zV} {h : Nat} {st : List zV} {w : zW} {Q : Option zV → zW → Prop} (hk : zk w h = 0) : zR 21 85 [l0, l1, l2, l3, l4, l5, l6, l7, l8] (.inr (some h) :: st) w Q = zR 21 88 [l0, l1, l2, l3, l4, l5, l6, l7, l8] (.inr (zp w 1 h) :: st) w Q := zR_go (zst zT_21_85 (zget_r hk rfl))
theorem zT_21_88 : zT 21 88 = some (.iload 6, 2, 0, []) := by decide +kernel
theorem zr_21_88 {l0 l1 l2 l3 l4 l5 l7 l8 : Option zV} {x : Int} {st : List zV} {w : zW} {Q : Option zV → zW → Prop}  : zR 21 88 [l0, l1, l2, l3, l4, l5, some (.inl x), l7, l8] st w Q = zR 21 90 [l0, l1, l2, l3, l4, l5, some (.inl x), l7, l8] (.inl x :: st) w Q := zR_go (zst zT_21_88 rfl)
theorem zT_21_90 : zT 21 90 = some (.aaload, 1, 0, []) := by decide +kernel
theorem zr_21_90 {l0 l1 l2 l3 l4 l5 l6 l7 l8 : Option zV} {j : Int} {h : Nat} {st : List zV} {w : zW} {Q : Option zV → zW → Prop} (hk : zNC + 2 < zk w h ∧ zk w h < 1000 ∧ 0 ≤ zN j ∧ zN j < zl w h) : zR 21 90 [l0, l1, l2, l3, l4, l5, l6, l7, l8] (.inl j :: .inr (some h) :: st) w Q = zR 21 91 [l0, l1, l2, l3, l4, l5, l6, l7, l8] (.inr (zb w h (zN j).toNat) :: st) w Q := zR_go (zst zT_21_90 (if_pos hk))
theorem zT_21_91 : zT 21 91 = some (.aload 8, 2, 0, []) := by decide +kernel
theorem zr_21_91 {l0 l1 l2 l3 l4 l5 l6 l7 : Option zV} {x : Option Nat} {st : List zV} {w : zW} {Q : Option zV → zW → Prop}  : zR 21 91 [l0, l1, l2, l3, l4, l5, l6, l7, some (.inr x)] st w Q = zR 21 93 [l0, l1, l2, l3, l4, l5, l6, l7, some (.inr x)] (.inr x :: st) w Q := zR_go (zst zT_21_91 rfl)
theorem zT_21_93 : zT 21 93 = some (.invokevirtual 250, 3, 1, [(1, 107), (4, 150), (8, 150)]) := by decide +kernel
theorem zr_21_93c1 {l0 l1 l2 l3 l4 l5 l6 l7 l8 : Option zV} {a0 : zV} {h : Nat} {st : List zV} {w : zW} {Q : Option zV → zW → Prop} (hs : st.length ≤ 8) (hk : zk w h = 1) : zR 21 93 [l0, l1, l2, l3, l4, l5, l6, l7, l8] (a0 :: .inr (some h) :: st) w Q = zR 107 0 [some (.inr (some h)), some a0] [] w (fun r w2 => zR 21 96 [l0, l1, l2, l3, l4, l5, l6, l7, l8] (r.toList ++ st) w2 Q) := zR_call (zst zT_21_93 (zcall_v [a0] rfl hs hk rfl))
theorem zr_21_93c4 {l0 l1 l2 l3 l4 l5 l6 l7 l8 : Option zV} {a0 : zV} {h : Nat} {st : List zV} {w : zW} {Q : Option zV → zW → Prop} (hs : st.length ≤ 8) (hk : zk w h = 4) : zR 21 93 [l0, l1, l2, l3, l4, l5, l6, l7, l8] (a0 :: .inr (some h) :: st) w Q = zR 150 0 [some (.inr (some h)), some a0, none, none, none] [] w (fun r w2 => zR 21 96 [l0, l1, l2, l3, l4, l5, l6, l7, l8] (r.toList ++ st) w2 Q) := zR_call (zst zT_21_93 (zcall_v [a0] rfl hs hk rfl))
theorem zr_21_93c8 {l0 l1 l2 l3 l4 l5 l6 l7 l8 : Option zV} {a0 : zV} {h : Nat} {st : List zV} {w : zW} {Q : Option zV → zW → Prop} (hs : st.length ≤ 8) (hk : zk w h = 8) : zR 21 93 [l0, l1, l2, l3, l4, l5, l6, l7, l8] (a0 :: .inr (some h) :: st) w Q = zR 150 0 [some (.inr (some h)), some a0, none, none, none] [] w (fun r w2 => zR 21 96 [l0, l1, l2, l3, l4, l5, l6, l7, l8] (r.toList ++ st) w2 Q) := zR_call (zst zT_21_93 (zcall_v [a0] rfl hs hk rfl))
theorem zT_21_96 : zT 21 96 = some (.iinc 6 1, 3, 0, []) := by decide +kernel
theorem zr_21_96 {l0 l1 l2 l3 l4 l5 l7 l8 : Option zV} {x : Int} {st : List zV} {w : zW} {Q : Option zV → zW → Prop}  : zR 21 96 [l0, l1, l2, l3, l4, l5, some (.inl x), l7, l8] st w Q = zR 21 99 [l0, l1, l2, l3, l4, l5, some (.inl (x + 1)), l7, l8] st w Q := zR_go (zst zT_21_96 rfl)
theorem zT_21_99 : zT 21 99 = some (.goto (-77), 3, 0, []) := by decide +kernel
theorem zr_21_99 {l0 l1 l2 l3 l4 l5 l6 l7 l8 : Option zV} {st : List zV} {w : zW} {Q : Option zV → zW → Prop}  : zR 21 99 [l0, l1, l2, l3, l4, l5, l6, l7, l8] st w Q = zR 21 22 [l0, l1, l2, l3, l4, l5, l6, l7, l8] st w Q := zR_go (zst zT_21_99 rfl)
theorem zT_21_102 : zT 21 102 = some (.iload 5, 2, 0, []) := by decide +kernel
theorem zr_21_102 {l0 l1 l2 l3 l4 l6 l7 l8 : Option zV} {x : Int} {st : List zV} {w : zW} {Q : Option zV → zW → Prop}  : zR 21 102 [l0, l1, l2, l3, l4, some (.inl x), l6, l7, l8] st w Q = zR 21 104 [l0, l1, l2, l3, l4, some (.inl x), l6, l7, l8] (.inl x :: st) w Q := zR_go (zst zT_21_102 rfl)
theorem zT_21_104 : zT 21 104 = some (.ireturn, 1, 0, []) := by decide +kernel
theorem zr_21_104 {l0 l1 l2 l3 l4 l5 l6 l7 l8 : Option zV} {x : Int} {w : zW} {Q : Option zV → zW → Prop} (hx : zN x = 0 ∨ zN x = 1) : zR 21 104 [l0, l1, l2, l3, l4, l5, l6, l7, l8] [.inl x] w Q = Q (some (.inl x)) w := zR_ret (zst zT_21_104 (if_pos (Or.inr ⟨rfl, hx⟩)))
theorem zT_22_0 : zT 22 0 = some (.iload_n 0, 1, 0, []) := by decide +kernel
theorem zr_22_0 {l1 : Option zV} {x : Int} {st : List zV} {w : zW} {Q : Option zV → zW → Prop}  : zR 22 0 [some (.inl x), l1] st w Q = zR 22 1 [some (.inl x), l1] (.inl x :: st) w Q := zR_go (zst zT_22_0 rfl)
theorem zT_22_1 : zT 22 1 = some (.sipush 256, 3, 0, []) := by decide +kernel
theorem zr_22_1 {l0 l1 : Option zV} {st : List zV} {w : zW} {Q : Option zV → zW → Prop}  : zR 22 1 [l0, l1] st w Q = zR 22 4 [l0, l1] (.inl 256 :: st) w Q := zR_go (zst zT_22_1 rfl)
theorem zT_22_4 : zT 22 4 = some (.imul, 1, 0, []) := by decide +kernel
theorem zr_22_4 {l0 l1 : Option zV} {x y : Int} {st : List zV} {w : zW} {Q : Option zV → zW → Prop}  : zR 22 4 [l0, l1] (.inl y :: .inl x :: st) w Q = zR 22 5 [l0, l1] (.inl (x * y) :: st) w Q := zR_go (zst zT_22_4 rfl)
theorem zT_22_5 : zT 22 5 = some (.iload_n 1, 1, 0, []) := by decide +kernel
theorem zr_22_5 {l0 : Option zV} {x : Int} {st : List zV} {w : zW} {Q : Option zV → zW → Prop}  : zR 22 5 [l0, some (.inl x)] st w Q = zR 22 6 [l0, some (.inl x)] (.inl x :: st) w Q := zR_go (zst zT_22_5 rfl)
theorem zT_22_6 : zT 22 6 = some (.iadd, 1, 0, []) := by decide +kernel
theorem zr_22_6 {l0 l1 : Option zV} {x y : Int} {st : List zV} {w : zW} {Q : Option zV → zW → Prop}  : zR 22 6 [l0, l1] (.inl y :: .inl x :: st) w Q = zR 22 7 [l0, l1] (.inl (x + y) :: st) w Q := zR_go (zst zT_22_6 rfl)
theorem zT_22_7 : zT 22 7 = some (.i2s, 1, 0, []) := by decide +kernel
theorem zr_22_7 {l0 l1 : Option zV} {x : Int} {st : List zV} {w : zW} {Q : Option zV → zW → Prop}  : zR 22 7 [l0, l1] (.inl x :: st) w Q = zR 22 8 [l0, l1] (.inl (zo_i2s x) :: st) w Q := zR_go (zst zT_22_7 rfl)
theorem zT_22_8 : zT 22 8 = some (.ireturn, 1, 0, []) := by decide +kernel
theorem zr_22_8 {l0 l1 : Option zV} {x : Int} {w : zW} {Q : Option zV → zW → Prop}  : zR 22 8 [l0, l1] [.inl x] w Q = Q (some (.inl x)) w := zR_ret (zst zT_22_8 rfl)
