-- rules of rewriting, an instruction each: laid by program
theorem zT_24_0 : zT 24 0 = some (.iload_n 0, 1, 0, []) := by decide +kernel
theorem zr_24_0 {l1 l2 : Option zV} {x : Int} {st : List zV} {w : zW} {Q : Option zV → zW → Prop}  : zR 24 0 [some (.inl x), l1, l2] st w Q = zR 24 1 [some (.inl x), l1, l2] (.inl x :: st) w Q := zR_go (zst zT_24_0 rfl)
theorem zT_24_1 : zT 24 1 = some (.iload_n 1, 1, 0, []) := by decide +kernel
theorem zr_24_1 {l0 l2 : Option zV} {x : Int} {st : List zV} {w : zW} {Q : Option zV → zW → Prop}  : zR 24 1 [l0, some (.inl x), l2] st w Q = zR 24 2 [l0, some (.inl x), l2] (.inl x :: st) w Q := zR_go (zst zT_24_1 rfl)
theorem zT_24_2 : zT 24 2 = some (.if_icmp .lt 12, 3, 0, []) := by decide +kernel
theorem zr_24_2 {l0 l1 l2 : Option zV} {x y : Int} {st : List zV} {w : zW} {Q : Option zV → zW → Prop}  : zR 24 2 [l0, l1, l2] (.inl y :: .inl x :: st) w Q = (if zN x < zN y then zR 24 14 [l0, l1, l2] st w Q else zR 24 5 [l0, l1, l2] st w Q) := zR_if (zstB zT_24_2 rfl) (by simp [zcmp])
theorem zT_24_5 : zT 24 5 = some (.iload_n 0, 1, 0, []) := by decide +kernel
theorem zr_24_5 {l1 l2 : Option zV} {x : Int} {st : List zV} {w : zW} {Q : Option zV → zW → Prop}  : zR 24 5 [some (.inl x), l1, l2] st w Q = zR 24 6 [some (.inl x), l1, l2] (.inl x :: st) w Q := zR_go (zst zT_24_5 rfl)
theorem zT_24_6 : zT 24 6 = some (.iload_n 2, 1, 0, []) := by decide +kernel
theorem zr_24_6 {l0 l1 : Option zV} {x : Int} {st : List zV} {w : zW} {Q : Option zV → zW → Prop}  : zR 24 6 [l0, l1, some (.inl x)] st w Q = zR 24 7 [l0, l1, some (.inl x)] (.inl x :: st) w Q := zR_go (zst zT_24_6 rfl)
theorem zT_24_7 : zT 24 7 = some (.if_icmp .gt 7, 3, 0, []) := by decide +kernel
theorem zr_24_7 {l0 l1 l2 : Option zV} {x y : Int} {st : List zV} {w : zW} {Q : Option zV → zW → Prop}  : zR 24 7 [l0, l1, l2] (.inl y :: .inl x :: st) w Q = (if zN y < zN x then zR 24 14 [l0, l1, l2] st w Q else zR 24 10 [l0, l1, l2] st w Q) := zR_if (zstB zT_24_7 rfl) (by simp [zcmp])
theorem zT_24_10 : zT 24 10 = some (.iconst 1, 1, 0, []) := by decide +kernel
theorem zr_24_10 {l0 l1 l2 : Option zV} {st : List zV} {w : zW} {Q : Option zV → zW → Prop}  : zR 24 10 [l0, l1, l2] st w Q = zR 24 11 [l0, l1, l2] (.inl 1 :: st) w Q := zR_go (zst zT_24_10 rfl)
theorem zT_24_11 : zT 24 11 = some (.goto 4, 3, 0, []) := by decide +kernel
theorem zr_24_11 {l0 l1 l2 : Option zV} {st : List zV} {w : zW} {Q : Option zV → zW → Prop}  : zR 24 11 [l0, l1, l2] st w Q = zR 24 15 [l0, l1, l2] st w Q := zR_go (zst zT_24_11 rfl)
theorem zT_24_14 : zT 24 14 = some (.iconst 0, 1, 0, []) := by decide +kernel
theorem zr_24_14 {l0 l1 l2 : Option zV} {st : List zV} {w : zW} {Q : Option zV → zW → Prop}  : zR 24 14 [l0, l1, l2] st w Q = zR 24 15 [l0, l1, l2] (.inl 0 :: st) w Q := zR_go (zst zT_24_14 rfl)
theorem zT_24_15 : zT 24 15 = some (.ireturn, 1, 0, []) := by decide +kernel
theorem zr_24_15 {l0 l1 l2 : Option zV} {x : Int} {w : zW} {Q : Option zV → zW → Prop} (hx : zN x = 0 ∨ zN x = 1) : zR 24 15 [l0, l1, l2] [.inl x] w Q = Q (some (.inl x)) w := zR_ret (zst zT_24_15 (if_pos (Or.inr ⟨rfl, hx⟩)))
theorem zT_25_0 : zT 25 0 = some (.iload_n 0, 1, 0, []) := by decide +kernel
theorem zr_25_0 {x : Int} {st : List zV} {w : zW} {Q : Option zV → zW → Prop}  : zR 25 0 [some (.inl x)] st w Q = zR 25 1 [some (.inl x)] (.inl x :: st) w Q := zR_go (zst zT_25_0 rfl)
theorem zT_25_1 : zT 25 1 = some (.bipush 7, 2, 0, []) := by decide +kernel
theorem zr_25_1 {l0 : Option zV} {st : List zV} {w : zW} {Q : Option zV → zW → Prop}  : zR 25 1 [l0] st w Q = zR 25 3 [l0] (.inl 7 :: st) w Q := zR_go (zst zT_25_1 rfl)
theorem zT_25_3 : zT 25 3 = some (.if_icmp .ne 7, 3, 0, []) := by decide +kernel
theorem zr_25_3 {l0 : Option zV} {x y : Int} {st : List zV} {w : zW} {Q : Option zV → zW → Prop}  : zR 25 3 [l0] (.inl y :: .inl x :: st) w Q = (if zN x ≠ zN y then zR 25 10 [l0] st w Q else zR 25 6 [l0] st w Q) := zR_if (zstB zT_25_3 rfl) (by simp [zcmp])
theorem zT_25_6 : zT 25 6 = some (.iconst 1, 1, 0, []) := by decide +kernel
theorem zr_25_6 {l0 : Option zV} {st : List zV} {w : zW} {Q : Option zV → zW → Prop}  : zR 25 6 [l0] st w Q = zR 25 7 [l0] (.inl 1 :: st) w Q := zR_go (zst zT_25_6 rfl)
theorem zT_25_7 : zT 25 7 = some (.goto 4, 3, 0, []) := by decide +kernel
theorem zr_25_7 {l0 : Option zV} {st : List zV} {w : zW} {Q : Option zV → zW → Prop}  : zR 25 7 [l0] st w Q = zR 25 11 [l0] st w Q := zR_go (zst zT_25_7 rfl)
theorem zT_25_10 : zT 25 10 = some (.iload_n 0, 1, 0, []) := by decide +kernel
theorem zr_25_10 {x : Int} {st : List zV} {w : zW} {Q : Option zV → zW → Prop}  : zR 25 10 [some (.inl x)] st w Q = zR 25 11 [some (.inl x)] (.inl x :: st) w Q := zR_go (zst zT_25_10 rfl)
theorem zT_25_11 : zT 25 11 = some (.ireturn, 1, 0, []) := by decide +kernel
theorem zr_25_11 {l0 : Option zV} {x : Int} {w : zW} {Q : Option zV → zW → Prop}  : zR 25 11 [l0] [.inl x] w Q = Q (some (.inl x)) w := zR_ret (zst zT_25_11 rfl)
theorem zT_26_0 : zT 26 0 = some (.iload_n 0, 1, 0, []) := by decide +kernel
theorem zr_26_0 {x : Int} {st : List zV} {w : zW} {Q : Option zV → zW → Prop}  : zR 26 0 [some (.inl x)] st w Q = zR 26 1 [some (.inl x)] (.inl x :: st) w Q := zR_go (zst zT_26_0 rfl)
theorem zT_26_1 : zT 26 1 = some (.ifCond .ne 7, 3, 0, []) := by decide +kernel
theorem zr_26_1 {l0 : Option zV} {x : Int} {st : List zV} {w : zW} {Q : Option zV → zW → Prop}  : zR 26 1 [l0] (.inl x :: st) w Q = (if zN x ≠ 0 then zR 26 8 [l0] st w Q else zR 26 4 [l0] st w Q) := zR_if (zstB zT_26_1 rfl) (by simp [zcmp])
theorem zT_26_4 : zT 26 4 = some (.iconst 0, 1, 0, []) := by decide +kernel
theorem zr_26_4 {l0 : Option zV} {st : List zV} {w : zW} {Q : Option zV → zW → Prop}  : zR 26 4 [l0] st w Q = zR 26 5 [l0] (.inl 0 :: st) w Q := zR_go (zst zT_26_4 rfl)
theorem zT_26_5 : zT 26 5 = some (.goto 5, 3, 0, []) := by decide +kernel
theorem zr_26_5 {l0 : Option zV} {st : List zV} {w : zW} {Q : Option zV → zW → Prop}  : zR 26 5 [l0] st w Q = zR 26 10 [l0] st w Q := zR_go (zst zT_26_5 rfl)
theorem zT_26_8 : zT 26 8 = some (.bipush 7, 2, 0, []) := by decide +kernel
theorem zr_26_8 {l0 : Option zV} {st : List zV} {w : zW} {Q : Option zV → zW → Prop}  : zR 26 8 [l0] st w Q = zR 26 10 [l0] (.inl 7 :: st) w Q := zR_go (zst zT_26_8 rfl)
theorem zT_26_10 : zT 26 10 = some (.ireturn, 1, 0, []) := by decide +kernel
theorem zr_26_10 {l0 : Option zV} {x : Int} {w : zW} {Q : Option zV → zW → Prop}  : zR 26 10 [l0] [.inl x] w Q = Q (some (.inl x)) w := zR_ret (zst zT_26_10 rfl)
theorem zT_27_0 : zT 27 0 = some (.iload_n 0, 1, 0, []) := by decide +kernel
theorem zr_27_0 {x : Int} {st : List zV} {w : zW} {Q : Option zV → zW → Prop}  : zR 27 0 [some (.inl x)] st w Q = zR 27 1 [some (.inl x)] (.inl x :: st) w Q := zR_go (zst zT_27_0 rfl)
theorem zT_27_1 : zT 27 1 = some (.iconst 2, 1, 0, []) := by decide +kernel
theorem zr_27_1 {l0 : Option zV} {st : List zV} {w : zW} {Q : Option zV → zW → Prop}  : zR 27 1 [l0] st w Q = zR 27 2 [l0] (.inl 2 :: st) w Q := zR_go (zst zT_27_1 rfl)
theorem zT_27_2 : zT 27 2 = some (.if_icmp .lt 13, 3, 0, []) := by decide +kernel
theorem zr_27_2 {l0 : Option zV} {x y : Int} {st : List zV} {w : zW} {Q : Option zV → zW → Prop}  : zR 27 2 [l0] (.inl y :: .inl x :: st) w Q = (if zN x < zN y then zR 27 15 [l0] st w Q else zR 27 5 [l0] st w Q) := zR_if (zstB zT_27_2 rfl) (by simp [zcmp])
theorem zT_27_5 : zT 27 5 = some (.iload_n 0, 1, 0, []) := by decide +kernel
theorem zr_27_5 {x : Int} {st : List zV} {w : zW} {Q : Option zV → zW → Prop}  : zR 27 5 [some (.inl x)] st w Q = zR 27 6 [some (.inl x)] (.inl x :: st) w Q := zR_go (zst zT_27_5 rfl)
theorem zT_27_6 : zT 27 6 = some (.bipush 6, 2, 0, []) := by decide +kernel
theorem zr_27_6 {l0 : Option zV} {st : List zV} {w : zW} {Q : Option zV → zW → Prop}  : zR 27 6 [l0] st w Q = zR 27 8 [l0] (.inl 6 :: st) w Q := zR_go (zst zT_27_6 rfl)
theorem zT_27_8 : zT 27 8 = some (.if_icmp .gt 7, 3, 0, []) := by decide +kernel
theorem zr_27_8 {l0 : Option zV} {x y : Int} {st : List zV} {w : zW} {Q : Option zV → zW → Prop}  : zR 27 8 [l0] (.inl y :: .inl x :: st) w Q = (if zN y < zN x then zR 27 15 [l0] st w Q else zR 27 11 [l0] st w Q) := zR_if (zstB zT_27_8 rfl) (by simp [zcmp])
theorem zT_27_11 : zT 27 11 = some (.iconst 1, 1, 0, []) := by decide +kernel
theorem zr_27_11 {l0 : Option zV} {st : List zV} {w : zW} {Q : Option zV → zW → Prop}  : zR 27 11 [l0] st w Q = zR 27 12 [l0] (.inl 1 :: st) w Q := zR_go (zst zT_27_11 rfl)
theorem zT_27_12 : zT 27 12 = some (.goto 4, 3, 0, []) := by decide +kernel
theorem zr_27_12 {l0 : Option zV} {st : List zV} {w : zW} {Q : Option zV → zW → Prop}  : zR 27 12 [l0] st w Q = zR 27 16 [l0] st w Q := zR_go (zst zT_27_12 rfl)
theorem zT_27_15 : zT 27 15 = some (.iconst 0, 1, 0, []) := by decide +kernel
theorem zr_27_15 {l0 : Option zV} {st : List zV} {w : zW} {Q : Option zV → zW → Prop}  : zR 27 15 [l0] st w Q = zR 27 16 [l0] (.inl 0 :: st) w Q := zR_go (zst zT_27_15 rfl)
theorem zT_27_16 : zT 27 16 = some (.ireturn, 1, 0, []) := by decide +kernel
theorem zr_27_16 {l0 : Option zV} {x : Int} {w : zW} {Q : Option zV → zW → Prop} (hx : zN x = 0 ∨ zN x = 1) : zR 27 16 [l0] [.inl x] w Q = Q (some (.inl x)) w := zR_ret (zst zT_27_16 (if_pos (Or.inr ⟨rfl, hx⟩)))
theorem zT_28_0 : zT 28 0 = some (.iload_n 1, 1, 0, []) := by decide +kernel
theorem zr_28_0 {l0 : Option zV} {x : Int} {st : List zV} {w : zW} {Q : Option zV → zW → Prop}  : zR 28 0 [l0, some (.inl x)] st w Q = zR 28 1 [l0, some (.inl x)] (.inl x :: st) w Q := zR_go (zst zT_28_0 rfl)
theorem zT_28_1 : zT 28 1 = some (.iconst 1, 1, 0, []) := by decide +kernel
theorem zr_28_1 {l0 l1 : Option zV} {st : List zV} {w : zW} {Q : Option zV → zW → Prop}  : zR 28 1 [l0, l1] st w Q = zR 28 2 [l0, l1] (.inl 1 :: st) w Q := zR_go (zst zT_28_1 rfl)
theorem zT_28_2 : zT 28 2 = some (.if_icmp .eq 19, 3, 0, []) := by decide +kernel
theorem zr_28_2 {l0 l1 : Option zV} {x y : Int} {st : List zV} {w : zW} {Q : Option zV → zW → Prop}  : zR 28 2 [l0, l1] (.inl y :: .inl x :: st) w Q = (if zN x = zN y then zR 28 21 [l0, l1] st w Q else zR 28 5 [l0, l1] st w Q) := zR_if (zstB zT_28_2 rfl) (by simp [zcmp])
theorem zT_28_5 : zT 28 5 = some (.iload_n 1, 1, 0, []) := by decide +kernel
theorem zr_28_5 {l0 : Option zV} {x : Int} {st : List zV} {w : zW} {Q : Option zV → zW → Prop}  : zR 28 5 [l0, some (.inl x)] st w Q = zR 28 6 [l0, some (.inl x)] (.inl x :: st) w Q := zR_go (zst zT_28_5 rfl)
theorem zT_28_6 : zT 28 6 = some (.invokestatic 146, 3, 1, [(27, 1)]) := by decide +kernel
theorem zr_28_6 {l0 l1 : Option zV} {a0 : zV} {st : List zV} {w : zW} {Q : Option zV → zW → Prop} (hs : st.length ≤ 8) : zR 28 6 [l0, l1] (a0 :: st) w Q = zR 27 0 [some a0] [] w (fun r w2 => zR 28 9 [l0, l1] (r.toList ++ st) w2 Q) := zR_call (zst zT_28_6 ((zcall_s (z := 1) (pc := 6) (j := 27) (ls := [l0, l1]) (w := w) [a0] rfl hs : zi_static 1 [(27, 1)] 6 [l0, l1] ([a0] ++ st) w = _)))
theorem zT_28_9 : zT 28 9 = some (.ifCond .eq 16, 3, 0, []) := by decide +kernel
theorem zr_28_9 {l0 l1 : Option zV} {x : Int} {st : List zV} {w : zW} {Q : Option zV → zW → Prop}  : zR 28 9 [l0, l1] (.inl x :: st) w Q = (if zN x = 0 then zR 28 25 [l0, l1] st w Q else zR 28 12 [l0, l1] st w Q) := zR_if (zstB zT_28_9 rfl) (by simp [zcmp])
theorem zT_28_12 : zT 28 12 = some (.aload_n 0, 1, 0, []) := by decide +kernel
theorem zr_28_12 {l1 : Option zV} {x : Option Nat} {st : List zV} {w : zW} {Q : Option zV → zW → Prop}  : zR 28 12 [some (.inr x), l1] st w Q = zR 28 13 [some (.inr x), l1] (.inr x :: st) w Q := zR_go (zst zT_28_12 rfl)
theorem zT_28_13 : zT 28 13 = some (.getfield 7, 3, 0, [(11, 1)]) := by decide +kernel
theorem zr_28_13 {l0 l1 : Option zV} {h : Nat} {st : List zV} {w : zW} {Q : Option zV → zW → Prop} (hk : zk w h = 11) : zR 28 13 [l0, l1] (.inr (some h) :: st) w Q = zR 28 16 [l0, l1] (.inr (zp w 73 h) :: st) w Q := zR_go (zst zT_28_13 (zget_r hk rfl))
theorem zT_28_16 : zT 28 16 = some (.iload_n 1, 1, 0, []) := by decide +kernel
theorem zr_28_16 {l0 : Option zV} {x : Int} {st : List zV} {w : zW} {Q : Option zV → zW → Prop}  : zR 28 16 [l0, some (.inl x)] st w Q = zR 28 17 [l0, some (.inl x)] (.inl x :: st) w Q := zR_go (zst zT_28_16 rfl)
theorem zT_28_17 : zT 28 17 = some (.iaload, 1, 0, []) := by decide +kernel
theorem zr_28_17 {l0 l1 : Option zV} {j : Int} {h : Nat} {st : List zV} {w : zW} {Q : Option zV → zW → Prop} (hk : (zk w h = zNC ∨ zk w h = zNC + 2) ∧ 0 ≤ zN j ∧ zN j < zl w h) : zR 28 17 [l0, l1] (.inl j :: .inr (some h) :: st) w Q = zR 28 18 [l0, l1] (.inl (za w h (zN j).toNat) :: st) w Q := zR_go (zst zT_28_17 (if_pos hk))
theorem zT_28_18 : zT 28 18 = some (.ifCond .lt 7, 3, 0, []) := by decide +kernel
theorem zr_28_18 {l0 l1 : Option zV} {x : Int} {st : List zV} {w : zW} {Q : Option zV → zW → Prop}  : zR 28 18 [l0, l1] (.inl x :: st) w Q = (if zN x < 0 then zR 28 25 [l0, l1] st w Q else zR 28 21 [l0, l1] st w Q) := zR_if (zstB zT_28_18 rfl) (by simp [zcmp])
theorem zT_28_21 : zT 28 21 = some (.iconst 1, 1, 0, []) := by decide +kernel
theorem zr_28_21 {l0 l1 : Option zV} {st : List zV} {w : zW} {Q : Option zV → zW → Prop}  : zR 28 21 [l0, l1] st w Q = zR 28 22 [l0, l1] (.inl 1 :: st) w Q := zR_go (zst zT_28_21 rfl)
theorem zT_28_22 : zT 28 22 = some (.goto 4, 3, 0, []) := by decide +kernel
theorem zr_28_22 {l0 l1 : Option zV} {st : List zV} {w : zW} {Q : Option zV → zW → Prop}  : zR 28 22 [l0, l1] st w Q = zR 28 26 [l0, l1] st w Q := zR_go (zst zT_28_22 rfl)
theorem zT_28_25 : zT 28 25 = some (.iconst 0, 1, 0, []) := by decide +kernel
theorem zr_28_25 {l0 l1 : Option zV} {st : List zV} {w : zW} {Q : Option zV → zW → Prop}  : zR 28 25 [l0, l1] st w Q = zR 28 26 [l0, l1] (.inl 0 :: st) w Q := zR_go (zst zT_28_25 rfl)
theorem zT_28_26 : zT 28 26 = some (.ireturn, 1, 0, []) := by decide +kernel
theorem zr_28_26 {l0 l1 : Option zV} {x : Int} {w : zW} {Q : Option zV → zW → Prop} (hx : zN x = 0 ∨ zN x = 1) : zR 28 26 [l0, l1] [.inl x] w Q = Q (some (.inl x)) w := zR_ret (zst zT_28_26 (if_pos (Or.inr ⟨rfl, hx⟩)))
theorem zT_29_0 : zT 29 0 = some (.iload_n 1, 1, 0, []) := by decide +kernel
theorem zr_29_0 {l0 l2 l3 l4 : Option zV} {x : Int} {st : List zV} {w : zW} {Q : Option zV → zW → Prop}  : zR 29 0 [l0, some (.inl x), l2, l3, l4] st w Q = zR 29 1 [l0, some (.inl x), l2, l3, l4] (.inl x :: st) w Q := zR_go (zst zT_29_0 rfl)
theorem zT_29_1 : zT 29 1 = some (.invokestatic 146, 3, 1, [(27, 1)]) := by decide +kernel
theorem zr_29_1 {l0 l1 l2 l3 l4 : Option zV} {a0 : zV} {st : List zV} {w : zW} {Q : Option zV → zW → Prop} (hs : st.length ≤ 8) : zR 29 1 [l0, l1, l2, l3, l4] (a0 :: st) w Q = zR 27 0 [some a0] [] w (fun r w2 => zR 29 4 [l0, l1, l2, l3, l4] (r.toList ++ st) w2 Q) := zR_call (zst zT_29_1 ((zcall_s (z := 1) (pc := 1) (j := 27) (ls := [l0, l1, l2, l3, l4]) (w := w) [a0] rfl hs : zi_static 1 [(27, 1)] 1 [l0, l1, l2, l3, l4] ([a0] ++ st) w = _)))
theorem zT_29_4 : zT 29 4 = some (.ifCond .eq 31, 3, 0, []) := by decide +kernel
theorem zr_29_4 {l0 l1 l2 l3 l4 : Option zV} {x : Int} {st : List zV} {w : zW} {Q : Option zV → zW → Prop}  : zR 29 4 [l0, l1, l2, l3, l4] (.inl x :: st) w Q = (if zN x = 0 then zR 29 35 [l0, l1, l2, l3, l4] st w Q else zR 29 7 [l0, l1, l2, l3, l4] st w Q) := zR_if (zstB zT_29_4 rfl) (by simp [zcmp])
theorem zT_29_7 : zT 29 7 = some (.aload_n 0, 1, 0, []) := by decide +kernel
theorem zr_29_7 {l1 l2 l3 l4 : Option zV} {x : Option Nat} {st : List zV} {w : zW} {Q : Option zV → zW → Prop}  : zR 29 7 [some (.inr x), l1, l2, l3, l4] st w Q = zR 29 8 [some (.inr x), l1, l2, l3, l4] (.inr x :: st) w Q := zR_go (zst zT_29_7 rfl)
theorem zT_29_8 : zT 29 8 = some (.getfield 7, 3, 0, [(11, 1)]) := by decide +kernel
theorem zr_29_8 {l0 l1 l2 l3 l4 : Option zV} {h : Nat} {st : List zV} {w : zW} {Q : Option zV → zW → Prop} (hk : zk w h = 11) : zR 29 8 [l0, l1, l2, l3, l4] (.inr (some h) :: st) w Q = zR 29 11 [l0, l1, l2, l3, l4] (.inr (zp w 73 h) :: st) w Q := zR_go (zst zT_29_8 (zget_r hk rfl))
theorem zT_29_11 : zT 29 11 = some (.iload_n 1, 1, 0, []) := by decide +kernel
theorem zr_29_11 {l0 l2 l3 l4 : Option zV} {x : Int} {st : List zV} {w : zW} {Q : Option zV → zW → Prop}  : zR 29 11 [l0, some (.inl x), l2, l3, l4] st w Q = zR 29 12 [l0, some (.inl x), l2, l3, l4] (.inl x :: st) w Q := zR_go (zst zT_29_11 rfl)
theorem zT_29_12 : zT 29 12 = some (.iaload, 1, 0, []) := by decide +kernel
theorem zr_29_12 {l0 l1 l2 l3 l4 : Option zV} {j : Int} {h : Nat} {st : List zV} {w : zW} {Q : Option zV → zW → Prop} (hk : (zk w h = zNC ∨ zk w h = zNC + 2) ∧ 0 ≤ zN j ∧ zN j < zl w h) : zR 29 12 [l0, l1, l2, l3, l4] (.inl j :: .inr (some h) :: st) w Q = zR 29 13 [l0, l1, l2, l3, l4] (.inl (za w h (zN j).toNat) :: st) w Q := zR_go (zst zT_29_12 (if_pos hk))
theorem zT_29_13 : zT 29 13 = some (.ifCond .ge 22, 3, 0, []) := by decide +kernel
theorem zr_29_13 {l0 l1 l2 l3 l4 : Option zV} {x : Int} {st : List zV} {w : zW} {Q : Option zV → zW → Prop}  : zR 29 13 [l0, l1, l2, l3, l4] (.inl x :: st) w Q = (if 0 ≤ zN x then zR 29 35 [l0, l1, l2, l3, l4] st w Q else zR 29 16 [l0, l1, l2, l3, l4] st w Q) := zR_if (zstB zT_29_13 rfl) (by simp [zcmp])
theorem zT_29_16 : zT 29 16 = some (.iload_n 2, 1, 0, []) := by decide +kernel
theorem zr_29_16 {l0 l1 l3 l4 : Option zV} {x : Int} {st : List zV} {w : zW} {Q : Option zV → zW → Prop}  : zR 29 16 [l0, l1, some (.inl x), l3, l4] st w Q = zR 29 17 [l0, l1, some (.inl x), l3, l4] (.inl x :: st) w Q := zR_go (zst zT_29_16 rfl)
theorem zT_29_17 : zT 29 17 = some (.iconst 0, 1, 0, []) := by decide +kernel
theorem zr_29_17 {l0 l1 l2 l3 l4 : Option zV} {st : List zV} {w : zW} {Q : Option zV → zW → Prop}  : zR 29 17 [l0, l1, l2, l3, l4] st w Q = zR 29 18 [l0, l1, l2, l3, l4] (.inl 0 :: st) w Q := zR_go (zst zT_29_17 rfl)
theorem zT_29_18 : zT 29 18 = some (.iconst 1, 1, 0, []) := by decide +kernel
theorem zr_29_18 {l0 l1 l2 l3 l4 : Option zV} {st : List zV} {w : zW} {Q : Option zV → zW → Prop}  : zR 29 18 [l0, l1, l2, l3, l4] st w Q = zR 29 19 [l0, l1, l2, l3, l4] (.inl 1 :: st) w Q := zR_go (zst zT_29_18 rfl)
theorem zT_29_19 : zT 29 19 = some (.invokestatic 150, 3, 3, [(24, 1)]) := by decide +kernel
theorem zr_29_19 {l0 l1 l2 l3 l4 : Option zV} {a0 a1 a2 : zV} {st : List zV} {w : zW} {Q : Option zV → zW → Prop} (hs : st.length ≤ 8) : zR 29 19 [l0, l1, l2, l3, l4] (a2 :: a1 :: a0 :: st) w Q = zR 24 0 [some a0, some a1, some a2] [] w (fun r w2 => zR 29 22 [l0, l1, l2, l3, l4] (r.toList ++ st) w2 Q) := zR_call (zst zT_29_19 ((zcall_s (z := 3) (pc := 19) (j := 24) (ls := [l0, l1, l2, l3, l4]) (w := w) [a2, a1, a0] rfl hs : zi_static 3 [(24, 1)] 19 [l0, l1, l2, l3, l4] ([a2, a1, a0] ++ st) w = _)))
theorem zT_29_22 : zT 29 22 = some (.ifCond .eq 13, 3, 0, []) := by decide +kernel
theorem zr_29_22 {l0 l1 l2 l3 l4 : Option zV} {x : Int} {st : List zV} {w : zW} {Q : Option zV → zW → Prop}  : zR 29 22 [l0, l1, l2, l3, l4] (.inl x :: st) w Q = (if zN x = 0 then zR 29 35 [l0, l1, l2, l3, l4] st w Q else zR 29 25 [l0, l1, l2, l3, l4] st w Q) := zR_if (zstB zT_29_22 rfl) (by simp [zcmp])
theorem zT_29_25 : zT 29 25 = some (.iload_n 3, 1, 0, []) := by decide +kernel
theorem zr_29_25 {l0 l1 l2 l4 : Option zV} {x : Int} {st : List zV} {w : zW} {Q : Option zV → zW → Prop}  : zR 29 25 [l0, l1, l2, some (.inl x), l4] st w Q = zR 29 26 [l0, l1, l2, some (.inl x), l4] (.inl x :: st) w Q := zR_go (zst zT_29_25 rfl)
theorem zT_29_26 : zT 29 26 = some (.iconst 0, 1, 0, []) := by decide +kernel
theorem zr_29_26 {l0 l1 l2 l3 l4 : Option zV} {st : List zV} {w : zW} {Q : Option zV → zW → Prop}  : zR 29 26 [l0, l1, l2, l3, l4] st w Q = zR 29 27 [l0, l1, l2, l3, l4] (.inl 0 :: st) w Q := zR_go (zst zT_29_26 rfl)
theorem zT_29_27 : zT 29 27 = some (.ldc 154, 2, 65535, []) := by decide +kernel
theorem zr_29_27 {l0 l1 l2 l3 l4 : Option zV} {st : List zV} {w : zW} {Q : Option zV → zW → Prop}  : zR 29 27 [l0, l1, l2, l3, l4] st w Q = zR 29 29 [l0, l1, l2, l3, l4] (.inl 65535 :: st) w Q := zR_go (zst zT_29_27 rfl)
theorem zT_29_29 : zT 29 29 = some (.invokestatic 150, 3, 3, [(24, 1)]) := by decide +kernel
theorem zr_29_29 {l0 l1 l2 l3 l4 : Option zV} {a0 a1 a2 : zV} {st : List zV} {w : zW} {Q : Option zV → zW → Prop} (hs : st.length ≤ 8) : zR 29 29 [l0, l1, l2, l3, l4] (a2 :: a1 :: a0 :: st) w Q = zR 24 0 [some a0, some a1, some a2] [] w (fun r w2 => zR 29 32 [l0, l1, l2, l3, l4] (r.toList ++ st) w2 Q) := zR_call (zst zT_29_29 ((zcall_s (z := 3) (pc := 29) (j := 24) (ls := [l0, l1, l2, l3, l4]) (w := w) [a2, a1, a0] rfl hs : zi_static 3 [(24, 1)] 29 [l0, l1, l2, l3, l4] ([a2, a1, a0] ++ st) w = _)))
theorem zT_29_32 : zT 29 32 = some (.ifCond .ne 5, 3, 0, []) := by decide +kernel
theorem zr_29_32 {l0 l1 l2 l3 l4 : Option zV} {x : Int} {st : List zV} {w : zW} {Q : Option zV → zW → Prop}  : zR 29 32 [l0, l1, l2, l3, l4] (.inl x :: st) w Q = (if zN x ≠ 0 then zR 29 37 [l0, l1, l2, l3, l4] st w Q else zR 29 35 [l0, l1, l2, l3, l4] st w Q) := zR_if (zstB zT_29_32 rfl) (by simp [zcmp])
theorem zT_29_35 : zT 29 35 = some (.iconst 0, 1, 0, []) := by decide +kernel
theorem zr_29_35 {l0 l1 l2 l3 l4 : Option zV} {st : List zV} {w : zW} {Q : Option zV → zW → Prop}  : zR 29 35 [l0, l1, l2, l3, l4] st w Q = zR 29 36 [l0, l1, l2, l3, l4] (.inl 0 :: st) w Q := zR_go (zst zT_29_35 rfl)
theorem zT_29_36 : zT 29 36 = some (.ireturn, 1, 0, []) := by decide +kernel
theorem zr_29_36 {l0 l1 l2 l3 l4 : Option zV} {x : Int} {w : zW} {Q : Option zV → zW → Prop} (hx : zN x = 0 ∨ zN x = 1) : zR 29 36 [l0, l1, l2, l3, l4] [.inl x] w Q = Q (some (.inl x)) w := zR_ret (zst zT_29_36 (if_pos (Or.inr ⟨rfl, hx⟩)))
theorem zT_29_37 : zT 29 37 = some (.aload_n 0, 1, 0, []) := by decide +kernel
theorem zr_29_37 {l1 l2 l3 l4 : Option zV} {x : Option Nat} {st : List zV} {w : zW} {Q : Option zV → zW → Prop}  : zR 29 37 [some (.inr x), l1, l2, l3, l4] st w Q = zR 29 38 [some (.inr x), l1, l2, l3, l4] (.inr x :: st) w Q := zR_go (zst zT_29_37 rfl)
theorem zT_29_38 : zT 29 38 = some (.getfield 7, 3, 0, [(11, 1)]) := by decide +kernel
theorem zr_29_38 {l0 l1 l2 l3 l4 : Option zV} {h : Nat} {st : List zV} {w : zW} {Q : Option zV → zW → Prop} (hk : zk w h = 11) : zR 29 38 [l0, l1, l2, l3, l4] (.inr (some h) :: st) w Q = zR 29 41 [l0, l1, l2, l3, l4] (.inr (zp w 73 h) :: st) w Q := zR_go (zst zT_29_38 (zget_r hk rfl))
theorem zT_29_41 : zT 29 41 = some (.iload_n 1, 1, 0, []) := by decide +kernel
theorem zr_29_41 {l0 l2 l3 l4 : Option zV} {x : Int} {st : List zV} {w : zW} {Q : Option zV → zW → Prop}  : zR 29 41 [l0, some (.inl x), l2, l3, l4] st w Q = zR 29 42 [l0, some (.inl x), l2, l3, l4] (.inl x :: st) w Q := zR_go (zst zT_29_41 rfl)
theorem zT_29_42 : zT 29 42 = some (.iload_n 2, 1, 0, []) := by decide +kernel
theorem zr_29_42 {l0 l1 l3 l4 : Option zV} {x : Int} {st : List zV} {w : zW} {Q : Option zV → zW → Prop}  : zR 29 42 [l0, l1, some (.inl x), l3, l4] st w Q = zR 29 43 [l0, l1, some (.inl x), l3, l4] (.inl x :: st) w Q := zR_go (zst zT_29_42 rfl)
theorem zT_29_43 : zT 29 43 = some (.iastore, 1, 0, []) := by decide +kernel
theorem zr_29_43 {l0 l1 l2 l3 l4 : Option zV} {j x : Int} {h : Nat} {st : List zV} {w : zW} {Q : Option zV → zW → Prop} (hk : zk w h = zNC ∧ 0 ≤ zN j ∧ zN j < zl w h) : zR 29 43 [l0, l1, l2, l3, l4] (.inl x :: .inl j :: .inr (some h) :: st) w Q = zR 29 44 [l0, l1, l2, l3, l4] st (zsa w h (zN j).toNat x) Q := zR_go (zst zT_29_43 (if_pos hk))
theorem zT_29_44 : zT 29 44 = some (.aload_n 0, 1, 0, []) := by decide +kernel
theorem zr_29_44 {l1 l2 l3 l4 : Option zV} {x : Option Nat} {st : List zV} {w : zW} {Q : Option zV → zW → Prop}  : zR 29 44 [some (.inr x), l1, l2, l3, l4] st w Q = zR 29 45 [some (.inr x), l1, l2, l3, l4] (.inr x :: st) w Q := zR_go (zst zT_29_44 rfl)
theorem zT_29_45 : zT 29 45 = some (.getfield 13, 3, 0, [(11, 2)]) := by decide +kernel
theorem zr_29_45 {l0 l1 l2 l3 l4 : Option zV} {h : Nat} {st : List zV} {w : zW} {Q : Option zV → zW → Prop} (hk : zk w h = 11) : zR 29 45 [l0, l1, l2, l3, l4] (.inr (some h) :: st) w Q = zR 29 48 [l0, l1, l2, l3, l4] (.inr (zp w 74 h) :: st) w Q := zR_go (zst zT_29_45 (zget_r hk rfl))
theorem zT_29_48 : zT 29 48 = some (.iload_n 1, 1, 0, []) := by decide +kernel
theorem zr_29_48 {l0 l2 l3 l4 : Option zV} {x : Int} {st : List zV} {w : zW} {Q : Option zV → zW → Prop}  : zR 29 48 [l0, some (.inl x), l2, l3, l4] st w Q = zR 29 49 [l0, some (.inl x), l2, l3, l4] (.inl x :: st) w Q := zR_go (zst zT_29_48 rfl)
theorem zT_29_49 : zT 29 49 = some (.iload_n 3, 1, 0, []) := by decide +kernel
theorem zr_29_49 {l0 l1 l2 l4 : Option zV} {x : Int} {st : List zV} {w : zW} {Q : Option zV → zW → Prop}  : zR 29 49 [l0, l1, l2, some (.inl x), l4] st w Q = zR 29 50 [l0, l1, l2, some (.inl x), l4] (.inl x :: st) w Q := zR_go (zst zT_29_49 rfl)
theorem zT_29_50 : zT 29 50 = some (.iastore, 1, 0, []) := by decide +kernel
theorem zr_29_50 {l0 l1 l2 l3 l4 : Option zV} {j x : Int} {h : Nat} {st : List zV} {w : zW} {Q : Option zV → zW → Prop} (hk : zk w h = zNC ∧ 0 ≤ zN j ∧ zN j < zl w h) : zR 29 50 [l0, l1, l2, l3, l4] (.inl x :: .inl j :: .inr (some h) :: st) w Q = zR 29 51 [l0, l1, l2, l3, l4] st (zsa w h (zN j).toNat x) Q := zR_go (zst zT_29_50 (if_pos hk))
theorem zT_29_51 : zT 29 51 = some (.aload_n 0, 1, 0, []) := by decide +kernel
theorem zr_29_51 {l1 l2 l3 l4 : Option zV} {x : Option Nat} {st : List zV} {w : zW} {Q : Option zV → zW → Prop}  : zR 29 51 [some (.inr x), l1, l2, l3, l4] st w Q = zR 29 52 [some (.inr x), l1, l2, l3, l4] (.inr x :: st) w Q := zR_go (zst zT_29_51 rfl)
theorem zT_29_52 : zT 29 52 = some (.getfield 16, 3, 0, [(11, 3)]) := by decide +kernel
theorem zr_29_52 {l0 l1 l2 l3 l4 : Option zV} {h : Nat} {st : List zV} {w : zW} {Q : Option zV → zW → Prop} (hk : zk w h = 11) : zR 29 52 [l0, l1, l2, l3, l4] (.inr (some h) :: st) w Q = zR 29 55 [l0, l1, l2, l3, l4] (.inr (zp w 75 h) :: st) w Q := zR_go (zst zT_29_52 (zget_r hk rfl))
theorem zT_29_55 : zT 29 55 = some (.iload_n 1, 1, 0, []) := by decide +kernel
theorem zr_29_55 {l0 l2 l3 l4 : Option zV} {x : Int} {st : List zV} {w : zW} {Q : Option zV → zW → Prop}  : zR 29 55 [l0, some (.inl x), l2, l3, l4] st w Q = zR 29 56 [l0, some (.inl x), l2, l3, l4] (.inl x :: st) w Q := zR_go (zst zT_29_55 rfl)
theorem zT_29_56 : zT 29 56 = some (.iconst 0, 1, 0, []) := by decide +kernel
theorem zr_29_56 {l0 l1 l2 l3 l4 : Option zV} {st : List zV} {w : zW} {Q : Option zV → zW → Prop}  : zR 29 56 [l0, l1, l2, l3, l4] st w Q = zR 29 57 [l0, l1, l2, l3, l4] (.inl 0 :: st) w Q := zR_go (zst zT_29_56 rfl)
theorem zT_29_57 : zT 29 57 = some (.iastore, 1, 0, []) := by decide +kernel
theorem zr_29_57 {l0 l1 l2 l3 l4 : Option zV} {j x : Int} {h : Nat} {st : List zV} {w : zW} {Q : Option zV → zW → Prop} (hk : zk w h = zNC ∧ 0 ≤ zN j ∧ zN j < zl w h) : zR 29 57 [l0, l1, l2, l3, l4] (.inl x :: .inl j :: .inr (some h) :: st) w Q = zR 29 58 [l0, l1, l2, l3, l4] st (zsa w h (zN j).toNat x) Q := zR_go (zst zT_29_57 (if_pos hk))
theorem zT_29_58 : zT 29 58 = some (.aload_n 0, 1, 0, []) := by decide +kernel
theorem zr_29_58 {l1 l2 l3 l4 : Option zV} {x : Option Nat} {st : List zV} {w : zW} {Q : Option zV → zW → Prop}  : zR 29 58 [some (.inr x), l1, l2, l3, l4] st w Q = zR 29 59 [some (.inr x), l1, l2, l3, l4] (.inr x :: st) w Q := zR_go (zst zT_29_58 rfl)
theorem zT_29_59 : zT 29 59 = some (.getfield 19, 3, 0, [(11, 4)]) := by decide +kernel
theorem zr_29_59 {l0 l1 l2 l3 l4 : Option zV} {h : Nat} {st : List zV} {w : zW} {Q : Option zV → zW → Prop} (hk : zk w h = 11) : zR 29 59 [l0, l1, l2, l3, l4] (.inr (some h) :: st) w Q = zR 29 62 [l0, l1, l2, l3, l4] (.inr (zp w 76 h) :: st) w Q := zR_go (zst zT_29_59 (zget_r hk rfl))
theorem zT_29_62 : zT 29 62 = some (.iload_n 1, 1, 0, []) := by decide +kernel
theorem zr_29_62 {l0 l2 l3 l4 : Option zV} {x : Int} {st : List zV} {w : zW} {Q : Option zV → zW → Prop}  : zR 29 62 [l0, some (.inl x), l2, l3, l4] st w Q = zR 29 63 [l0, some (.inl x), l2, l3, l4] (.inl x :: st) w Q := zR_go (zst zT_29_62 rfl)
theorem zT_29_63 : zT 29 63 = some (.iconst 0, 1, 0, []) := by decide +kernel
theorem zr_29_63 {l0 l1 l2 l3 l4 : Option zV} {st : List zV} {w : zW} {Q : Option zV → zW → Prop}  : zR 29 63 [l0, l1, l2, l3, l4] st w Q = zR 29 64 [l0, l1, l2, l3, l4] (.inl 0 :: st) w Q := zR_go (zst zT_29_63 rfl)
theorem zT_29_64 : zT 29 64 = some (.bastore, 1, 0, []) := by decide +kernel
theorem zr_29_64 {l0 l1 l2 l3 l4 : Option zV} {j x : Int} {h : Nat} {st : List zV} {w : zW} {Q : Option zV → zW → Prop} (hk : zk w h = zNC + 1 ∧ 0 ≤ zN j ∧ zN j < zl w h ∧ (zN x = 0 ∨ zN x = 1)) : zR 29 64 [l0, l1, l2, l3, l4] (.inl x :: .inl j :: .inr (some h) :: st) w Q = zR 29 65 [l0, l1, l2, l3, l4] st (zsa w h (zN j).toNat x) Q := zR_go (zst zT_29_64 (if_pos hk))
theorem zT_29_65 : zT 29 65 = some (.aload_n 0, 1, 0, []) := by decide +kernel
theorem zr_29_65 {l1 l2 l3 l4 : Option zV} {x : Option Nat} {st : List zV} {w : zW} {Q : Option zV → zW → Prop}  : zR 29 65 [some (.inr x), l1, l2, l3, l4] st w Q = zR 29 66 [some (.inr x), l1, l2, l3, l4] (.inr x :: st) w Q := zR_go (zst zT_29_65 rfl)
theorem zT_29_66 : zT 29 66 = some (.getfield 23, 3, 0, [(11, 5)]) := by decide +kernel
theorem zr_29_66 {l0 l1 l2 l3 l4 : Option zV} {h : Nat} {st : List zV} {w : zW} {Q : Option zV → zW → Prop} (hk : zk w h = 11) : zR 29 66 [l0, l1, l2, l3, l4] (.inr (some h) :: st) w Q = zR 29 69 [l0, l1, l2, l3, l4] (.inr (zp w 77 h) :: st) w Q := zR_go (zst zT_29_66 (zget_r hk rfl))
theorem zT_29_69 : zT 29 69 = some (.iload_n 1, 1, 0, []) := by decide +kernel
theorem zr_29_69 {l0 l2 l3 l4 : Option zV} {x : Int} {st : List zV} {w : zW} {Q : Option zV → zW → Prop}  : zR 29 69 [l0, some (.inl x), l2, l3, l4] st w Q = zR 29 70 [l0, some (.inl x), l2, l3, l4] (.inl x :: st) w Q := zR_go (zst zT_29_69 rfl)
theorem zT_29_70 : zT 29 70 = some (.iconst 0, 1, 0, []) := by decide +kernel
theorem zr_29_70 {l0 l1 l2 l3 l4 : Option zV} {st : List zV} {w : zW} {Q : Option zV → zW → Prop}  : zR 29 70 [l0, l1, l2, l3, l4] st w Q = zR 29 71 [l0, l1, l2, l3, l4] (.inl 0 :: st) w Q := zR_go (zst zT_29_70 rfl)
theorem zT_29_71 : zT 29 71 = some (.iastore, 1, 0, []) := by decide +kernel
theorem zr_29_71 {l0 l1 l2 l3 l4 : Option zV} {j x : Int} {h : Nat} {st : List zV} {w : zW} {Q : Option zV → zW → Prop} (hk : zk w h = zNC ∧ 0 ≤ zN j ∧ zN j < zl w h) : zR 29 71 [l0, l1, l2, l3, l4] (.inl x :: .inl j :: .inr (some h) :: st) w Q = zR 29 72 [l0, l1, l2, l3, l4] st (zsa w h (zN j).toNat x) Q := zR_go (zst zT_29_71 (if_pos hk))
theorem zT_29_72 : zT 29 72 = some (.aload_n 0, 1, 0, []) := by decide +kernel
theorem zr_29_72 {l1 l2 l3 l4 : Option zV} {x : Option Nat} {st : List zV} {w : zW} {Q : Option zV → zW → Prop}  : zR 29 72 [some (.inr x), l1, l2, l3, l4] st w Q = zR 29 73 [some (.inr x), l1, l2, l3, l4] (.inr x :: st) w Q := zR_go (zst zT_29_72 rfl)
theorem zT_29_73 : zT 29 73 = some (.getfield 26, 3, 0, [(11, 6)]) := by decide +kernel
theorem zr_29_73 {l0 l1 l2 l3 l4 : Option zV} {h : Nat} {st : List zV} {w : zW} {Q : Option zV → zW → Prop} (hk : zk w h = 11) : zR 29 73 [l0, l1, l2, l3, l4] (.inr (some h) :: st) w Q = zR 29 76 [l0, l1, l2, l3, l4] (.inr (zp w 78 h) :: st) w Q := zR_go (zst zT_29_73 (zget_r hk rfl))
theorem zT_29_76 : zT 29 76 = some (.iload_n 1, 1, 0, []) := by decide +kernel
theorem zr_29_76 {l0 l2 l3 l4 : Option zV} {x : Int} {st : List zV} {w : zW} {Q : Option zV → zW → Prop}  : zR 29 76 [l0, some (.inl x), l2, l3, l4] st w Q = zR 29 77 [l0, some (.inl x), l2, l3, l4] (.inl x :: st) w Q := zR_go (zst zT_29_76 rfl)
theorem zT_29_77 : zT 29 77 = some (.iconst 0, 1, 0, []) := by decide +kernel
theorem zr_29_77 {l0 l1 l2 l3 l4 : Option zV} {st : List zV} {w : zW} {Q : Option zV → zW → Prop}  : zR 29 77 [l0, l1, l2, l3, l4] st w Q = zR 29 78 [l0, l1, l2, l3, l4] (.inl 0 :: st) w Q := zR_go (zst zT_29_77 rfl)
theorem zT_29_78 : zT 29 78 = some (.iastore, 1, 0, []) := by decide +kernel
theorem zr_29_78 {l0 l1 l2 l3 l4 : Option zV} {j x : Int} {h : Nat} {st : List zV} {w : zW} {Q : Option zV → zW → Prop} (hk : zk w h = zNC ∧ 0 ≤ zN j ∧ zN j < zl w h) : zR 29 78 [l0, l1, l2, l3, l4] (.inl x :: .inl j :: .inr (some h) :: st) w Q = zR 29 79 [l0, l1, l2, l3, l4] st (zsa w h (zN j).toNat x) Q := zR_go (zst zT_29_78 (if_pos hk))
theorem zT_29_79 : zT 29 79 = some (.aload_n 0, 1, 0, []) := by decide +kernel
theorem zr_29_79 {l1 l2 l3 l4 : Option zV} {x : Option Nat} {st : List zV} {w : zW} {Q : Option zV → zW → Prop}  : zR 29 79 [some (.inr x), l1, l2, l3, l4] st w Q = zR 29 80 [some (.inr x), l1, l2, l3, l4] (.inr x :: st) w Q := zR_go (zst zT_29_79 rfl)
theorem zT_29_80 : zT 29 80 = some (.getfield 32, 3, 0, [(11, 8)]) := by decide +kernel
theorem zr_29_80 {l0 l1 l2 l3 l4 : Option zV} {h : Nat} {st : List zV} {w : zW} {Q : Option zV → zW → Prop} (hk : zk w h = 11) : zR 29 80 [l0, l1, l2, l3, l4] (.inr (some h) :: st) w Q = zR 29 83 [l0, l1, l2, l3, l4] (.inr (zp w 80 h) :: st) w Q := zR_go (zst zT_29_80 (zget_r hk rfl))
theorem zT_29_83 : zT 29 83 = some (.iload_n 1, 1, 0, []) := by decide +kernel
theorem zr_29_83 {l0 l2 l3 l4 : Option zV} {x : Int} {st : List zV} {w : zW} {Q : Option zV → zW → Prop}  : zR 29 83 [l0, some (.inl x), l2, l3, l4] st w Q = zR 29 84 [l0, some (.inl x), l2, l3, l4] (.inl x :: st) w Q := zR_go (zst zT_29_83 rfl)
theorem zT_29_84 : zT 29 84 = some (.iconst 0, 1, 0, []) := by decide +kernel
theorem zr_29_84 {l0 l1 l2 l3 l4 : Option zV} {st : List zV} {w : zW} {Q : Option zV → zW → Prop}  : zR 29 84 [l0, l1, l2, l3, l4] st w Q = zR 29 85 [l0, l1, l2, l3, l4] (.inl 0 :: st) w Q := zR_go (zst zT_29_84 rfl)
theorem zT_29_85 : zT 29 85 = some (.iastore, 1, 0, []) := by decide +kernel
theorem zr_29_85 {l0 l1 l2 l3 l4 : Option zV} {j x : Int} {h : Nat} {st : List zV} {w : zW} {Q : Option zV → zW → Prop} (hk : zk w h = zNC ∧ 0 ≤ zN j ∧ zN j < zl w h) : zR 29 85 [l0, l1, l2, l3, l4] (.inl x :: .inl j :: .inr (some h) :: st) w Q = zR 29 86 [l0, l1, l2, l3, l4] st (zsa w h (zN j).toNat x) Q := zR_go (zst zT_29_85 (if_pos hk))
theorem zT_29_86 : zT 29 86 = some (.bipush 64, 2, 0, []) := by decide +kernel
theorem zr_29_86 {l0 l1 l2 l3 l4 : Option zV} {st : List zV} {w : zW} {Q : Option zV → zW → Prop}  : zR 29 86 [l0, l1, l2, l3, l4] st w Q = zR 29 88 [l0, l1, l2, l3, l4] (.inl 64 :: st) w Q := zR_go (zst zT_29_86 rfl)
theorem zT_29_88 : zT 29 88 = some (.iload_n 1, 1, 0, []) := by decide +kernel
theorem zr_29_88 {l0 l2 l3 l4 : Option zV} {x : Int} {st : List zV} {w : zW} {Q : Option zV → zW → Prop}  : zR 29 88 [l0, some (.inl x), l2, l3, l4] st w Q = zR 29 89 [l0, some (.inl x), l2, l3, l4] (.inl x :: st) w Q := zR_go (zst zT_29_88 rfl)
theorem zT_29_89 : zT 29 89 = some (.imul, 1, 0, []) := by decide +kernel
theorem zr_29_89 {l0 l1 l2 l3 l4 : Option zV} {x y : Int} {st : List zV} {w : zW} {Q : Option zV → zW → Prop}  : zR 29 89 [l0, l1, l2, l3, l4] (.inl y :: .inl x :: st) w Q = zR 29 90 [l0, l1, l2, l3, l4] (.inl (x * y) :: st) w Q := zR_go (zst zT_29_89 rfl)
theorem zT_29_90 : zT 29 90 = some (.istore 4, 2, 0, []) := by decide +kernel
theorem zr_29_90 {l0 l1 l2 l3 l4 : Option zV} {x : Int} {st : List zV} {w : zW} {Q : Option zV → zW → Prop}  : zR 29 90 [l0, l1, l2, l3, l4] (.inl x :: st) w Q = zR 29 92 [l0, l1, l2, l3, some (.inl x)] st w Q := zR_go (zst zT_29_90 rfl)
theorem zT_29_92 : zT 29 92 = some (.iload 4, 2, 0, []) := by decide +kernel
theorem zr_29_92 {l0 l1 l2 l3 : Option zV} {x : Int} {st : List zV} {w : zW} {Q : Option zV → zW → Prop}  : zR 29 92 [l0, l1, l2, l3, some (.inl x)] st w Q = zR 29 94 [l0, l1, l2, l3, some (.inl x)] (.inl x :: st) w Q := zR_go (zst zT_29_92 rfl)
theorem zT_29_94 : zT 29 94 = some (.bipush 64, 2, 0, []) := by decide +kernel
theorem zr_29_94 {l0 l1 l2 l3 l4 : Option zV} {st : List zV} {w : zW} {Q : Option zV → zW → Prop}  : zR 29 94 [l0, l1, l2, l3, l4] st w Q = zR 29 96 [l0, l1, l2, l3, l4] (.inl 64 :: st) w Q := zR_go (zst zT_29_94 rfl)
theorem zT_29_96 : zT 29 96 = some (.iload_n 1, 1, 0, []) := by decide +kernel
theorem zr_29_96 {l0 l2 l3 l4 : Option zV} {x : Int} {st : List zV} {w : zW} {Q : Option zV → zW → Prop}  : zR 29 96 [l0, some (.inl x), l2, l3, l4] st w Q = zR 29 97 [l0, some (.inl x), l2, l3, l4] (.inl x :: st) w Q := zR_go (zst zT_29_96 rfl)
theorem zT_29_97 : zT 29 97 = some (.imul, 1, 0, []) := by decide +kernel
theorem zr_29_97 {l0 l1 l2 l3 l4 : Option zV} {x y : Int} {st : List zV} {w : zW} {Q : Option zV → zW → Prop}  : zR 29 97 [l0, l1, l2, l3, l4] (.inl y :: .inl x :: st) w Q = zR 29 98 [l0, l1, l2, l3, l4] (.inl (x * y) :: st) w Q := zR_go (zst zT_29_97 rfl)
theorem zT_29_98 : zT 29 98 = some (.bipush 64, 2, 0, []) := by decide +kernel
theorem zr_29_98 {l0 l1 l2 l3 l4 : Option zV} {st : List zV} {w : zW} {Q : Option zV → zW → Prop}  : zR 29 98 [l0, l1, l2, l3, l4] st w Q = zR 29 100 [l0, l1, l2, l3, l4] (.inl 64 :: st) w Q := zR_go (zst zT_29_98 rfl)
theorem zT_29_100 : zT 29 100 = some (.iadd, 1, 0, []) := by decide +kernel
theorem zr_29_100 {l0 l1 l2 l3 l4 : Option zV} {x y : Int} {st : List zV} {w : zW} {Q : Option zV → zW → Prop}  : zR 29 100 [l0, l1, l2, l3, l4] (.inl y :: .inl x :: st) w Q = zR 29 101 [l0, l1, l2, l3, l4] (.inl (x + y) :: st) w Q := zR_go (zst zT_29_100 rfl)
theorem zT_29_101 : zT 29 101 = some (.if_icmp .ge 17, 3, 0, []) := by decide +kernel
theorem zr_29_101 {l0 l1 l2 l3 l4 : Option zV} {x y : Int} {st : List zV} {w : zW} {Q : Option zV → zW → Prop}  : zR 29 101 [l0, l1, l2, l3, l4] (.inl y :: .inl x :: st) w Q = (if zN y ≤ zN x then zR 29 118 [l0, l1, l2, l3, l4] st w Q else zR 29 104 [l0, l1, l2, l3, l4] st w Q) := zR_if (zstB zT_29_101 rfl) (by simp [zcmp])
theorem zT_29_104 : zT 29 104 = some (.aload_n 0, 1, 0, []) := by decide +kernel
theorem zr_29_104 {l1 l2 l3 l4 : Option zV} {x : Option Nat} {st : List zV} {w : zW} {Q : Option zV → zW → Prop}  : zR 29 104 [some (.inr x), l1, l2, l3, l4] st w Q = zR 29 105 [some (.inr x), l1, l2, l3, l4] (.inr x :: st) w Q := zR_go (zst zT_29_104 rfl)
theorem zT_29_105 : zT 29 105 = some (.getfield 35, 3, 0, [(11, 9)]) := by decide +kernel
theorem zr_29_105 {l0 l1 l2 l3 l4 : Option zV} {h : Nat} {st : List zV} {w : zW} {Q : Option zV → zW → Prop} (hk : zk w h = 11) : zR 29 105 [l0, l1, l2, l3, l4] (.inr (some h) :: st) w Q = zR 29 108 [l0, l1, l2, l3, l4] (.inr (zp w 81 h) :: st) w Q := zR_go (zst zT_29_105 (zget_r hk rfl))
theorem zT_29_108 : zT 29 108 = some (.iload 4, 2, 0, []) := by decide +kernel
theorem zr_29_108 {l0 l1 l2 l3 : Option zV} {x : Int} {st : List zV} {w : zW} {Q : Option zV → zW → Prop}  : zR 29 108 [l0, l1, l2, l3, some (.inl x)] st w Q = zR 29 110 [l0, l1, l2, l3, some (.inl x)] (.inl x :: st) w Q := zR_go (zst zT_29_108 rfl)
theorem zT_29_110 : zT 29 110 = some (.iconst 0, 1, 0, []) := by decide +kernel
theorem zr_29_110 {l0 l1 l2 l3 l4 : Option zV} {st : List zV} {w : zW} {Q : Option zV → zW → Prop}  : zR 29 110 [l0, l1, l2, l3, l4] st w Q = zR 29 111 [l0, l1, l2, l3, l4] (.inl 0 :: st) w Q := zR_go (zst zT_29_110 rfl)
theorem zT_29_111 : zT 29 111 = some (.iastore, 1, 0, []) := by decide +kernel
theorem zr_29_111 {l0 l1 l2 l3 l4 : Option zV} {j x : Int} {h : Nat} {st : List zV} {w : zW} {Q : Option zV → zW → Prop} (hk : zk w h = zNC ∧ 0 ≤ zN j ∧ zN j < zl w h) : zR 29 111 [l0, l1, l2, l3, l4] (.inl x :: .inl j :: .inr (some h) :: st) w Q = zR 29 112 [l0, l1, l2, l3, l4] st (zsa w h (zN j).toNat x) Q := zR_go (zst zT_29_111 (if_pos hk))
theorem zT_29_112 : zT 29 112 = some (.iinc 4 1, 3, 0, []) := by decide +kernel
theorem zr_29_112 {l0 l1 l2 l3 : Option zV} {x : Int} {st : List zV} {w : zW} {Q : Option zV → zW → Prop}  : zR 29 112 [l0, l1, l2, l3, some (.inl x)] st w Q = zR 29 115 [l0, l1, l2, l3, some (.inl (x + 1))] st w Q := zR_go (zst zT_29_112 rfl)
theorem zT_29_115 : zT 29 115 = some (.goto (-23), 3, 0, []) := by decide +kernel
theorem zr_29_115 {l0 l1 l2 l3 l4 : Option zV} {st : List zV} {w : zW} {Q : Option zV → zW → Prop}  : zR 29 115 [l0, l1, l2, l3, l4] st w Q = zR 29 92 [l0, l1, l2, l3, l4] st w Q := zR_go (zst zT_29_115 rfl)
theorem zT_29_118 : zT 29 118 = some (.aload_n 0, 1, 0, []) := by decide +kernel
theorem zr_29_118 {l1 l2 l3 l4 : Option zV} {x : Option Nat} {st : List zV} {w : zW} {Q : Option zV → zW → Prop}  : zR 29 118 [some (.inr x), l1, l2, l3, l4] st w Q = zR 29 119 [some (.inr x), l1, l2, l3, l4] (.inr x :: st) w Q := zR_go (zst zT_29_118 rfl)
theorem zT_29_119 : zT 29 119 = some (.getfield 47, 3, 0, [(11, 13)]) := by decide +kernel
theorem zr_29_119 {l0 l1 l2 l3 l4 : Option zV} {h : Nat} {st : List zV} {w : zW} {Q : Option zV → zW → Prop} (hk : zk w h = 11) : zR 29 119 [l0, l1, l2, l3, l4] (.inr (some h) :: st) w Q = zR 29 122 [l0, l1, l2, l3, l4] (.inr (zp w 85 h) :: st) w Q := zR_go (zst zT_29_119 (zget_r hk rfl))
theorem zT_29_122 : zT 29 122 = some (.iload_n 1, 1, 0, []) := by decide +kernel
theorem zr_29_122 {l0 l2 l3 l4 : Option zV} {x : Int} {st : List zV} {w : zW} {Q : Option zV → zW → Prop}  : zR 29 122 [l0, some (.inl x), l2, l3, l4] st w Q = zR 29 123 [l0, some (.inl x), l2, l3, l4] (.inl x :: st) w Q := zR_go (zst zT_29_122 rfl)
theorem zT_29_123 : zT 29 123 = some (.iconst 0, 1, 0, []) := by decide +kernel
theorem zr_29_123 {l0 l1 l2 l3 l4 : Option zV} {st : List zV} {w : zW} {Q : Option zV → zW → Prop}  : zR 29 123 [l0, l1, l2, l3, l4] st w Q = zR 29 124 [l0, l1, l2, l3, l4] (.inl 0 :: st) w Q := zR_go (zst zT_29_123 rfl)
theorem zT_29_124 : zT 29 124 = some (.iastore, 1, 0, []) := by decide +kernel
theorem zr_29_124 {l0 l1 l2 l3 l4 : Option zV} {j x : Int} {h : Nat} {st : List zV} {w : zW} {Q : Option zV → zW → Prop} (hk : zk w h = zNC ∧ 0 ≤ zN j ∧ zN j < zl w h) : zR 29 124 [l0, l1, l2, l3, l4] (.inl x :: .inl j :: .inr (some h) :: st) w Q = zR 29 125 [l0, l1, l2, l3, l4] st (zsa w h (zN j).toNat x) Q := zR_go (zst zT_29_124 (if_pos hk))
theorem zT_29_125 : zT 29 125 = some (.aload_n 0, 1, 0, []) := by decide +kernel
theorem zr_29_125 {l1 l2 l3 l4 : Option zV} {x : Option Nat} {st : List zV} {w : zW} {Q : Option zV → zW → Prop}  : zR 29 125 [some (.inr x), l1, l2, l3, l4] st w Q = zR 29 126 [some (.inr x), l1, l2, l3, l4] (.inr x :: st) w Q := zR_go (zst zT_29_125 rfl)
theorem zT_29_126 : zT 29 126 = some (.getfield 50, 3, 0, [(11, 14)]) := by decide +kernel
theorem zr_29_126 {l0 l1 l2 l3 l4 : Option zV} {h : Nat} {st : List zV} {w : zW} {Q : Option zV → zW → Prop} (hk : zk w h = 11) : zR 29 126 [l0, l1, l2, l3, l4] (.inr (some h) :: st) w Q = zR 29 129 [l0, l1, l2, l3, l4] (.inr (zp w 86 h) :: st) w Q := zR_go (zst zT_29_126 (zget_r hk rfl))
theorem zT_29_129 : zT 29 129 = some (.iload_n 1, 1, 0, []) := by decide +kernel
theorem zr_29_129 {l0 l2 l3 l4 : Option zV} {x : Int} {st : List zV} {w : zW} {Q : Option zV → zW → Prop}  : zR 29 129 [l0, some (.inl x), l2, l3, l4] st w Q = zR 29 130 [l0, some (.inl x), l2, l3, l4] (.inl x :: st) w Q := zR_go (zst zT_29_129 rfl)
theorem zT_29_130 : zT 29 130 = some (.sipush (-1000), 3, 0, []) := by decide +kernel
theorem zr_29_130 {l0 l1 l2 l3 l4 : Option zV} {st : List zV} {w : zW} {Q : Option zV → zW → Prop}  : zR 29 130 [l0, l1, l2, l3, l4] st w Q = zR 29 133 [l0, l1, l2, l3, l4] (.inl (-1000) :: st) w Q := zR_go (zst zT_29_130 rfl)
theorem zT_29_133 : zT 29 133 = some (.iastore, 1, 0, []) := by decide +kernel
theorem zr_29_133 {l0 l1 l2 l3 l4 : Option zV} {j x : Int} {h : Nat} {st : List zV} {w : zW} {Q : Option zV → zW → Prop} (hk : zk w h = zNC ∧ 0 ≤ zN j ∧ zN j < zl w h) : zR 29 133 [l0, l1, l2, l3, l4] (.inl x :: .inl j :: .inr (some h) :: st) w Q = zR 29 134 [l0, l1, l2, l3, l4] st (zsa w h (zN j).toNat x) Q := zR_go (zst zT_29_133 (if_pos hk))
theorem zT_29_134 : zT 29 134 = some (.aload_n 0, 1, 0, []) := by decide +kernel
theorem zr_29_134 {l1 l2 l3 l4 : Option zV} {x : Option Nat} {st : List zV} {w : zW} {Q : Option zV → zW → Prop}  : zR 29 134 [some (.inr x), l1, l2, l3, l4] st w Q = zR 29 135 [some (.inr x), l1, l2, l3, l4] (.inr x :: st) w Q := zR_go (zst zT_29_134 rfl)
theorem zT_29_135 : zT 29 135 = some (.getfield 53, 3, 0, [(11, 15)]) := by decide +kernel
theorem zr_29_135 {l0 l1 l2 l3 l4 : Option zV} {h : Nat} {st : List zV} {w : zW} {Q : Option zV → zW → Prop} (hk : zk w h = 11) : zR 29 135 [l0, l1, l2, l3, l4] (.inr (some h) :: st) w Q = zR 29 138 [l0, l1, l2, l3, l4] (.inr (zp w 87 h) :: st) w Q := zR_go (zst zT_29_135 (zget_r hk rfl))
theorem zT_29_138 : zT 29 138 = some (.iload_n 1, 1, 0, []) := by decide +kernel
theorem zr_29_138 {l0 l2 l3 l4 : Option zV} {x : Int} {st : List zV} {w : zW} {Q : Option zV → zW → Prop}  : zR 29 138 [l0, some (.inl x), l2, l3, l4] st w Q = zR 29 139 [l0, some (.inl x), l2, l3, l4] (.inl x :: st) w Q := zR_go (zst zT_29_138 rfl)
theorem zT_29_139 : zT 29 139 = some (.sipush 1000, 3, 0, []) := by decide +kernel
theorem zr_29_139 {l0 l1 l2 l3 l4 : Option zV} {st : List zV} {w : zW} {Q : Option zV → zW → Prop}  : zR 29 139 [l0, l1, l2, l3, l4] st w Q = zR 29 142 [l0, l1, l2, l3, l4] (.inl 1000 :: st) w Q := zR_go (zst zT_29_139 rfl)
theorem zT_29_142 : zT 29 142 = some (.iastore, 1, 0, []) := by decide +kernel
theorem zr_29_142 {l0 l1 l2 l3 l4 : Option zV} {j x : Int} {h : Nat} {st : List zV} {w : zW} {Q : Option zV → zW → Prop} (hk : zk w h = zNC ∧ 0 ≤ zN j ∧ zN j < zl w h) : zR 29 142 [l0, l1, l2, l3, l4] (.inl x :: .inl j :: .inr (some h) :: st) w Q = zR 29 143 [l0, l1, l2, l3, l4] st (zsa w h (zN j).toNat x) Q := zR_go (zst zT_29_142 (if_pos hk))
theorem zT_29_143 : zT 29 143 = some (.aload_n 0, 1, 0, []) := by decide +kernel
theorem zr_29_143 {l1 l2 l3 l4 : Option zV} {x : Option Nat} {st : List zV} {w : zW} {Q : Option zV → zW → Prop}  : zR 29 143 [some (.inr x), l1, l2, l3, l4] st w Q = zR 29 144 [some (.inr x), l1, l2, l3, l4] (.inr x :: st) w Q := zR_go (zst zT_29_143 rfl)
theorem zT_29_144 : zT 29 144 = some (.getfield 56, 3, 0, [(11, 16)]) := by decide +kernel
theorem zr_29_144 {l0 l1 l2 l3 l4 : Option zV} {h : Nat} {st : List zV} {w : zW} {Q : Option zV → zW → Prop} (hk : zk w h = 11) : zR 29 144 [l0, l1, l2, l3, l4] (.inr (some h) :: st) w Q = zR 29 147 [l0, l1, l2, l3, l4] (.inr (zp w 88 h) :: st) w Q := zR_go (zst zT_29_144 (zget_r hk rfl))
theorem zT_29_147 : zT 29 147 = some (.iload_n 1, 1, 0, []) := by decide +kernel
theorem zr_29_147 {l0 l2 l3 l4 : Option zV} {x : Int} {st : List zV} {w : zW} {Q : Option zV → zW → Prop}  : zR 29 147 [l0, some (.inl x), l2, l3, l4] st w Q = zR 29 148 [l0, some (.inl x), l2, l3, l4] (.inl x :: st) w Q := zR_go (zst zT_29_147 rfl)
theorem zT_29_148 : zT 29 148 = some (.iconst 0, 1, 0, []) := by decide +kernel
theorem zr_29_148 {l0 l1 l2 l3 l4 : Option zV} {st : List zV} {w : zW} {Q : Option zV → zW → Prop}  : zR 29 148 [l0, l1, l2, l3, l4] st w Q = zR 29 149 [l0, l1, l2, l3, l4] (.inl 0 :: st) w Q := zR_go (zst zT_29_148 rfl)
theorem zT_29_149 : zT 29 149 = some (.iastore, 1, 0, []) := by decide +kernel
theorem zr_29_149 {l0 l1 l2 l3 l4 : Option zV} {j x : Int} {h : Nat} {st : List zV} {w : zW} {Q : Option zV → zW → Prop} (hk : zk w h = zNC ∧ 0 ≤ zN j ∧ zN j < zl w h) : zR 29 149 [l0, l1, l2, l3, l4] (.inl x :: .inl j :: .inr (some h) :: st) w Q = zR 29 150 [l0, l1, l2, l3, l4] st (zsa w h (zN j).toNat x) Q := zR_go (zst zT_29_149 (if_pos hk))
theorem zT_29_150 : zT 29 150 = some (.aload_n 0, 1, 0, []) := by decide +kernel
theorem zr_29_150 {l1 l2 l3 l4 : Option zV} {x : Option Nat} {st : List zV} {w : zW} {Q : Option zV → zW → Prop}  : zR 29 150 [some (.inr x), l1, l2, l3, l4] st w Q = zR 29 151 [some (.inr x), l1, l2, l3, l4] (.inr x :: st) w Q := zR_go (zst zT_29_150 rfl)
theorem zT_29_151 : zT 29 151 = some (.getfield 59, 3, 0, [(11, 17)]) := by decide +kernel
theorem zr_29_151 {l0 l1 l2 l3 l4 : Option zV} {h : Nat} {st : List zV} {w : zW} {Q : Option zV → zW → Prop} (hk : zk w h = 11) : zR 29 151 [l0, l1, l2, l3, l4] (.inr (some h) :: st) w Q = zR 29 154 [l0, l1, l2, l3, l4] (.inr (zp w 89 h) :: st) w Q := zR_go (zst zT_29_151 (zget_r hk rfl))
theorem zT_29_154 : zT 29 154 = some (.iload_n 1, 1, 0, []) := by decide +kernel
theorem zr_29_154 {l0 l2 l3 l4 : Option zV} {x : Int} {st : List zV} {w : zW} {Q : Option zV → zW → Prop}  : zR 29 154 [l0, some (.inl x), l2, l3, l4] st w Q = zR 29 155 [l0, some (.inl x), l2, l3, l4] (.inl x :: st) w Q := zR_go (zst zT_29_154 rfl)
theorem zT_29_155 : zT 29 155 = some (.iconst 0, 1, 0, []) := by decide +kernel
theorem zr_29_155 {l0 l1 l2 l3 l4 : Option zV} {st : List zV} {w : zW} {Q : Option zV → zW → Prop}  : zR 29 155 [l0, l1, l2, l3, l4] st w Q = zR 29 156 [l0, l1, l2, l3, l4] (.inl 0 :: st) w Q := zR_go (zst zT_29_155 rfl)
theorem zT_29_156 : zT 29 156 = some (.iastore, 1, 0, []) := by decide +kernel
theorem zr_29_156 {l0 l1 l2 l3 l4 : Option zV} {j x : Int} {h : Nat} {st : List zV} {w : zW} {Q : Option zV → zW → Prop} (hk : zk w h = zNC ∧ 0 ≤ zN j ∧ zN j < zl w h) : zR 29 156 [l0, l1, l2, l3, l4] (.inl x :: .inl j :: .inr (some h) :: st) w Q = zR 29 157 [l0, l1, l2, l3, l4] st (zsa w h (zN j).toNat x) Q := zR_go (zst zT_29_156 (if_pos hk))
theorem zT_29_157 : zT 29 157 = some (.aload_n 0, 1, 0, []) := by decide +kernel
theorem zr_29_157 {l1 l2 l3 l4 : Option zV} {x : Option Nat} {st : List zV} {w : zW} {Q : Option zV → zW → Prop}  : zR 29 157 [some (.inr x), l1, l2, l3, l4] st w Q = zR 29 158 [some (.inr x), l1, l2, l3, l4] (.inr x :: st) w Q := zR_go (zst zT_29_157 rfl)
theorem zT_29_158 : zT 29 158 = some (.getfield 62, 3, 0, [(11, 18)]) := by decide +kernel
theorem zr_29_158 {l0 l1 l2 l3 l4 : Option zV} {h : Nat} {st : List zV} {w : zW} {Q : Option zV → zW → Prop} (hk : zk w h = 11) : zR 29 158 [l0, l1, l2, l3, l4] (.inr (some h) :: st) w Q = zR 29 161 [l0, l1, l2, l3, l4] (.inr (zp w 90 h) :: st) w Q := zR_go (zst zT_29_158 (zget_r hk rfl))
theorem zT_29_161 : zT 29 161 = some (.iload_n 1, 1, 0, []) := by decide +kernel
theorem zr_29_161 {l0 l2 l3 l4 : Option zV} {x : Int} {st : List zV} {w : zW} {Q : Option zV → zW → Prop}  : zR 29 161 [l0, some (.inl x), l2, l3, l4] st w Q = zR 29 162 [l0, some (.inl x), l2, l3, l4] (.inl x :: st) w Q := zR_go (zst zT_29_161 rfl)
theorem zT_29_162 : zT 29 162 = some (.iconst 0, 1, 0, []) := by decide +kernel
theorem zr_29_162 {l0 l1 l2 l3 l4 : Option zV} {st : List zV} {w : zW} {Q : Option zV → zW → Prop}  : zR 29 162 [l0, l1, l2, l3, l4] st w Q = zR 29 163 [l0, l1, l2, l3, l4] (.inl 0 :: st) w Q := zR_go (zst zT_29_162 rfl)
theorem zT_29_163 : zT 29 163 = some (.iastore, 1, 0, []) := by decide +kernel
theorem zr_29_163 {l0 l1 l2 l3 l4 : Option zV} {j x : Int} {h : Nat} {st : List zV} {w : zW} {Q : Option zV → zW → Prop} (hk : zk w h = zNC ∧ 0 ≤ zN j ∧ zN j < zl w h) : zR 29 163 [l0, l1, l2, l3, l4] (.inl x :: .inl j :: .inr (some h) :: st) w Q = zR 29 164 [l0, l1, l2, l3, l4] st (zsa w h (zN j).toNat x) Q := zR_go (zst zT_29_163 (if_pos hk))
theorem zT_29_164 : zT 29 164 = some (.aload_n 0, 1, 0, []) := by decide +kernel
theorem zr_29_164 {l1 l2 l3 l4 : Option zV} {x : Option Nat} {st : List zV} {w : zW} {Q : Option zV → zW → Prop}  : zR 29 164 [some (.inr x), l1, l2, l3, l4] st w Q = zR 29 165 [some (.inr x), l1, l2, l3, l4] (.inr x :: st) w Q := zR_go (zst zT_29_164 rfl)
theorem zT_29_165 : zT 29 165 = some (.getfield 65, 3, 0, [(11, 19)]) := by decide +kernel
theorem zr_29_165 {l0 l1 l2 l3 l4 : Option zV} {h : Nat} {st : List zV} {w : zW} {Q : Option zV → zW → Prop} (hk : zk w h = 11) : zR 29 165 [l0, l1, l2, l3, l4] (.inr (some h) :: st) w Q = zR 29 168 [l0, l1, l2, l3, l4] (.inr (zp w 91 h) :: st) w Q := zR_go (zst zT_29_165 (zget_r hk rfl))
theorem zT_29_168 : zT 29 168 = some (.iload_n 1, 1, 0, []) := by decide +kernel
theorem zr_29_168 {l0 l2 l3 l4 : Option zV} {x : Int} {st : List zV} {w : zW} {Q : Option zV → zW → Prop}  : zR 29 168 [l0, some (.inl x), l2, l3, l4] st w Q = zR 29 169 [l0, some (.inl x), l2, l3, l4] (.inl x :: st) w Q := zR_go (zst zT_29_168 rfl)
theorem zT_29_169 : zT 29 169 = some (.iconst 0, 1, 0, []) := by decide +kernel
theorem zr_29_169 {l0 l1 l2 l3 l4 : Option zV} {st : List zV} {w : zW} {Q : Option zV → zW → Prop}  : zR 29 169 [l0, l1, l2, l3, l4] st w Q = zR 29 170 [l0, l1, l2, l3, l4] (.inl 0 :: st) w Q := zR_go (zst zT_29_169 rfl)
theorem zT_29_170 : zT 29 170 = some (.iastore, 1, 0, []) := by decide +kernel
theorem zr_29_170 {l0 l1 l2 l3 l4 : Option zV} {j x : Int} {h : Nat} {st : List zV} {w : zW} {Q : Option zV → zW → Prop} (hk : zk w h = zNC ∧ 0 ≤ zN j ∧ zN j < zl w h) : zR 29 170 [l0, l1, l2, l3, l4] (.inl x :: .inl j :: .inr (some h) :: st) w Q = zR 29 171 [l0, l1, l2, l3, l4] st (zsa w h (zN j).toNat x) Q := zR_go (zst zT_29_170 (if_pos hk))
theorem zT_29_171 : zT 29 171 = some (.bipush 24, 2, 0, []) := by decide +kernel
theorem zr_29_171 {l0 l1 l2 l3 l4 : Option zV} {st : List zV} {w : zW} {Q : Option zV → zW → Prop}  : zR 29 171 [l0, l1, l2, l3, l4] st w Q = zR 29 173 [l0, l1, l2, l3, l4] (.inl 24 :: st) w Q := zR_go (zst zT_29_171 rfl)
theorem zT_29_173 : zT 29 173 = some (.iload_n 1, 1, 0, []) := by decide +kernel
theorem zr_29_173 {l0 l2 l3 l4 : Option zV} {x : Int} {st : List zV} {w : zW} {Q : Option zV → zW → Prop}  : zR 29 173 [l0, some (.inl x), l2, l3, l4] st w Q = zR 29 174 [l0, some (.inl x), l2, l3, l4] (.inl x :: st) w Q := zR_go (zst zT_29_173 rfl)
theorem zT_29_174 : zT 29 174 = some (.imul, 1, 0, []) := by decide +kernel
theorem zr_29_174 {l0 l1 l2 l3 l4 : Option zV} {x y : Int} {st : List zV} {w : zW} {Q : Option zV → zW → Prop}  : zR 29 174 [l0, l1, l2, l3, l4] (.inl y :: .inl x :: st) w Q = zR 29 175 [l0, l1, l2, l3, l4] (.inl (x * y) :: st) w Q := zR_go (zst zT_29_174 rfl)
theorem zT_29_175 : zT 29 175 = some (.istore 4, 2, 0, []) := by decide +kernel
theorem zr_29_175 {l0 l1 l2 l3 l4 : Option zV} {x : Int} {st : List zV} {w : zW} {Q : Option zV → zW → Prop}  : zR 29 175 [l0, l1, l2, l3, l4] (.inl x :: st) w Q = zR 29 177 [l0, l1, l2, l3, some (.inl x)] st w Q := zR_go (zst zT_29_175 rfl)
theorem zT_29_177 : zT 29 177 = some (.iload 4, 2, 0, []) := by decide +kernel
theorem zr_29_177 {l0 l1 l2 l3 : Option zV} {x : Int} {st : List zV} {w : zW} {Q : Option zV → zW → Prop}  : zR 29 177 [l0, l1, l2, l3, some (.inl x)] st w Q = zR 29 179 [l0, l1, l2, l3, some (.inl x)] (.inl x :: st) w Q := zR_go (zst zT_29_177 rfl)
theorem zT_29_179 : zT 29 179 = some (.bipush 24, 2, 0, []) := by decide +kernel
theorem zr_29_179 {l0 l1 l2 l3 l4 : Option zV} {st : List zV} {w : zW} {Q : Option zV → zW → Prop}  : zR 29 179 [l0, l1, l2, l3, l4] st w Q = zR 29 181 [l0, l1, l2, l3, l4] (.inl 24 :: st) w Q := zR_go (zst zT_29_179 rfl)
theorem zT_29_181 : zT 29 181 = some (.iload_n 1, 1, 0, []) := by decide +kernel
theorem zr_29_181 {l0 l2 l3 l4 : Option zV} {x : Int} {st : List zV} {w : zW} {Q : Option zV → zW → Prop}  : zR 29 181 [l0, some (.inl x), l2, l3, l4] st w Q = zR 29 182 [l0, some (.inl x), l2, l3, l4] (.inl x :: st) w Q := zR_go (zst zT_29_181 rfl)
theorem zT_29_182 : zT 29 182 = some (.imul, 1, 0, []) := by decide +kernel
theorem zr_29_182 {l0 l1 l2 l3 l4 : Option zV} {x y : Int} {st : List zV} {w : zW} {Q : Option zV → zW → Prop}  : zR 29 182 [l0, l1, l2, l3, l4] (.inl y :: .inl x :: st) w Q = zR 29 183 [l0, l1, l2, l3, l4] (.inl (x * y) :: st) w Q := zR_go (zst zT_29_182 rfl)
theorem zT_29_183 : zT 29 183 = some (.bipush 24, 2, 0, []) := by decide +kernel
theorem zr_29_183 {l0 l1 l2 l3 l4 : Option zV} {st : List zV} {w : zW} {Q : Option zV → zW → Prop}  : zR 29 183 [l0, l1, l2, l3, l4] st w Q = zR 29 185 [l0, l1, l2, l3, l4] (.inl 24 :: st) w Q := zR_go (zst zT_29_183 rfl)
theorem zT_29_185 : zT 29 185 = some (.iadd, 1, 0, []) := by decide +kernel
theorem zr_29_185 {l0 l1 l2 l3 l4 : Option zV} {x y : Int} {st : List zV} {w : zW} {Q : Option zV → zW → Prop}  : zR 29 185 [l0, l1, l2, l3, l4] (.inl y :: .inl x :: st) w Q = zR 29 186 [l0, l1, l2, l3, l4] (.inl (x + y) :: st) w Q := zR_go (zst zT_29_185 rfl)
theorem zT_29_186 : zT 29 186 = some (.if_icmp .ge 17, 3, 0, []) := by decide +kernel
theorem zr_29_186 {l0 l1 l2 l3 l4 : Option zV} {x y : Int} {st : List zV} {w : zW} {Q : Option zV → zW → Prop}  : zR 29 186 [l0, l1, l2, l3, l4] (.inl y :: .inl x :: st) w Q = (if zN y ≤ zN x then zR 29 203 [l0, l1, l2, l3, l4] st w Q else zR 29 189 [l0, l1, l2, l3, l4] st w Q) := zR_if (zstB zT_29_186 rfl) (by simp [zcmp])
theorem zT_29_189 : zT 29 189 = some (.aload_n 0, 1, 0, []) := by decide +kernel
theorem zr_29_189 {l1 l2 l3 l4 : Option zV} {x : Option Nat} {st : List zV} {w : zW} {Q : Option zV → zW → Prop}  : zR 29 189 [some (.inr x), l1, l2, l3, l4] st w Q = zR 29 190 [some (.inr x), l1, l2, l3, l4] (.inr x :: st) w Q := zR_go (zst zT_29_189 rfl)
theorem zT_29_190 : zT 29 190 = some (.getfield 68, 3, 0, [(11, 20)]) := by decide +kernel
theorem zr_29_190 {l0 l1 l2 l3 l4 : Option zV} {h : Nat} {st : List zV} {w : zW} {Q : Option zV → zW → Prop} (hk : zk w h = 11) : zR 29 190 [l0, l1, l2, l3, l4] (.inr (some h) :: st) w Q = zR 29 193 [l0, l1, l2, l3, l4] (.inr (zp w 92 h) :: st) w Q := zR_go (zst zT_29_190 (zget_r hk rfl))
theorem zT_29_193 : zT 29 193 = some (.iload 4, 2, 0, []) := by decide +kernel
theorem zr_29_193 {l0 l1 l2 l3 : Option zV} {x : Int} {st : List zV} {w : zW} {Q : Option zV → zW → Prop}  : zR 29 193 [l0, l1, l2, l3, some (.inl x)] st w Q = zR 29 195 [l0, l1, l2, l3, some (.inl x)] (.inl x :: st) w Q := zR_go (zst zT_29_193 rfl)
theorem zT_29_195 : zT 29 195 = some (.iconst 0, 1, 0, []) := by decide +kernel
theorem zr_29_195 {l0 l1 l2 l3 l4 : Option zV} {st : List zV} {w : zW} {Q : Option zV → zW → Prop}  : zR 29 195 [l0, l1, l2, l3, l4] st w Q = zR 29 196 [l0, l1, l2, l3, l4] (.inl 0 :: st) w Q := zR_go (zst zT_29_195 rfl)
theorem zT_29_196 : zT 29 196 = some (.iastore, 1, 0, []) := by decide +kernel
theorem zr_29_196 {l0 l1 l2 l3 l4 : Option zV} {j x : Int} {h : Nat} {st : List zV} {w : zW} {Q : Option zV → zW → Prop} (hk : zk w h = zNC ∧ 0 ≤ zN j ∧ zN j < zl w h) : zR 29 196 [l0, l1, l2, l3, l4] (.inl x :: .inl j :: .inr (some h) :: st) w Q = zR 29 197 [l0, l1, l2, l3, l4] st (zsa w h (zN j).toNat x) Q := zR_go (zst zT_29_196 (if_pos hk))
theorem zT_29_197 : zT 29 197 = some (.iinc 4 1, 3, 0, []) := by decide +kernel
theorem zr_29_197 {l0 l1 l2 l3 : Option zV} {x : Int} {st : List zV} {w : zW} {Q : Option zV → zW → Prop}  : zR 29 197 [l0, l1, l2, l3, some (.inl x)] st w Q = zR 29 200 [l0, l1, l2, l3, some (.inl (x + 1))] st w Q := zR_go (zst zT_29_197 rfl)
theorem zT_29_200 : zT 29 200 = some (.goto (-23), 3, 0, []) := by decide +kernel
theorem zr_29_200 {l0 l1 l2 l3 l4 : Option zV} {st : List zV} {w : zW} {Q : Option zV → zW → Prop}  : zR 29 200 [l0, l1, l2, l3, l4] st w Q = zR 29 177 [l0, l1, l2, l3, l4] st w Q := zR_go (zst zT_29_200 rfl)
theorem zT_29_203 : zT 29 203 = some (.iconst 1, 1, 0, []) := by decide +kernel
theorem zr_29_203 {l0 l1 l2 l3 l4 : Option zV} {st : List zV} {w : zW} {Q : Option zV → zW → Prop}  : zR 29 203 [l0, l1, l2, l3, l4] st w Q = zR 29 204 [l0, l1, l2, l3, l4] (.inl 1 :: st) w Q := zR_go (zst zT_29_203 rfl)
theorem zT_29_204 : zT 29 204 = some (.ireturn, 1, 0, []) := by decide +kernel
theorem zr_29_204 {l0 l1 l2 l3 l4 : Option zV} {x : Int} {w : zW} {Q : Option zV → zW → Prop} (hx : zN x = 0 ∨ zN x = 1) : zR 29 204 [l0, l1, l2, l3, l4] [.inl x] w Q = Q (some (.inl x)) w := zR_ret (zst zT_29_204 (if_pos (Or.inr ⟨rfl, hx⟩)))
theorem zT_30_0 : zT 30 0 = some (.iload_n 1, 1, 0, []) := by decide +kernel
theorem zr_30_0 {l0 : Option zV} {x : Int} {st : List zV} {w : zW} {Q : Option zV → zW → Prop}  : zR 30 0 [l0, some (.inl x)] st w Q = zR 30 1 [l0, some (.inl x)] (.inl x :: st) w Q := zR_go (zst zT_30_0 rfl)
theorem zT_30_1 : zT 30 1 = some (.invokestatic 146, 3, 1, [(27, 1)]) := by decide +kernel
theorem zr_30_1 {l0 l1 : Option zV} {a0 : zV} {st : List zV} {w : zW} {Q : Option zV → zW → Prop} (hs : st.length ≤ 8) : zR 30 1 [l0, l1] (a0 :: st) w Q = zR 27 0 [some a0] [] w (fun r w2 => zR 30 4 [l0, l1] (r.toList ++ st) w2 Q) := zR_call (zst zT_30_1 ((zcall_s (z := 1) (pc := 1) (j := 27) (ls := [l0, l1]) (w := w) [a0] rfl hs : zi_static 1 [(27, 1)] 1 [l0, l1] ([a0] ++ st) w = _)))
theorem zT_30_4 : zT 30 4 = some (.ifCond .eq 12, 3, 0, []) := by decide +kernel
theorem zr_30_4 {l0 l1 : Option zV} {x : Int} {st : List zV} {w : zW} {Q : Option zV → zW → Prop}  : zR 30 4 [l0, l1] (.inl x :: st) w Q = (if zN x = 0 then zR 30 16 [l0, l1] st w Q else zR 30 7 [l0, l1] st w Q) := zR_if (zstB zT_30_4 rfl) (by simp [zcmp])
theorem zT_30_7 : zT 30 7 = some (.aload_n 0, 1, 0, []) := by decide +kernel
theorem zr_30_7 {l1 : Option zV} {x : Option Nat} {st : List zV} {w : zW} {Q : Option zV → zW → Prop}  : zR 30 7 [some (.inr x), l1] st w Q = zR 30 8 [some (.inr x), l1] (.inr x :: st) w Q := zR_go (zst zT_30_7 rfl)
theorem zT_30_8 : zT 30 8 = some (.getfield 7, 3, 0, [(11, 1)]) := by decide +kernel
theorem zr_30_8 {l0 l1 : Option zV} {h : Nat} {st : List zV} {w : zW} {Q : Option zV → zW → Prop} (hk : zk w h = 11) : zR 30 8 [l0, l1] (.inr (some h) :: st) w Q = zR 30 11 [l0, l1] (.inr (zp w 73 h) :: st) w Q := zR_go (zst zT_30_8 (zget_r hk rfl))
theorem zT_30_11 : zT 30 11 = some (.iload_n 1, 1, 0, []) := by decide +kernel
theorem zr_30_11 {l0 : Option zV} {x : Int} {st : List zV} {w : zW} {Q : Option zV → zW → Prop}  : zR 30 11 [l0, some (.inl x)] st w Q = zR 30 12 [l0, some (.inl x)] (.inl x :: st) w Q := zR_go (zst zT_30_11 rfl)
theorem zT_30_12 : zT 30 12 = some (.iaload, 1, 0, []) := by decide +kernel
theorem zr_30_12 {l0 l1 : Option zV} {j : Int} {h : Nat} {st : List zV} {w : zW} {Q : Option zV → zW → Prop} (hk : (zk w h = zNC ∨ zk w h = zNC + 2) ∧ 0 ≤ zN j ∧ zN j < zl w h) : zR 30 12 [l0, l1] (.inl j :: .inr (some h) :: st) w Q = zR 30 13 [l0, l1] (.inl (za w h (zN j).toNat) :: st) w Q := zR_go (zst zT_30_12 (if_pos hk))
theorem zT_30_13 : zT 30 13 = some (.ifCond .ge 5, 3, 0, []) := by decide +kernel
theorem zr_30_13 {l0 l1 : Option zV} {x : Int} {st : List zV} {w : zW} {Q : Option zV → zW → Prop}  : zR 30 13 [l0, l1] (.inl x :: st) w Q = (if 0 ≤ zN x then zR 30 18 [l0, l1] st w Q else zR 30 16 [l0, l1] st w Q) := zR_if (zstB zT_30_13 rfl) (by simp [zcmp])
theorem zT_30_16 : zT 30 16 = some (.iconst 0, 1, 0, []) := by decide +kernel
theorem zr_30_16 {l0 l1 : Option zV} {st : List zV} {w : zW} {Q : Option zV → zW → Prop}  : zR 30 16 [l0, l1] st w Q = zR 30 17 [l0, l1] (.inl 0 :: st) w Q := zR_go (zst zT_30_16 rfl)
theorem zT_30_17 : zT 30 17 = some (.ireturn, 1, 0, []) := by decide +kernel
theorem zr_30_17 {l0 l1 : Option zV} {x : Int} {w : zW} {Q : Option zV → zW → Prop} (hx : zN x = 0 ∨ zN x = 1) : zR 30 17 [l0, l1] [.inl x] w Q = Q (some (.inl x)) w := zR_ret (zst zT_30_17 (if_pos (Or.inr ⟨rfl, hx⟩)))
theorem zT_30_18 : zT 30 18 = some (.aload_n 0, 1, 0, []) := by decide +kernel
theorem zr_30_18 {l1 : Option zV} {x : Option Nat} {st : List zV} {w : zW} {Q : Option zV → zW → Prop}  : zR 30 18 [some (.inr x), l1] st w Q = zR 30 19 [some (.inr x), l1] (.inr x :: st) w Q := zR_go (zst zT_30_18 rfl)
theorem zT_30_19 : zT 30 19 = some (.getfield 7, 3, 0, [(11, 1)]) := by decide +kernel
theorem zr_30_19 {l0 l1 : Option zV} {h : Nat} {st : List zV} {w : zW} {Q : Option zV → zW → Prop} (hk : zk w h = 11) : zR 30 19 [l0, l1] (.inr (some h) :: st) w Q = zR 30 22 [l0, l1] (.inr (zp w 73 h) :: st) w Q := zR_go (zst zT_30_19 (zget_r hk rfl))
theorem zT_30_22 : zT 30 22 = some (.iload_n 1, 1, 0, []) := by decide +kernel
theorem zr_30_22 {l0 : Option zV} {x : Int} {st : List zV} {w : zW} {Q : Option zV → zW → Prop}  : zR 30 22 [l0, some (.inl x)] st w Q = zR 30 23 [l0, some (.inl x)] (.inl x :: st) w Q := zR_go (zst zT_30_22 rfl)
theorem zT_30_23 : zT 30 23 = some (.iconst (-1), 1, 0, []) := by decide +kernel
theorem zr_30_23 {l0 l1 : Option zV} {st : List zV} {w : zW} {Q : Option zV → zW → Prop}  : zR 30 23 [l0, l1] st w Q = zR 30 24 [l0, l1] (.inl (-1) :: st) w Q := zR_go (zst zT_30_23 rfl)
theorem zT_30_24 : zT 30 24 = some (.iastore, 1, 0, []) := by decide +kernel
theorem zr_30_24 {l0 l1 : Option zV} {j x : Int} {h : Nat} {st : List zV} {w : zW} {Q : Option zV → zW → Prop} (hk : zk w h = zNC ∧ 0 ≤ zN j ∧ zN j < zl w h) : zR 30 24 [l0, l1] (.inl x :: .inl j :: .inr (some h) :: st) w Q = zR 30 25 [l0, l1] st (zsa w h (zN j).toNat x) Q := zR_go (zst zT_30_24 (if_pos hk))
theorem zT_30_25 : zT 30 25 = some (.aload_n 0, 1, 0, []) := by decide +kernel
theorem zr_30_25 {l1 : Option zV} {x : Option Nat} {st : List zV} {w : zW} {Q : Option zV → zW → Prop}  : zR 30 25 [some (.inr x), l1] st w Q = zR 30 26 [some (.inr x), l1] (.inr x :: st) w Q := zR_go (zst zT_30_25 rfl)
theorem zT_30_26 : zT 30 26 = some (.getfield 26, 3, 0, [(11, 6)]) := by decide +kernel
theorem zr_30_26 {l0 l1 : Option zV} {h : Nat} {st : List zV} {w : zW} {Q : Option zV → zW → Prop} (hk : zk w h = 11) : zR 30 26 [l0, l1] (.inr (some h) :: st) w Q = zR 30 29 [l0, l1] (.inr (zp w 78 h) :: st) w Q := zR_go (zst zT_30_26 (zget_r hk rfl))
theorem zT_30_29 : zT 30 29 = some (.iload_n 1, 1, 0, []) := by decide +kernel
theorem zr_30_29 {l0 : Option zV} {x : Int} {st : List zV} {w : zW} {Q : Option zV → zW → Prop}  : zR 30 29 [l0, some (.inl x)] st w Q = zR 30 30 [l0, some (.inl x)] (.inl x :: st) w Q := zR_go (zst zT_30_29 rfl)
theorem zT_30_30 : zT 30 30 = some (.iconst 0, 1, 0, []) := by decide +kernel
theorem zr_30_30 {l0 l1 : Option zV} {st : List zV} {w : zW} {Q : Option zV → zW → Prop}  : zR 30 30 [l0, l1] st w Q = zR 30 31 [l0, l1] (.inl 0 :: st) w Q := zR_go (zst zT_30_30 rfl)
theorem zT_30_31 : zT 30 31 = some (.iastore, 1, 0, []) := by decide +kernel
theorem zr_30_31 {l0 l1 : Option zV} {j x : Int} {h : Nat} {st : List zV} {w : zW} {Q : Option zV → zW → Prop} (hk : zk w h = zNC ∧ 0 ≤ zN j ∧ zN j < zl w h) : zR 30 31 [l0, l1] (.inl x :: .inl j :: .inr (some h) :: st) w Q = zR 30 32 [l0, l1] st (zsa w h (zN j).toNat x) Q := zR_go (zst zT_30_31 (if_pos hk))
theorem zT_30_32 : zT 30 32 = some (.iconst 1, 1, 0, []) := by decide +kernel
theorem zr_30_32 {l0 l1 : Option zV} {st : List zV} {w : zW} {Q : Option zV → zW → Prop}  : zR 30 32 [l0, l1] st w Q = zR 30 33 [l0, l1] (.inl 1 :: st) w Q := zR_go (zst zT_30_32 rfl)
theorem zT_30_33 : zT 30 33 = some (.ireturn, 1, 0, []) := by decide +kernel
theorem zr_30_33 {l0 l1 : Option zV} {x : Int} {w : zW} {Q : Option zV → zW → Prop} (hx : zN x = 0 ∨ zN x = 1) : zR 30 33 [l0, l1] [.inl x] w Q = Q (some (.inl x)) w := zR_ret (zst zT_30_33 (if_pos (Or.inr ⟨rfl, hx⟩)))
theorem zT_31_0 : zT 31 0 = some (.iload_n 1, 1, 0, []) := by decide +kernel
theorem zr_31_0 {l0 : Option zV} {x : Int} {st : List zV} {w : zW} {Q : Option zV → zW → Prop}  : zR 31 0 [l0, some (.inl x)] st w Q = zR 31 1 [l0, some (.inl x)] (.inl x :: st) w Q := zR_go (zst zT_31_0 rfl)
theorem zT_31_1 : zT 31 1 = some (.iconst 0, 1, 0, []) := by decide +kernel
theorem zr_31_1 {l0 l1 : Option zV} {st : List zV} {w : zW} {Q : Option zV → zW → Prop}  : zR 31 1 [l0, l1] st w Q = zR 31 2 [l0, l1] (.inl 0 :: st) w Q := zR_go (zst zT_31_1 rfl)
theorem zT_31_2 : zT 31 2 = some (.iconst 1, 1, 0, []) := by decide +kernel
theorem zr_31_2 {l0 l1 : Option zV} {st : List zV} {w : zW} {Q : Option zV → zW → Prop}  : zR 31 2 [l0, l1] st w Q = zR 31 3 [l0, l1] (.inl 1 :: st) w Q := zR_go (zst zT_31_2 rfl)
theorem zT_31_3 : zT 31 3 = some (.invokestatic 150, 3, 3, [(24, 1)]) := by decide +kernel
theorem zr_31_3 {l0 l1 : Option zV} {a0 a1 a2 : zV} {st : List zV} {w : zW} {Q : Option zV → zW → Prop} (hs : st.length ≤ 8) : zR 31 3 [l0, l1] (a2 :: a1 :: a0 :: st) w Q = zR 24 0 [some a0, some a1, some a2] [] w (fun r w2 => zR 31 6 [l0, l1] (r.toList ++ st) w2 Q) := zR_call (zst zT_31_3 ((zcall_s (z := 3) (pc := 3) (j := 24) (ls := [l0, l1]) (w := w) [a2, a1, a0] rfl hs : zi_static 3 [(24, 1)] 3 [l0, l1] ([a2, a1, a0] ++ st) w = _)))
theorem zT_31_6 : zT 31 6 = some (.ifCond .eq 13, 3, 0, []) := by decide +kernel
theorem zr_31_6 {l0 l1 : Option zV} {x : Int} {st : List zV} {w : zW} {Q : Option zV → zW → Prop}  : zR 31 6 [l0, l1] (.inl x :: st) w Q = (if zN x = 0 then zR 31 19 [l0, l1] st w Q else zR 31 9 [l0, l1] st w Q) := zR_if (zstB zT_31_6 rfl) (by simp [zcmp])
theorem zT_31_9 : zT 31 9 = some (.aload_n 0, 1, 0, []) := by decide +kernel
theorem zr_31_9 {l1 : Option zV} {x : Option Nat} {st : List zV} {w : zW} {Q : Option zV → zW → Prop}  : zR 31 9 [some (.inr x), l1] st w Q = zR 31 10 [some (.inr x), l1] (.inr x :: st) w Q := zR_go (zst zT_31_9 rfl)
theorem zT_31_10 : zT 31 10 = some (.getfield 71, 3, 0, [(11, 21)]) := by decide +kernel
theorem zr_31_10 {l0 l1 : Option zV} {h : Nat} {st : List zV} {w : zW} {Q : Option zV → zW → Prop} (hk : zk w h = 11) : zR 31 10 [l0, l1] (.inr (some h) :: st) w Q = zR 31 13 [l0, l1] (.inr (zp w 93 h) :: st) w Q := zR_go (zst zT_31_10 (zget_r hk rfl))
theorem zT_31_13 : zT 31 13 = some (.iload_n 1, 1, 0, []) := by decide +kernel
theorem zr_31_13 {l0 : Option zV} {x : Int} {st : List zV} {w : zW} {Q : Option zV → zW → Prop}  : zR 31 13 [l0, some (.inl x)] st w Q = zR 31 14 [l0, some (.inl x)] (.inl x :: st) w Q := zR_go (zst zT_31_13 rfl)
theorem zT_31_14 : zT 31 14 = some (.iaload, 1, 0, []) := by decide +kernel
theorem zr_31_14 {l0 l1 : Option zV} {j : Int} {h : Nat} {st : List zV} {w : zW} {Q : Option zV → zW → Prop} (hk : (zk w h = zNC ∨ zk w h = zNC + 2) ∧ 0 ≤ zN j ∧ zN j < zl w h) : zR 31 14 [l0, l1] (.inl j :: .inr (some h) :: st) w Q = zR 31 15 [l0, l1] (.inl (za w h (zN j).toNat) :: st) w Q := zR_go (zst zT_31_14 (if_pos hk))
theorem zT_31_15 : zT 31 15 = some (.iconst 1, 1, 0, []) := by decide +kernel
theorem zr_31_15 {l0 l1 : Option zV} {st : List zV} {w : zW} {Q : Option zV → zW → Prop}  : zR 31 15 [l0, l1] st w Q = zR 31 16 [l0, l1] (.inl 1 :: st) w Q := zR_go (zst zT_31_15 rfl)
theorem zT_31_16 : zT 31 16 = some (.if_icmp .ne 5, 3, 0, []) := by decide +kernel
theorem zr_31_16 {l0 l1 : Option zV} {x y : Int} {st : List zV} {w : zW} {Q : Option zV → zW → Prop}  : zR 31 16 [l0, l1] (.inl y :: .inl x :: st) w Q = (if zN x ≠ zN y then zR 31 21 [l0, l1] st w Q else zR 31 19 [l0, l1] st w Q) := zR_if (zstB zT_31_16 rfl) (by simp [zcmp])
theorem zT_31_19 : zT 31 19 = some (.iconst 0, 1, 0, []) := by decide +kernel
theorem zr_31_19 {l0 l1 : Option zV} {st : List zV} {w : zW} {Q : Option zV → zW → Prop}  : zR 31 19 [l0, l1] st w Q = zR 31 20 [l0, l1] (.inl 0 :: st) w Q := zR_go (zst zT_31_19 rfl)
theorem zT_31_20 : zT 31 20 = some (.ireturn, 1, 0, []) := by decide +kernel
theorem zr_31_20 {l0 l1 : Option zV} {x : Int} {w : zW} {Q : Option zV → zW → Prop} (hx : zN x = 0 ∨ zN x = 1) : zR 31 20 [l0, l1] [.inl x] w Q = Q (some (.inl x)) w := zR_ret (zst zT_31_20 (if_pos (Or.inr ⟨rfl, hx⟩)))
theorem zT_31_21 : zT 31 21 = some (.aload_n 0, 1, 0, []) := by decide +kernel
theorem zr_31_21 {l1 : Option zV} {x : Option Nat} {st : List zV} {w : zW} {Q : Option zV → zW → Prop}  : zR 31 21 [some (.inr x), l1] st w Q = zR 31 22 [some (.inr x), l1] (.inr x :: st) w Q := zR_go (zst zT_31_21 rfl)
theorem zT_31_22 : zT 31 22 = some (.getfield 71, 3, 0, [(11, 21)]) := by decide +kernel
theorem zr_31_22 {l0 l1 : Option zV} {h : Nat} {st : List zV} {w : zW} {Q : Option zV → zW → Prop} (hk : zk w h = 11) : zR 31 22 [l0, l1] (.inr (some h) :: st) w Q = zR 31 25 [l0, l1] (.inr (zp w 93 h) :: st) w Q := zR_go (zst zT_31_22 (zget_r hk rfl))
theorem zT_31_25 : zT 31 25 = some (.iload_n 1, 1, 0, []) := by decide +kernel
theorem zr_31_25 {l0 : Option zV} {x : Int} {st : List zV} {w : zW} {Q : Option zV → zW → Prop}  : zR 31 25 [l0, some (.inl x)] st w Q = zR 31 26 [l0, some (.inl x)] (.inl x :: st) w Q := zR_go (zst zT_31_25 rfl)
theorem zT_31_26 : zT 31 26 = some (.iconst 1, 1, 0, []) := by decide +kernel
theorem zr_31_26 {l0 l1 : Option zV} {st : List zV} {w : zW} {Q : Option zV → zW → Prop}  : zR 31 26 [l0, l1] st w Q = zR 31 27 [l0, l1] (.inl 1 :: st) w Q := zR_go (zst zT_31_26 rfl)
theorem zT_31_27 : zT 31 27 = some (.iastore, 1, 0, []) := by decide +kernel
theorem zr_31_27 {l0 l1 : Option zV} {j x : Int} {h : Nat} {st : List zV} {w : zW} {Q : Option zV → zW → Prop} (hk : zk w h = zNC ∧ 0 ≤ zN j ∧ zN j < zl w h) : zR 31 27 [l0, l1] (.inl x :: .inl j :: .inr (some h) :: st) w Q = zR 31 28 [l0, l1] st (zsa w h (zN j).toNat x) Q := zR_go (zst zT_31_27 (if_pos hk))
theorem zT_31_28 : zT 31 28 = some (.aload_n 0, 1, 0, []) := by decide +kernel
theorem zr_31_28 {l1 : Option zV} {x : Option Nat} {st : List zV} {w : zW} {Q : Option zV → zW → Prop}  : zR 31 28 [some (.inr x), l1] st w Q = zR 31 29 [some (.inr x), l1] (.inr x :: st) w Q := zR_go (zst zT_31_28 rfl)
theorem zT_31_29 : zT 31 29 = some (.getfield 74, 3, 0, [(11, 22)]) := by decide +kernel
theorem zr_31_29 {l0 l1 : Option zV} {h : Nat} {st : List zV} {w : zW} {Q : Option zV → zW → Prop} (hk : zk w h = 11) : zR 31 29 [l0, l1] (.inr (some h) :: st) w Q = zR 31 32 [l0, l1] (.inr (zp w 94 h) :: st) w Q := zR_go (zst zT_31_29 (zget_r hk rfl))
theorem zT_31_32 : zT 31 32 = some (.iload_n 1, 1, 0, []) := by decide +kernel
theorem zr_31_32 {l0 : Option zV} {x : Int} {st : List zV} {w : zW} {Q : Option zV → zW → Prop}  : zR 31 32 [l0, some (.inl x)] st w Q = zR 31 33 [l0, some (.inl x)] (.inl x :: st) w Q := zR_go (zst zT_31_32 rfl)
theorem zT_31_33 : zT 31 33 = some (.iconst 0, 1, 0, []) := by decide +kernel
theorem zr_31_33 {l0 l1 : Option zV} {st : List zV} {w : zW} {Q : Option zV → zW → Prop}  : zR 31 33 [l0, l1] st w Q = zR 31 34 [l0, l1] (.inl 0 :: st) w Q := zR_go (zst zT_31_33 rfl)
theorem zT_31_34 : zT 31 34 = some (.iastore, 1, 0, []) := by decide +kernel
theorem zr_31_34 {l0 l1 : Option zV} {j x : Int} {h : Nat} {st : List zV} {w : zW} {Q : Option zV → zW → Prop} (hk : zk w h = zNC ∧ 0 ≤ zN j ∧ zN j < zl w h) : zR 31 34 [l0, l1] (.inl x :: .inl j :: .inr (some h) :: st) w Q = zR 31 35 [l0, l1] st (zsa w h (zN j).toNat x) Q := zR_go (zst zT_31_34 (if_pos hk))
theorem zT_31_35 : zT 31 35 = some (.aload_n 0, 1, 0, []) := by decide +kernel
theorem zr_31_35 {l1 : Option zV} {x : Option Nat} {st : List zV} {w : zW} {Q : Option zV → zW → Prop}  : zR 31 35 [some (.inr x), l1] st w Q = zR 31 36 [some (.inr x), l1] (.inr x :: st) w Q := zR_go (zst zT_31_35 rfl)
theorem zT_31_36 : zT 31 36 = some (.getfield 80, 3, 0, [(11, 24)]) := by decide +kernel
theorem zr_31_36 {l0 l1 : Option zV} {h : Nat} {st : List zV} {w : zW} {Q : Option zV → zW → Prop} (hk : zk w h = 11) : zR 31 36 [l0, l1] (.inr (some h) :: st) w Q = zR 31 39 [l0, l1] (.inr (zp w 96 h) :: st) w Q := zR_go (zst zT_31_36 (zget_r hk rfl))
theorem zT_31_39 : zT 31 39 = some (.iload_n 1, 1, 0, []) := by decide +kernel
theorem zr_31_39 {l0 : Option zV} {x : Int} {st : List zV} {w : zW} {Q : Option zV → zW → Prop}  : zR 31 39 [l0, some (.inl x)] st w Q = zR 31 40 [l0, some (.inl x)] (.inl x :: st) w Q := zR_go (zst zT_31_39 rfl)
theorem zT_31_40 : zT 31 40 = some (.iconst 0, 1, 0, []) := by decide +kernel
theorem zr_31_40 {l0 l1 : Option zV} {st : List zV} {w : zW} {Q : Option zV → zW → Prop}  : zR 31 40 [l0, l1] st w Q = zR 31 41 [l0, l1] (.inl 0 :: st) w Q := zR_go (zst zT_31_40 rfl)
theorem zT_31_41 : zT 31 41 = some (.iastore, 1, 0, []) := by decide +kernel
theorem zr_31_41 {l0 l1 : Option zV} {j x : Int} {h : Nat} {st : List zV} {w : zW} {Q : Option zV → zW → Prop} (hk : zk w h = zNC ∧ 0 ≤ zN j ∧ zN j < zl w h) : zR 31 41 [l0, l1] (.inl x :: .inl j :: .inr (some h) :: st) w Q = zR 31 42 [l0, l1] st (zsa w h (zN j).toNat x) Q := zR_go (zst zT_31_41 (if_pos hk))
theorem zT_31_42 : zT 31 42 = some (.iconst 1, 1, 0, []) := by decide +kernel
theorem zr_31_42 {l0 l1 : Option zV} {st : List zV} {w : zW} {Q : Option zV → zW → Prop}  : zR 31 42 [l0, l1] st w Q = zR 31 43 [l0, l1] (.inl 1 :: st) w Q := zR_go (zst zT_31_42 rfl)
theorem zT_31_43 : zT 31 43 = some (.ireturn, 1, 0, []) := by decide +kernel
theorem zr_31_43 {l0 l1 : Option zV} {x : Int} {w : zW} {Q : Option zV → zW → Prop} (hx : zN x = 0 ∨ zN x = 1) : zR 31 43 [l0, l1] [.inl x] w Q = Q (some (.inl x)) w := zR_ret (zst zT_31_43 (if_pos (Or.inr ⟨rfl, hx⟩)))
theorem zT_32_0 : zT 32 0 = some (.iload_n 1, 1, 0, []) := by decide +kernel
theorem zr_32_0 {l0 l2 l3 : Option zV} {x : Int} {st : List zV} {w : zW} {Q : Option zV → zW → Prop}  : zR 32 0 [l0, some (.inl x), l2, l3] st w Q = zR 32 1 [l0, some (.inl x), l2, l3] (.inl x :: st) w Q := zR_go (zst zT_32_0 rfl)
theorem zT_32_1 : zT 32 1 = some (.iconst 0, 1, 0, []) := by decide +kernel
theorem zr_32_1 {l0 l1 l2 l3 : Option zV} {st : List zV} {w : zW} {Q : Option zV → zW → Prop}  : zR 32 1 [l0, l1, l2, l3] st w Q = zR 32 2 [l0, l1, l2, l3] (.inl 0 :: st) w Q := zR_go (zst zT_32_1 rfl)
theorem zT_32_2 : zT 32 2 = some (.iconst 1, 1, 0, []) := by decide +kernel
theorem zr_32_2 {l0 l1 l2 l3 : Option zV} {st : List zV} {w : zW} {Q : Option zV → zW → Prop}  : zR 32 2 [l0, l1, l2, l3] st w Q = zR 32 3 [l0, l1, l2, l3] (.inl 1 :: st) w Q := zR_go (zst zT_32_2 rfl)
theorem zT_32_3 : zT 32 3 = some (.invokestatic 150, 3, 3, [(24, 1)]) := by decide +kernel
theorem zr_32_3 {l0 l1 l2 l3 : Option zV} {a0 a1 a2 : zV} {st : List zV} {w : zW} {Q : Option zV → zW → Prop} (hs : st.length ≤ 8) : zR 32 3 [l0, l1, l2, l3] (a2 :: a1 :: a0 :: st) w Q = zR 24 0 [some a0, some a1, some a2] [] w (fun r w2 => zR 32 6 [l0, l1, l2, l3] (r.toList ++ st) w2 Q) := zR_call (zst zT_32_3 ((zcall_s (z := 3) (pc := 3) (j := 24) (ls := [l0, l1, l2, l3]) (w := w) [a2, a1, a0] rfl hs : zi_static 3 [(24, 1)] 3 [l0, l1, l2, l3] ([a2, a1, a0] ++ st) w = _)))
theorem zT_32_6 : zT 32 6 = some (.ifCond .eq 24, 3, 0, []) := by decide +kernel
theorem zr_32_6 {l0 l1 l2 l3 : Option zV} {x : Int} {st : List zV} {w : zW} {Q : Option zV → zW → Prop}  : zR 32 6 [l0, l1, l2, l3] (.inl x :: st) w Q = (if zN x = 0 then zR 32 30 [l0, l1, l2, l3] st w Q else zR 32 9 [l0, l1, l2, l3] st w Q) := zR_if (zstB zT_32_6 rfl) (by simp [zcmp])
theorem zT_32_9 : zT 32 9 = some (.iload_n 2, 1, 0, []) := by decide +kernel
theorem zr_32_9 {l0 l1 l3 : Option zV} {x : Int} {st : List zV} {w : zW} {Q : Option zV → zW → Prop}  : zR 32 9 [l0, l1, some (.inl x), l3] st w Q = zR 32 10 [l0, l1, some (.inl x), l3] (.inl x :: st) w Q := zR_go (zst zT_32_9 rfl)
theorem zT_32_10 : zT 32 10 = some (.iconst 0, 1, 0, []) := by decide +kernel
theorem zr_32_10 {l0 l1 l2 l3 : Option zV} {st : List zV} {w : zW} {Q : Option zV → zW → Prop}  : zR 32 10 [l0, l1, l2, l3] st w Q = zR 32 11 [l0, l1, l2, l3] (.inl 0 :: st) w Q := zR_go (zst zT_32_10 rfl)
theorem zT_32_11 : zT 32 11 = some (.bipush 12, 2, 0, []) := by decide +kernel
theorem zr_32_11 {l0 l1 l2 l3 : Option zV} {st : List zV} {w : zW} {Q : Option zV → zW → Prop}  : zR 32 11 [l0, l1, l2, l3] st w Q = zR 32 13 [l0, l1, l2, l3] (.inl 12 :: st) w Q := zR_go (zst zT_32_11 rfl)
theorem zT_32_13 : zT 32 13 = some (.invokestatic 150, 3, 3, [(24, 1)]) := by decide +kernel
theorem zr_32_13 {l0 l1 l2 l3 : Option zV} {a0 a1 a2 : zV} {st : List zV} {w : zW} {Q : Option zV → zW → Prop} (hs : st.length ≤ 8) : zR 32 13 [l0, l1, l2, l3] (a2 :: a1 :: a0 :: st) w Q = zR 24 0 [some a0, some a1, some a2] [] w (fun r w2 => zR 32 16 [l0, l1, l2, l3] (r.toList ++ st) w2 Q) := zR_call (zst zT_32_13 ((zcall_s (z := 3) (pc := 13) (j := 24) (ls := [l0, l1, l2, l3]) (w := w) [a2, a1, a0] rfl hs : zi_static 3 [(24, 1)] 13 [l0, l1, l2, l3] ([a2, a1, a0] ++ st) w = _)))
theorem zT_32_16 : zT 32 16 = some (.ifCond .eq 14, 3, 0, []) := by decide +kernel
theorem zr_32_16 {l0 l1 l2 l3 : Option zV} {x : Int} {st : List zV} {w : zW} {Q : Option zV → zW → Prop}  : zR 32 16 [l0, l1, l2, l3] (.inl x :: st) w Q = (if zN x = 0 then zR 32 30 [l0, l1, l2, l3] st w Q else zR 32 19 [l0, l1, l2, l3] st w Q) := zR_if (zstB zT_32_16 rfl) (by simp [zcmp])
theorem zT_32_19 : zT 32 19 = some (.iload_n 3, 1, 0, []) := by decide +kernel
theorem zr_32_19 {l0 l1 l2 : Option zV} {x : Int} {st : List zV} {w : zW} {Q : Option zV → zW → Prop}  : zR 32 19 [l0, l1, l2, some (.inl x)] st w Q = zR 32 20 [l0, l1, l2, some (.inl x)] (.inl x :: st) w Q := zR_go (zst zT_32_19 rfl)
theorem zT_32_20 : zT 32 20 = some (.iconst 1, 1, 0, []) := by decide +kernel
theorem zr_32_20 {l0 l1 l2 l3 : Option zV} {st : List zV} {w : zW} {Q : Option zV → zW → Prop}  : zR 32 20 [l0, l1, l2, l3] st w Q = zR 32 21 [l0, l1, l2, l3] (.inl 1 :: st) w Q := zR_go (zst zT_32_20 rfl)
theorem zT_32_21 : zT 32 21 = some (.sipush 255, 3, 0, []) := by decide +kernel
theorem zr_32_21 {l0 l1 l2 l3 : Option zV} {st : List zV} {w : zW} {Q : Option zV → zW → Prop}  : zR 32 21 [l0, l1, l2, l3] st w Q = zR 32 24 [l0, l1, l2, l3] (.inl 255 :: st) w Q := zR_go (zst zT_32_21 rfl)
theorem zT_32_24 : zT 32 24 = some (.invokestatic 150, 3, 3, [(24, 1)]) := by decide +kernel
theorem zr_32_24 {l0 l1 l2 l3 : Option zV} {a0 a1 a2 : zV} {st : List zV} {w : zW} {Q : Option zV → zW → Prop} (hs : st.length ≤ 8) : zR 32 24 [l0, l1, l2, l3] (a2 :: a1 :: a0 :: st) w Q = zR 24 0 [some a0, some a1, some a2] [] w (fun r w2 => zR 32 27 [l0, l1, l2, l3] (r.toList ++ st) w2 Q) := zR_call (zst zT_32_24 ((zcall_s (z := 3) (pc := 24) (j := 24) (ls := [l0, l1, l2, l3]) (w := w) [a2, a1, a0] rfl hs : zi_static 3 [(24, 1)] 24 [l0, l1, l2, l3] ([a2, a1, a0] ++ st) w = _)))
theorem zT_32_27 : zT 32 27 = some (.ifCond .ne 5, 3, 0, []) := by decide +kernel
theorem zr_32_27 {l0 l1 l2 l3 : Option zV} {x : Int} {st : List zV} {w : zW} {Q : Option zV → zW → Prop}  : zR 32 27 [l0, l1, l2, l3] (.inl x :: st) w Q = (if zN x ≠ 0 then zR 32 32 [l0, l1, l2, l3] st w Q else zR 32 30 [l0, l1, l2, l3] st w Q) := zR_if (zstB zT_32_27 rfl) (by simp [zcmp])
theorem zT_32_30 : zT 32 30 = some (.iconst 0, 1, 0, []) := by decide +kernel
theorem zr_32_30 {l0 l1 l2 l3 : Option zV} {st : List zV} {w : zW} {Q : Option zV → zW → Prop}  : zR 32 30 [l0, l1, l2, l3] st w Q = zR 32 31 [l0, l1, l2, l3] (.inl 0 :: st) w Q := zR_go (zst zT_32_30 rfl)
theorem zT_32_31 : zT 32 31 = some (.ireturn, 1, 0, []) := by decide +kernel
theorem zr_32_31 {l0 l1 l2 l3 : Option zV} {x : Int} {w : zW} {Q : Option zV → zW → Prop} (hx : zN x = 0 ∨ zN x = 1) : zR 32 31 [l0, l1, l2, l3] [.inl x] w Q = Q (some (.inl x)) w := zR_ret (zst zT_32_31 (if_pos (Or.inr ⟨rfl, hx⟩)))
theorem zT_32_32 : zT 32 32 = some (.aload_n 0, 1, 0, []) := by decide +kernel
theorem zr_32_32 {l1 l2 l3 : Option zV} {x : Option Nat} {st : List zV} {w : zW} {Q : Option zV → zW → Prop}  : zR 32 32 [some (.inr x), l1, l2, l3] st w Q = zR 32 33 [some (.inr x), l1, l2, l3] (.inr x :: st) w Q := zR_go (zst zT_32_32 rfl)
theorem zT_32_33 : zT 32 33 = some (.getfield 92, 3, 0, [(11, 29)]) := by decide +kernel
theorem zr_32_33 {l0 l1 l2 l3 : Option zV} {h : Nat} {st : List zV} {w : zW} {Q : Option zV → zW → Prop} (hk : zk w h = 11) : zR 32 33 [l0, l1, l2, l3] (.inr (some h) :: st) w Q = zR 32 36 [l0, l1, l2, l3] (.inr (zp w 101 h) :: st) w Q := zR_go (zst zT_32_33 (zget_r hk rfl))
theorem zT_32_36 : zT 32 36 = some (.iload_n 1, 1, 0, []) := by decide +kernel
theorem zr_32_36 {l0 l2 l3 : Option zV} {x : Int} {st : List zV} {w : zW} {Q : Option zV → zW → Prop}  : zR 32 36 [l0, some (.inl x), l2, l3] st w Q = zR 32 37 [l0, some (.inl x), l2, l3] (.inl x :: st) w Q := zR_go (zst zT_32_36 rfl)
theorem zT_32_37 : zT 32 37 = some (.iload_n 2, 1, 0, []) := by decide +kernel
theorem zr_32_37 {l0 l1 l3 : Option zV} {x : Int} {st : List zV} {w : zW} {Q : Option zV → zW → Prop}  : zR 32 37 [l0, l1, some (.inl x), l3] st w Q = zR 32 38 [l0, l1, some (.inl x), l3] (.inl x :: st) w Q := zR_go (zst zT_32_37 rfl)
theorem zT_32_38 : zT 32 38 = some (.iastore, 1, 0, []) := by decide +kernel
theorem zr_32_38 {l0 l1 l2 l3 : Option zV} {j x : Int} {h : Nat} {st : List zV} {w : zW} {Q : Option zV → zW → Prop} (hk : zk w h = zNC ∧ 0 ≤ zN j ∧ zN j < zl w h) : zR 32 38 [l0, l1, l2, l3] (.inl x :: .inl j :: .inr (some h) :: st) w Q = zR 32 39 [l0, l1, l2, l3] st (zsa w h (zN j).toNat x) Q := zR_go (zst zT_32_38 (if_pos hk))
theorem zT_32_39 : zT 32 39 = some (.aload_n 0, 1, 0, []) := by decide +kernel
theorem zr_32_39 {l1 l2 l3 : Option zV} {x : Option Nat} {st : List zV} {w : zW} {Q : Option zV → zW → Prop}  : zR 32 39 [some (.inr x), l1, l2, l3] st w Q = zR 32 40 [some (.inr x), l1, l2, l3] (.inr x :: st) w Q := zR_go (zst zT_32_39 rfl)
theorem zT_32_40 : zT 32 40 = some (.getfield 95, 3, 0, [(11, 30)]) := by decide +kernel
theorem zr_32_40 {l0 l1 l2 l3 : Option zV} {h : Nat} {st : List zV} {w : zW} {Q : Option zV → zW → Prop} (hk : zk w h = 11) : zR 32 40 [l0, l1, l2, l3] (.inr (some h) :: st) w Q = zR 32 43 [l0, l1, l2, l3] (.inr (zp w 102 h) :: st) w Q := zR_go (zst zT_32_40 (zget_r hk rfl))
theorem zT_32_43 : zT 32 43 = some (.iload_n 1, 1, 0, []) := by decide +kernel
theorem zr_32_43 {l0 l2 l3 : Option zV} {x : Int} {st : List zV} {w : zW} {Q : Option zV → zW → Prop}  : zR 32 43 [l0, some (.inl x), l2, l3] st w Q = zR 32 44 [l0, some (.inl x), l2, l3] (.inl x :: st) w Q := zR_go (zst zT_32_43 rfl)
theorem zT_32_44 : zT 32 44 = some (.iload_n 3, 1, 0, []) := by decide +kernel
theorem zr_32_44 {l0 l1 l2 : Option zV} {x : Int} {st : List zV} {w : zW} {Q : Option zV → zW → Prop}  : zR 32 44 [l0, l1, l2, some (.inl x)] st w Q = zR 32 45 [l0, l1, l2, some (.inl x)] (.inl x :: st) w Q := zR_go (zst zT_32_44 rfl)
theorem zT_32_45 : zT 32 45 = some (.iastore, 1, 0, []) := by decide +kernel
theorem zr_32_45 {l0 l1 l2 l3 : Option zV} {j x : Int} {h : Nat} {st : List zV} {w : zW} {Q : Option zV → zW → Prop} (hk : zk w h = zNC ∧ 0 ≤ zN j ∧ zN j < zl w h) : zR 32 45 [l0, l1, l2, l3] (.inl x :: .inl j :: .inr (some h) :: st) w Q = zR 32 46 [l0, l1, l2, l3] st (zsa w h (zN j).toNat x) Q := zR_go (zst zT_32_45 (if_pos hk))
theorem zT_32_46 : zT 32 46 = some (.iconst 1, 1, 0, []) := by decide +kernel
theorem zr_32_46 {l0 l1 l2 l3 : Option zV} {st : List zV} {w : zW} {Q : Option zV → zW → Prop}  : zR 32 46 [l0, l1, l2, l3] st w Q = zR 32 47 [l0, l1, l2, l3] (.inl 1 :: st) w Q := zR_go (zst zT_32_46 rfl)
theorem zT_32_47 : zT 32 47 = some (.ireturn, 1, 0, []) := by decide +kernel
theorem zr_32_47 {l0 l1 l2 l3 : Option zV} {x : Int} {w : zW} {Q : Option zV → zW → Prop} (hx : zN x = 0 ∨ zN x = 1) : zR 32 47 [l0, l1, l2, l3] [.inl x] w Q = Q (some (.inl x)) w := zR_ret (zst zT_32_47 (if_pos (Or.inr ⟨rfl, hx⟩)))
theorem zT_33_0 : zT 33 0 = some (.iload_n 1, 1, 0, []) := by decide +kernel
theorem zr_33_0 {l0 l2 : Option zV} {x : Int} {st : List zV} {w : zW} {Q : Option zV → zW → Prop}  : zR 33 0 [l0, some (.inl x), l2] st w Q = zR 33 1 [l0, some (.inl x), l2] (.inl x :: st) w Q := zR_go (zst zT_33_0 rfl)
theorem zT_33_1 : zT 33 1 = some (.iconst 0, 1, 0, []) := by decide +kernel
theorem zr_33_1 {l0 l1 l2 : Option zV} {st : List zV} {w : zW} {Q : Option zV → zW → Prop}  : zR 33 1 [l0, l1, l2] st w Q = zR 33 2 [l0, l1, l2] (.inl 0 :: st) w Q := zR_go (zst zT_33_1 rfl)
theorem zT_33_2 : zT 33 2 = some (.bipush 31, 2, 0, []) := by decide +kernel
theorem zr_33_2 {l0 l1 l2 : Option zV} {st : List zV} {w : zW} {Q : Option zV → zW → Prop}  : zR 33 2 [l0, l1, l2] st w Q = zR 33 4 [l0, l1, l2] (.inl 31 :: st) w Q := zR_go (zst zT_33_2 rfl)
theorem zT_33_4 : zT 33 4 = some (.invokestatic 150, 3, 3, [(24, 1)]) := by decide +kernel
theorem zr_33_4 {l0 l1 l2 : Option zV} {a0 a1 a2 : zV} {st : List zV} {w : zW} {Q : Option zV → zW → Prop} (hs : st.length ≤ 8) : zR 33 4 [l0, l1, l2] (a2 :: a1 :: a0 :: st) w Q = zR 24 0 [some a0, some a1, some a2] [] w (fun r w2 => zR 33 7 [l0, l1, l2] (r.toList ++ st) w2 Q) := zR_call (zst zT_33_4 ((zcall_s (z := 3) (pc := 4) (j := 24) (ls := [l0, l1, l2]) (w := w) [a2, a1, a0] rfl hs : zi_static 3 [(24, 1)] 4 [l0, l1, l2] ([a2, a1, a0] ++ st) w = _)))
theorem zT_33_7 : zT 33 7 = some (.ifCond .eq 14, 3, 0, []) := by decide +kernel
theorem zr_33_7 {l0 l1 l2 : Option zV} {x : Int} {st : List zV} {w : zW} {Q : Option zV → zW → Prop}  : zR 33 7 [l0, l1, l2] (.inl x :: st) w Q = (if zN x = 0 then zR 33 21 [l0, l1, l2] st w Q else zR 33 10 [l0, l1, l2] st w Q) := zR_if (zstB zT_33_7 rfl) (by simp [zcmp])
theorem zT_33_10 : zT 33 10 = some (.iload_n 2, 1, 0, []) := by decide +kernel
theorem zr_33_10 {l0 l1 : Option zV} {x : Int} {st : List zV} {w : zW} {Q : Option zV → zW → Prop}  : zR 33 10 [l0, l1, some (.inl x)] st w Q = zR 33 11 [l0, l1, some (.inl x)] (.inl x :: st) w Q := zR_go (zst zT_33_10 rfl)
theorem zT_33_11 : zT 33 11 = some (.iconst 0, 1, 0, []) := by decide +kernel
theorem zr_33_11 {l0 l1 l2 : Option zV} {st : List zV} {w : zW} {Q : Option zV → zW → Prop}  : zR 33 11 [l0, l1, l2] st w Q = zR 33 12 [l0, l1, l2] (.inl 0 :: st) w Q := zR_go (zst zT_33_11 rfl)
theorem zT_33_12 : zT 33 12 = some (.sipush 255, 3, 0, []) := by decide +kernel
theorem zr_33_12 {l0 l1 l2 : Option zV} {st : List zV} {w : zW} {Q : Option zV → zW → Prop}  : zR 33 12 [l0, l1, l2] st w Q = zR 33 15 [l0, l1, l2] (.inl 255 :: st) w Q := zR_go (zst zT_33_12 rfl)
theorem zT_33_15 : zT 33 15 = some (.invokestatic 150, 3, 3, [(24, 1)]) := by decide +kernel
theorem zr_33_15 {l0 l1 l2 : Option zV} {a0 a1 a2 : zV} {st : List zV} {w : zW} {Q : Option zV → zW → Prop} (hs : st.length ≤ 8) : zR 33 15 [l0, l1, l2] (a2 :: a1 :: a0 :: st) w Q = zR 24 0 [some a0, some a1, some a2] [] w (fun r w2 => zR 33 18 [l0, l1, l2] (r.toList ++ st) w2 Q) := zR_call (zst zT_33_15 ((zcall_s (z := 3) (pc := 15) (j := 24) (ls := [l0, l1, l2]) (w := w) [a2, a1, a0] rfl hs : zi_static 3 [(24, 1)] 15 [l0, l1, l2] ([a2, a1, a0] ++ st) w = _)))
theorem zT_33_18 : zT 33 18 = some (.ifCond .ne 5, 3, 0, []) := by decide +kernel
theorem zr_33_18 {l0 l1 l2 : Option zV} {x : Int} {st : List zV} {w : zW} {Q : Option zV → zW → Prop}  : zR 33 18 [l0, l1, l2] (.inl x :: st) w Q = (if zN x ≠ 0 then zR 33 23 [l0, l1, l2] st w Q else zR 33 21 [l0, l1, l2] st w Q) := zR_if (zstB zT_33_18 rfl) (by simp [zcmp])
theorem zT_33_21 : zT 33 21 = some (.iconst 0, 1, 0, []) := by decide +kernel
theorem zr_33_21 {l0 l1 l2 : Option zV} {st : List zV} {w : zW} {Q : Option zV → zW → Prop}  : zR 33 21 [l0, l1, l2] st w Q = zR 33 22 [l0, l1, l2] (.inl 0 :: st) w Q := zR_go (zst zT_33_21 rfl)
theorem zT_33_22 : zT 33 22 = some (.ireturn, 1, 0, []) := by decide +kernel
theorem zr_33_22 {l0 l1 l2 : Option zV} {x : Int} {w : zW} {Q : Option zV → zW → Prop} (hx : zN x = 0 ∨ zN x = 1) : zR 33 22 [l0, l1, l2] [.inl x] w Q = Q (some (.inl x)) w := zR_ret (zst zT_33_22 (if_pos (Or.inr ⟨rfl, hx⟩)))
theorem zT_33_23 : zT 33 23 = some (.aload_n 0, 1, 0, []) := by decide +kernel
theorem zr_33_23 {l1 l2 : Option zV} {x : Option Nat} {st : List zV} {w : zW} {Q : Option zV → zW → Prop}  : zR 33 23 [some (.inr x), l1, l2] st w Q = zR 33 24 [some (.inr x), l1, l2] (.inr x :: st) w Q := zR_go (zst zT_33_23 rfl)
theorem zT_33_24 : zT 33 24 = some (.getfield 116, 3, 0, [(11, 40)]) := by decide +kernel
theorem zr_33_24 {l0 l1 l2 : Option zV} {h : Nat} {st : List zV} {w : zW} {Q : Option zV → zW → Prop} (hk : zk w h = 11) : zR 33 24 [l0, l1, l2] (.inr (some h) :: st) w Q = zR 33 27 [l0, l1, l2] (.inr (zp w 112 h) :: st) w Q := zR_go (zst zT_33_24 (zget_r hk rfl))
theorem zT_33_27 : zT 33 27 = some (.iload_n 1, 1, 0, []) := by decide +kernel
theorem zr_33_27 {l0 l2 : Option zV} {x : Int} {st : List zV} {w : zW} {Q : Option zV → zW → Prop}  : zR 33 27 [l0, some (.inl x), l2] st w Q = zR 33 28 [l0, some (.inl x), l2] (.inl x :: st) w Q := zR_go (zst zT_33_27 rfl)
theorem zT_33_28 : zT 33 28 = some (.iload_n 2, 1, 0, []) := by decide +kernel
theorem zr_33_28 {l0 l1 : Option zV} {x : Int} {st : List zV} {w : zW} {Q : Option zV → zW → Prop}  : zR 33 28 [l0, l1, some (.inl x)] st w Q = zR 33 29 [l0, l1, some (.inl x)] (.inl x :: st) w Q := zR_go (zst zT_33_28 rfl)
theorem zT_33_29 : zT 33 29 = some (.iastore, 1, 0, []) := by decide +kernel
theorem zr_33_29 {l0 l1 l2 : Option zV} {j x : Int} {h : Nat} {st : List zV} {w : zW} {Q : Option zV → zW → Prop} (hk : zk w h = zNC ∧ 0 ≤ zN j ∧ zN j < zl w h) : zR 33 29 [l0, l1, l2] (.inl x :: .inl j :: .inr (some h) :: st) w Q = zR 33 30 [l0, l1, l2] st (zsa w h (zN j).toNat x) Q := zR_go (zst zT_33_29 (if_pos hk))
theorem zT_33_30 : zT 33 30 = some (.iconst 1, 1, 0, []) := by decide +kernel
theorem zr_33_30 {l0 l1 l2 : Option zV} {st : List zV} {w : zW} {Q : Option zV → zW → Prop}  : zR 33 30 [l0, l1, l2] st w Q = zR 33 31 [l0, l1, l2] (.inl 1 :: st) w Q := zR_go (zst zT_33_30 rfl)
theorem zT_33_31 : zT 33 31 = some (.ireturn, 1, 0, []) := by decide +kernel
theorem zr_33_31 {l0 l1 l2 : Option zV} {x : Int} {w : zW} {Q : Option zV → zW → Prop} (hx : zN x = 0 ∨ zN x = 1) : zR 33 31 [l0, l1, l2] [.inl x] w Q = Q (some (.inl x)) w := zR_ret (zst zT_33_31 (if_pos (Or.inr ⟨rfl, hx⟩)))
theorem zT_34_0 : zT 34 0 = some (.iload_n 2, 1, 0, []) := by decide +kernel
theorem zr_34_0 {l0 l1 l3 l4 : Option zV} {x : Int} {st : List zV} {w : zW} {Q : Option zV → zW → Prop}  : zR 34 0 [l0, l1, some (.inl x), l3, l4] st w Q = zR 34 1 [l0, l1, some (.inl x), l3, l4] (.inl x :: st) w Q := zR_go (zst zT_34_0 rfl)
theorem zT_34_1 : zT 34 1 = some (.iconst 1, 1, 0, []) := by decide +kernel
theorem zr_34_1 {l0 l1 l2 l3 l4 : Option zV} {st : List zV} {w : zW} {Q : Option zV → zW → Prop}  : zR 34 1 [l0, l1, l2, l3, l4] st w Q = zR 34 2 [l0, l1, l2, l3, l4] (.inl 1 :: st) w Q := zR_go (zst zT_34_1 rfl)
theorem zT_34_2 : zT 34 2 = some (.bipush 32, 2, 0, []) := by decide +kernel
theorem zr_34_2 {l0 l1 l2 l3 l4 : Option zV} {st : List zV} {w : zW} {Q : Option zV → zW → Prop}  : zR 34 2 [l0, l1, l2, l3, l4] st w Q = zR 34 4 [l0, l1, l2, l3, l4] (.inl 32 :: st) w Q := zR_go (zst zT_34_2 rfl)
theorem zT_34_4 : zT 34 4 = some (.invokestatic 150, 3, 3, [(24, 1)]) := by decide +kernel
theorem zr_34_4 {l0 l1 l2 l3 l4 : Option zV} {a0 a1 a2 : zV} {st : List zV} {w : zW} {Q : Option zV → zW → Prop} (hs : st.length ≤ 8) : zR 34 4 [l0, l1, l2, l3, l4] (a2 :: a1 :: a0 :: st) w Q = zR 24 0 [some a0, some a1, some a2] [] w (fun r w2 => zR 34 7 [l0, l1, l2, l3, l4] (r.toList ++ st) w2 Q) := zR_call (zst zT_34_4 ((zcall_s (z := 3) (pc := 4) (j := 24) (ls := [l0, l1, l2, l3, l4]) (w := w) [a2, a1, a0] rfl hs : zi_static 3 [(24, 1)] 4 [l0, l1, l2, l3, l4] ([a2, a1, a0] ++ st) w = _)))
theorem zT_34_7 : zT 34 7 = some (.ifCond .eq 23, 3, 0, []) := by decide +kernel
theorem zr_34_7 {l0 l1 l2 l3 l4 : Option zV} {x : Int} {st : List zV} {w : zW} {Q : Option zV → zW → Prop}  : zR 34 7 [l0, l1, l2, l3, l4] (.inl x :: st) w Q = (if zN x = 0 then zR 34 30 [l0, l1, l2, l3, l4] st w Q else zR 34 10 [l0, l1, l2, l3, l4] st w Q) := zR_if (zstB zT_34_7 rfl) (by simp [zcmp])
theorem zT_34_10 : zT 34 10 = some (.iload_n 1, 1, 0, []) := by decide +kernel
theorem zr_34_10 {l0 l2 l3 l4 : Option zV} {x : Int} {st : List zV} {w : zW} {Q : Option zV → zW → Prop}  : zR 34 10 [l0, some (.inl x), l2, l3, l4] st w Q = zR 34 11 [l0, some (.inl x), l2, l3, l4] (.inl x :: st) w Q := zR_go (zst zT_34_10 rfl)
theorem zT_34_11 : zT 34 11 = some (.bipush 9, 2, 0, []) := by decide +kernel
theorem zr_34_11 {l0 l1 l2 l3 l4 : Option zV} {st : List zV} {w : zW} {Q : Option zV → zW → Prop}  : zR 34 11 [l0, l1, l2, l3, l4] st w Q = zR 34 13 [l0, l1, l2, l3, l4] (.inl 9 :: st) w Q := zR_go (zst zT_34_11 rfl)
theorem zT_34_13 : zT 34 13 = some (.bipush 63, 2, 0, []) := by decide +kernel
theorem zr_34_13 {l0 l1 l2 l3 l4 : Option zV} {st : List zV} {w : zW} {Q : Option zV → zW → Prop}  : zR 34 13 [l0, l1, l2, l3, l4] st w Q = zR 34 15 [l0, l1, l2, l3, l4] (.inl 63 :: st) w Q := zR_go (zst zT_34_13 rfl)
theorem zT_34_15 : zT 34 15 = some (.invokestatic 150, 3, 3, [(24, 1)]) := by decide +kernel
theorem zr_34_15 {l0 l1 l2 l3 l4 : Option zV} {a0 a1 a2 : zV} {st : List zV} {w : zW} {Q : Option zV → zW → Prop} (hs : st.length ≤ 8) : zR 34 15 [l0, l1, l2, l3, l4] (a2 :: a1 :: a0 :: st) w Q = zR 24 0 [some a0, some a1, some a2] [] w (fun r w2 => zR 34 18 [l0, l1, l2, l3, l4] (r.toList ++ st) w2 Q) := zR_call (zst zT_34_15 ((zcall_s (z := 3) (pc := 15) (j := 24) (ls := [l0, l1, l2, l3, l4]) (w := w) [a2, a1, a0] rfl hs : zi_static 3 [(24, 1)] 15 [l0, l1, l2, l3, l4] ([a2, a1, a0] ++ st) w = _)))
theorem zT_34_18 : zT 34 18 = some (.ifCond .eq 12, 3, 0, []) := by decide +kernel
theorem zr_34_18 {l0 l1 l2 l3 l4 : Option zV} {x : Int} {st : List zV} {w : zW} {Q : Option zV → zW → Prop}  : zR 34 18 [l0, l1, l2, l3, l4] (.inl x :: st) w Q = (if zN x = 0 then zR 34 30 [l0, l1, l2, l3, l4] st w Q else zR 34 21 [l0, l1, l2, l3, l4] st w Q) := zR_if (zstB zT_34_18 rfl) (by simp [zcmp])
theorem zT_34_21 : zT 34 21 = some (.aload_n 0, 1, 0, []) := by decide +kernel
theorem zr_34_21 {l1 l2 l3 l4 : Option zV} {x : Option Nat} {st : List zV} {w : zW} {Q : Option zV → zW → Prop}  : zR 34 21 [some (.inr x), l1, l2, l3, l4] st w Q = zR 34 22 [some (.inr x), l1, l2, l3, l4] (.inr x :: st) w Q := zR_go (zst zT_34_21 rfl)
theorem zT_34_22 : zT 34 22 = some (.getfield 155, 3, 0, [(11, 41)]) := by decide +kernel
theorem zr_34_22 {l0 l1 l2 l3 l4 : Option zV} {h : Nat} {st : List zV} {w : zW} {Q : Option zV → zW → Prop} (hk : zk w h = 11) : zR 34 22 [l0, l1, l2, l3, l4] (.inr (some h) :: st) w Q = zR 34 25 [l0, l1, l2, l3, l4] (.inl (zf w 113 h) :: st) w Q := zR_go (zst zT_34_22 (zget_i hk (Or.inl rfl)))
theorem zT_34_25 : zT 34 25 = some (.bipush 40, 2, 0, []) := by decide +kernel
theorem zr_34_25 {l0 l1 l2 l3 l4 : Option zV} {st : List zV} {w : zW} {Q : Option zV → zW → Prop}  : zR 34 25 [l0, l1, l2, l3, l4] st w Q = zR 34 27 [l0, l1, l2, l3, l4] (.inl 40 :: st) w Q := zR_go (zst zT_34_25 rfl)
theorem zT_34_27 : zT 34 27 = some (.if_icmp .ne 5, 3, 0, []) := by decide +kernel
theorem zr_34_27 {l0 l1 l2 l3 l4 : Option zV} {x y : Int} {st : List zV} {w : zW} {Q : Option zV → zW → Prop}  : zR 34 27 [l0, l1, l2, l3, l4] (.inl y :: .inl x :: st) w Q = (if zN x ≠ zN y then zR 34 32 [l0, l1, l2, l3, l4] st w Q else zR 34 30 [l0, l1, l2, l3, l4] st w Q) := zR_if (zstB zT_34_27 rfl) (by simp [zcmp])
theorem zT_34_30 : zT 34 30 = some (.iconst (-1), 1, 0, []) := by decide +kernel
theorem zr_34_30 {l0 l1 l2 l3 l4 : Option zV} {st : List zV} {w : zW} {Q : Option zV → zW → Prop}  : zR 34 30 [l0, l1, l2, l3, l4] st w Q = zR 34 31 [l0, l1, l2, l3, l4] (.inl (-1) :: st) w Q := zR_go (zst zT_34_30 rfl)
theorem zT_34_31 : zT 34 31 = some (.ireturn, 1, 0, []) := by decide +kernel
theorem zr_34_31 {l0 l1 l2 l3 l4 : Option zV} {x : Int} {w : zW} {Q : Option zV → zW → Prop}  : zR 34 31 [l0, l1, l2, l3, l4] [.inl x] w Q = Q (some (.inl x)) w := zR_ret (zst zT_34_31 rfl)
theorem zT_34_32 : zT 34 32 = some (.aload_n 0, 1, 0, []) := by decide +kernel
theorem zr_34_32 {l1 l2 l3 l4 : Option zV} {x : Option Nat} {st : List zV} {w : zW} {Q : Option zV → zW → Prop}  : zR 34 32 [some (.inr x), l1, l2, l3, l4] st w Q = zR 34 33 [some (.inr x), l1, l2, l3, l4] (.inr x :: st) w Q := zR_go (zst zT_34_32 rfl)
theorem zT_34_33 : zT 34 33 = some (.getfield 155, 3, 0, [(11, 41)]) := by decide +kernel
theorem zr_34_33 {l0 l1 l2 l3 l4 : Option zV} {h : Nat} {st : List zV} {w : zW} {Q : Option zV → zW → Prop} (hk : zk w h = 11) : zR 34 33 [l0, l1, l2, l3, l4] (.inr (some h) :: st) w Q = zR 34 36 [l0, l1, l2, l3, l4] (.inl (zf w 113 h) :: st) w Q := zR_go (zst zT_34_33 (zget_i hk (Or.inl rfl)))
theorem zT_34_36 : zT 34 36 = some (.istore_n 3, 1, 0, []) := by decide +kernel
theorem zr_34_36 {l0 l1 l2 l3 l4 : Option zV} {x : Int} {st : List zV} {w : zW} {Q : Option zV → zW → Prop}  : zR 34 36 [l0, l1, l2, l3, l4] (.inl x :: st) w Q = zR 34 37 [l0, l1, l2, some (.inl x), l4] st w Q := zR_go (zst zT_34_36 rfl)
theorem zT_34_37 : zT 34 37 = some (.aload_n 0, 1, 0, []) := by decide +kernel
theorem zr_34_37 {l1 l2 l3 l4 : Option zV} {x : Option Nat} {st : List zV} {w : zW} {Q : Option zV → zW → Prop}  : zR 34 37 [some (.inr x), l1, l2, l3, l4] st w Q = zR 34 38 [some (.inr x), l1, l2, l3, l4] (.inr x :: st) w Q := zR_go (zst zT_34_37 rfl)
theorem zT_34_38 : zT 34 38 = some (.dup, 1, 0, []) := by decide +kernel
theorem zr_34_38 {l0 l1 l2 l3 l4 : Option zV} {v : zV} {st : List zV} {w : zW} {Q : Option zV → zW → Prop}  : zR 34 38 [l0, l1, l2, l3, l4] (v :: st) w Q = zR 34 39 [l0, l1, l2, l3, l4] (v :: v :: st) w Q := zR_go (zst zT_34_38 rfl)
theorem zT_34_39 : zT 34 39 = some (.getfield 155, 3, 0, [(11, 41)]) := by decide +kernel
theorem zr_34_39 {l0 l1 l2 l3 l4 : Option zV} {h : Nat} {st : List zV} {w : zW} {Q : Option zV → zW → Prop} (hk : zk w h = 11) : zR 34 39 [l0, l1, l2, l3, l4] (.inr (some h) :: st) w Q = zR 34 42 [l0, l1, l2, l3, l4] (.inl (zf w 113 h) :: st) w Q := zR_go (zst zT_34_39 (zget_i hk (Or.inl rfl)))
theorem zT_34_42 : zT 34 42 = some (.iconst 1, 1, 0, []) := by decide +kernel
theorem zr_34_42 {l0 l1 l2 l3 l4 : Option zV} {st : List zV} {w : zW} {Q : Option zV → zW → Prop}  : zR 34 42 [l0, l1, l2, l3, l4] st w Q = zR 34 43 [l0, l1, l2, l3, l4] (.inl 1 :: st) w Q := zR_go (zst zT_34_42 rfl)
theorem zT_34_43 : zT 34 43 = some (.iadd, 1, 0, []) := by decide +kernel
theorem zr_34_43 {l0 l1 l2 l3 l4 : Option zV} {x y : Int} {st : List zV} {w : zW} {Q : Option zV → zW → Prop}  : zR 34 43 [l0, l1, l2, l3, l4] (.inl y :: .inl x :: st) w Q = zR 34 44 [l0, l1, l2, l3, l4] (.inl (x + y) :: st) w Q := zR_go (zst zT_34_43 rfl)
theorem zT_34_44 : zT 34 44 = some (.putfield 155, 3, 0, [(11, 41)]) := by decide +kernel
theorem zr_34_44 {l0 l1 l2 l3 l4 : Option zV} {h : Nat} {x : Int} {st : List zV} {w : zW} {Q : Option zV → zW → Prop} (hk : zk w h = 11) : zR 34 44 [l0, l1, l2, l3, l4] (.inl x :: .inr (some h) :: st) w Q = zR 34 47 [l0, l1, l2, l3, l4] st (zsf w 113 h x) Q := zR_go (zst zT_34_44 (zput_i hk rfl))
theorem zT_34_47 : zT 34 47 = some (.aload_n 0, 1, 0, []) := by decide +kernel
theorem zr_34_47 {l1 l2 l3 l4 : Option zV} {x : Option Nat} {st : List zV} {w : zW} {Q : Option zV → zW → Prop}  : zR 34 47 [some (.inr x), l1, l2, l3, l4] st w Q = zR 34 48 [some (.inr x), l1, l2, l3, l4] (.inr x :: st) w Q := zR_go (zst zT_34_47 rfl)
theorem zT_34_48 : zT 34 48 = some (.getfield 119, 3, 0, [(11, 42)]) := by decide +kernel
theorem zr_34_48 {l0 l1 l2 l3 l4 : Option zV} {h : Nat} {st : List zV} {w : zW} {Q : Option zV → zW → Prop} (hk : zk w h = 11) : zR 34 48 [l0, l1, l2, l3, l4] (.inr (some h) :: st) w Q = zR 34 51 [l0, l1, l2, l3, l4] (.inr (zp w 114 h) :: st) w Q := zR_go (zst zT_34_48 (zget_r hk rfl))
theorem zT_34_51 : zT 34 51 = some (.iload_n 3, 1, 0, []) := by decide +kernel
theorem zr_34_51 {l0 l1 l2 l4 : Option zV} {x : Int} {st : List zV} {w : zW} {Q : Option zV → zW → Prop}  : zR 34 51 [l0, l1, l2, some (.inl x), l4] st w Q = zR 34 52 [l0, l1, l2, some (.inl x), l4] (.inl x :: st) w Q := zR_go (zst zT_34_51 rfl)
theorem zT_34_52 : zT 34 52 = some (.iload_n 1, 1, 0, []) := by decide +kernel
theorem zr_34_52 {l0 l2 l3 l4 : Option zV} {x : Int} {st : List zV} {w : zW} {Q : Option zV → zW → Prop}  : zR 34 52 [l0, some (.inl x), l2, l3, l4] st w Q = zR 34 53 [l0, some (.inl x), l2, l3, l4] (.inl x :: st) w Q := zR_go (zst zT_34_52 rfl)
theorem zT_34_53 : zT 34 53 = some (.iastore, 1, 0, []) := by decide +kernel
theorem zr_34_53 {l0 l1 l2 l3 l4 : Option zV} {j x : Int} {h : Nat} {st : List zV} {w : zW} {Q : Option zV → zW → Prop} (hk : zk w h = zNC ∧ 0 ≤ zN j ∧ zN j < zl w h) : zR 34 53 [l0, l1, l2, l3, l4] (.inl x :: .inl j :: .inr (some h) :: st) w Q = zR 34 54 [l0, l1, l2, l3, l4] st (zsa w h (zN j).toNat x) Q := zR_go (zst zT_34_53 (if_pos hk))
theorem zT_34_54 : zT 34 54 = some (.aload_n 0, 1, 0, []) := by decide +kernel
theorem zr_34_54 {l1 l2 l3 l4 : Option zV} {x : Option Nat} {st : List zV} {w : zW} {Q : Option zV → zW → Prop}  : zR 34 54 [some (.inr x), l1, l2, l3, l4] st w Q = zR 34 55 [some (.inr x), l1, l2, l3, l4] (.inr x :: st) w Q := zR_go (zst zT_34_54 rfl)
theorem zT_34_55 : zT 34 55 = some (.getfield 122, 3, 0, [(11, 43)]) := by decide +kernel
theorem zr_34_55 {l0 l1 l2 l3 l4 : Option zV} {h : Nat} {st : List zV} {w : zW} {Q : Option zV → zW → Prop} (hk : zk w h = 11) : zR 34 55 [l0, l1, l2, l3, l4] (.inr (some h) :: st) w Q = zR 34 58 [l0, l1, l2, l3, l4] (.inr (zp w 115 h) :: st) w Q := zR_go (zst zT_34_55 (zget_r hk rfl))
theorem zT_34_58 : zT 34 58 = some (.iload_n 3, 1, 0, []) := by decide +kernel
theorem zr_34_58 {l0 l1 l2 l4 : Option zV} {x : Int} {st : List zV} {w : zW} {Q : Option zV → zW → Prop}  : zR 34 58 [l0, l1, l2, some (.inl x), l4] st w Q = zR 34 59 [l0, l1, l2, some (.inl x), l4] (.inl x :: st) w Q := zR_go (zst zT_34_58 rfl)
theorem zT_34_59 : zT 34 59 = some (.iload_n 2, 1, 0, []) := by decide +kernel
theorem zr_34_59 {l0 l1 l3 l4 : Option zV} {x : Int} {st : List zV} {w : zW} {Q : Option zV → zW → Prop}  : zR 34 59 [l0, l1, some (.inl x), l3, l4] st w Q = zR 34 60 [l0, l1, some (.inl x), l3, l4] (.inl x :: st) w Q := zR_go (zst zT_34_59 rfl)
theorem zT_34_60 : zT 34 60 = some (.iastore, 1, 0, []) := by decide +kernel
theorem zr_34_60 {l0 l1 l2 l3 l4 : Option zV} {j x : Int} {h : Nat} {st : List zV} {w : zW} {Q : Option zV → zW → Prop} (hk : zk w h = zNC ∧ 0 ≤ zN j ∧ zN j < zl w h) : zR 34 60 [l0, l1, l2, l3, l4] (.inl x :: .inl j :: .inr (some h) :: st) w Q = zR 34 61 [l0, l1, l2, l3, l4] st (zsa w h (zN j).toNat x) Q := zR_go (zst zT_34_60 (if_pos hk))
theorem zT_34_61 : zT 34 61 = some (.iconst 0, 1, 0, []) := by decide +kernel
theorem zr_34_61 {l0 l1 l2 l3 l4 : Option zV} {st : List zV} {w : zW} {Q : Option zV → zW → Prop}  : zR 34 61 [l0, l1, l2, l3, l4] st w Q = zR 34 62 [l0, l1, l2, l3, l4] (.inl 0 :: st) w Q := zR_go (zst zT_34_61 rfl)
theorem zT_34_62 : zT 34 62 = some (.istore 4, 2, 0, []) := by decide +kernel
theorem zr_34_62 {l0 l1 l2 l3 l4 : Option zV} {x : Int} {st : List zV} {w : zW} {Q : Option zV → zW → Prop}  : zR 34 62 [l0, l1, l2, l3, l4] (.inl x :: st) w Q = zR 34 64 [l0, l1, l2, l3, some (.inl x)] st w Q := zR_go (zst zT_34_62 rfl)
theorem zT_34_64 : zT 34 64 = some (.iload 4, 2, 0, []) := by decide +kernel
theorem zr_34_64 {l0 l1 l2 l3 : Option zV} {x : Int} {st : List zV} {w : zW} {Q : Option zV → zW → Prop}  : zR 34 64 [l0, l1, l2, l3, some (.inl x)] st w Q = zR 34 66 [l0, l1, l2, l3, some (.inl x)] (.inl x :: st) w Q := zR_go (zst zT_34_64 rfl)
theorem zT_34_66 : zT 34 66 = some (.iload_n 2, 1, 0, []) := by decide +kernel
theorem zr_34_66 {l0 l1 l3 l4 : Option zV} {x : Int} {st : List zV} {w : zW} {Q : Option zV → zW → Prop}  : zR 34 66 [l0, l1, some (.inl x), l3, l4] st w Q = zR 34 67 [l0, l1, some (.inl x), l3, l4] (.inl x :: st) w Q := zR_go (zst zT_34_66 rfl)
theorem zT_34_67 : zT 34 67 = some (.if_icmp .ge 28, 3, 0, []) := by decide +kernel
theorem zr_34_67 {l0 l1 l2 l3 l4 : Option zV} {x y : Int} {st : List zV} {w : zW} {Q : Option zV → zW → Prop}  : zR 34 67 [l0, l1, l2, l3, l4] (.inl y :: .inl x :: st) w Q = (if zN y ≤ zN x then zR 34 95 [l0, l1, l2, l3, l4] st w Q else zR 34 70 [l0, l1, l2, l3, l4] st w Q) := zR_if (zstB zT_34_67 rfl) (by simp [zcmp])
theorem zT_34_70 : zT 34 70 = some (.aload_n 0, 1, 0, []) := by decide +kernel
theorem zr_34_70 {l1 l2 l3 l4 : Option zV} {x : Option Nat} {st : List zV} {w : zW} {Q : Option zV → zW → Prop}  : zR 34 70 [some (.inr x), l1, l2, l3, l4] st w Q = zR 34 71 [some (.inr x), l1, l2, l3, l4] (.inr x :: st) w Q := zR_go (zst zT_34_70 rfl)
theorem zT_34_71 : zT 34 71 = some (.getfield 125, 3, 0, [(11, 44)]) := by decide +kernel
theorem zr_34_71 {l0 l1 l2 l3 l4 : Option zV} {h : Nat} {st : List zV} {w : zW} {Q : Option zV → zW → Prop} (hk : zk w h = 11) : zR 34 71 [l0, l1, l2, l3, l4] (.inr (some h) :: st) w Q = zR 34 74 [l0, l1, l2, l3, l4] (.inr (zp w 116 h) :: st) w Q := zR_go (zst zT_34_71 (zget_r hk rfl))
theorem zT_34_74 : zT 34 74 = some (.bipush 32, 2, 0, []) := by decide +kernel
theorem zr_34_74 {l0 l1 l2 l3 l4 : Option zV} {st : List zV} {w : zW} {Q : Option zV → zW → Prop}  : zR 34 74 [l0, l1, l2, l3, l4] st w Q = zR 34 76 [l0, l1, l2, l3, l4] (.inl 32 :: st) w Q := zR_go (zst zT_34_74 rfl)
theorem zT_34_76 : zT 34 76 = some (.iload_n 3, 1, 0, []) := by decide +kernel
theorem zr_34_76 {l0 l1 l2 l4 : Option zV} {x : Int} {st : List zV} {w : zW} {Q : Option zV → zW → Prop}  : zR 34 76 [l0, l1, l2, some (.inl x), l4] st w Q = zR 34 77 [l0, l1, l2, some (.inl x), l4] (.inl x :: st) w Q := zR_go (zst zT_34_76 rfl)
theorem zT_34_77 : zT 34 77 = some (.imul, 1, 0, []) := by decide +kernel
theorem zr_34_77 {l0 l1 l2 l3 l4 : Option zV} {x y : Int} {st : List zV} {w : zW} {Q : Option zV → zW → Prop}  : zR 34 77 [l0, l1, l2, l3, l4] (.inl y :: .inl x :: st) w Q = zR 34 78 [l0, l1, l2, l3, l4] (.inl (x * y) :: st) w Q := zR_go (zst zT_34_77 rfl)
theorem zT_34_78 : zT 34 78 = some (.iload 4, 2, 0, []) := by decide +kernel
theorem zr_34_78 {l0 l1 l2 l3 : Option zV} {x : Int} {st : List zV} {w : zW} {Q : Option zV → zW → Prop}  : zR 34 78 [l0, l1, l2, l3, some (.inl x)] st w Q = zR 34 80 [l0, l1, l2, l3, some (.inl x)] (.inl x :: st) w Q := zR_go (zst zT_34_78 rfl)
theorem zT_34_80 : zT 34 80 = some (.iadd, 1, 0, []) := by decide +kernel
theorem zr_34_80 {l0 l1 l2 l3 l4 : Option zV} {x y : Int} {st : List zV} {w : zW} {Q : Option zV → zW → Prop}  : zR 34 80 [l0, l1, l2, l3, l4] (.inl y :: .inl x :: st) w Q = zR 34 81 [l0, l1, l2, l3, l4] (.inl (x + y) :: st) w Q := zR_go (zst zT_34_80 rfl)
theorem zT_34_81 : zT 34 81 = some (.aload_n 0, 1, 0, []) := by decide +kernel
theorem zr_34_81 {l1 l2 l3 l4 : Option zV} {x : Option Nat} {st : List zV} {w : zW} {Q : Option zV → zW → Prop}  : zR 34 81 [some (.inr x), l1, l2, l3, l4] st w Q = zR 34 82 [some (.inr x), l1, l2, l3, l4] (.inr x :: st) w Q := zR_go (zst zT_34_81 rfl)
theorem zT_34_82 : zT 34 82 = some (.getfield 116, 3, 0, [(11, 40)]) := by decide +kernel
theorem zr_34_82 {l0 l1 l2 l3 l4 : Option zV} {h : Nat} {st : List zV} {w : zW} {Q : Option zV → zW → Prop} (hk : zk w h = 11) : zR 34 82 [l0, l1, l2, l3, l4] (.inr (some h) :: st) w Q = zR 34 85 [l0, l1, l2, l3, l4] (.inr (zp w 112 h) :: st) w Q := zR_go (zst zT_34_82 (zget_r hk rfl))
theorem zT_34_85 : zT 34 85 = some (.iload 4, 2, 0, []) := by decide +kernel
theorem zr_34_85 {l0 l1 l2 l3 : Option zV} {x : Int} {st : List zV} {w : zW} {Q : Option zV → zW → Prop}  : zR 34 85 [l0, l1, l2, l3, some (.inl x)] st w Q = zR 34 87 [l0, l1, l2, l3, some (.inl x)] (.inl x :: st) w Q := zR_go (zst zT_34_85 rfl)
theorem zT_34_87 : zT 34 87 = some (.iaload, 1, 0, []) := by decide +kernel
theorem zr_34_87 {l0 l1 l2 l3 l4 : Option zV} {j : Int} {h : Nat} {st : List zV} {w : zW} {Q : Option zV → zW → Prop} (hk : (zk w h = zNC ∨ zk w h = zNC + 2) ∧ 0 ≤ zN j ∧ zN j < zl w h) : zR 34 87 [l0, l1, l2, l3, l4] (.inl j :: .inr (some h) :: st) w Q = zR 34 88 [l0, l1, l2, l3, l4] (.inl (za w h (zN j).toNat) :: st) w Q := zR_go (zst zT_34_87 (if_pos hk))
theorem zT_34_88 : zT 34 88 = some (.iastore, 1, 0, []) := by decide +kernel
theorem zr_34_88 {l0 l1 l2 l3 l4 : Option zV} {j x : Int} {h : Nat} {st : List zV} {w : zW} {Q : Option zV → zW → Prop} (hk : zk w h = zNC ∧ 0 ≤ zN j ∧ zN j < zl w h) : zR 34 88 [l0, l1, l2, l3, l4] (.inl x :: .inl j :: .inr (some h) :: st) w Q = zR 34 89 [l0, l1, l2, l3, l4] st (zsa w h (zN j).toNat x) Q := zR_go (zst zT_34_88 (if_pos hk))
theorem zT_34_89 : zT 34 89 = some (.iinc 4 1, 3, 0, []) := by decide +kernel
theorem zr_34_89 {l0 l1 l2 l3 : Option zV} {x : Int} {st : List zV} {w : zW} {Q : Option zV → zW → Prop}  : zR 34 89 [l0, l1, l2, l3, some (.inl x)] st w Q = zR 34 92 [l0, l1, l2, l3, some (.inl (x + 1))] st w Q := zR_go (zst zT_34_89 rfl)
theorem zT_34_92 : zT 34 92 = some (.goto (-28), 3, 0, []) := by decide +kernel
theorem zr_34_92 {l0 l1 l2 l3 l4 : Option zV} {st : List zV} {w : zW} {Q : Option zV → zW → Prop}  : zR 34 92 [l0, l1, l2, l3, l4] st w Q = zR 34 64 [l0, l1, l2, l3, l4] st w Q := zR_go (zst zT_34_92 rfl)
theorem zT_34_95 : zT 34 95 = some (.aload_n 0, 1, 0, []) := by decide +kernel
theorem zr_34_95 {l1 l2 l3 l4 : Option zV} {x : Option Nat} {st : List zV} {w : zW} {Q : Option zV → zW → Prop}  : zR 34 95 [some (.inr x), l1, l2, l3, l4] st w Q = zR 34 96 [some (.inr x), l1, l2, l3, l4] (.inr x :: st) w Q := zR_go (zst zT_34_95 rfl)
theorem zT_34_96 : zT 34 96 = some (.getfield 128, 3, 0, [(11, 45)]) := by decide +kernel
theorem zr_34_96 {l0 l1 l2 l3 l4 : Option zV} {h : Nat} {st : List zV} {w : zW} {Q : Option zV → zW → Prop} (hk : zk w h = 11) : zR 34 96 [l0, l1, l2, l3, l4] (.inr (some h) :: st) w Q = zR 34 99 [l0, l1, l2, l3, l4] (.inr (zp w 117 h) :: st) w Q := zR_go (zst zT_34_96 (zget_r hk rfl))
theorem zT_34_99 : zT 34 99 = some (.iload_n 3, 1, 0, []) := by decide +kernel
theorem zr_34_99 {l0 l1 l2 l4 : Option zV} {x : Int} {st : List zV} {w : zW} {Q : Option zV → zW → Prop}  : zR 34 99 [l0, l1, l2, some (.inl x), l4] st w Q = zR 34 100 [l0, l1, l2, some (.inl x), l4] (.inl x :: st) w Q := zR_go (zst zT_34_99 rfl)
theorem zT_34_100 : zT 34 100 = some (.iconst 1, 1, 0, []) := by decide +kernel
theorem zr_34_100 {l0 l1 l2 l3 l4 : Option zV} {st : List zV} {w : zW} {Q : Option zV → zW → Prop}  : zR 34 100 [l0, l1, l2, l3, l4] st w Q = zR 34 101 [l0, l1, l2, l3, l4] (.inl 1 :: st) w Q := zR_go (zst zT_34_100 rfl)
theorem zT_34_101 : zT 34 101 = some (.iastore, 1, 0, []) := by decide +kernel
theorem zr_34_101 {l0 l1 l2 l3 l4 : Option zV} {j x : Int} {h : Nat} {st : List zV} {w : zW} {Q : Option zV → zW → Prop} (hk : zk w h = zNC ∧ 0 ≤ zN j ∧ zN j < zl w h) : zR 34 101 [l0, l1, l2, l3, l4] (.inl x :: .inl j :: .inr (some h) :: st) w Q = zR 34 102 [l0, l1, l2, l3, l4] st (zsa w h (zN j).toNat x) Q := zR_go (zst zT_34_101 (if_pos hk))
theorem zT_34_102 : zT 34 102 = some (.aload_n 0, 1, 0, []) := by decide +kernel
theorem zr_34_102 {l1 l2 l3 l4 : Option zV} {x : Option Nat} {st : List zV} {w : zW} {Q : Option zV → zW → Prop}  : zR 34 102 [some (.inr x), l1, l2, l3, l4] st w Q = zR 34 103 [some (.inr x), l1, l2, l3, l4] (.inr x :: st) w Q := zR_go (zst zT_34_102 rfl)
theorem zT_34_103 : zT 34 103 = some (.getfield 131, 3, 0, [(11, 46)]) := by decide +kernel
theorem zr_34_103 {l0 l1 l2 l3 l4 : Option zV} {h : Nat} {st : List zV} {w : zW} {Q : Option zV → zW → Prop} (hk : zk w h = 11) : zR 34 103 [l0, l1, l2, l3, l4] (.inr (some h) :: st) w Q = zR 34 106 [l0, l1, l2, l3, l4] (.inr (zp w 118 h) :: st) w Q := zR_go (zst zT_34_103 (zget_r hk rfl))
theorem zT_34_106 : zT 34 106 = some (.iload_n 3, 1, 0, []) := by decide +kernel
theorem zr_34_106 {l0 l1 l2 l4 : Option zV} {x : Int} {st : List zV} {w : zW} {Q : Option zV → zW → Prop}  : zR 34 106 [l0, l1, l2, some (.inl x), l4] st w Q = zR 34 107 [l0, l1, l2, some (.inl x), l4] (.inl x :: st) w Q := zR_go (zst zT_34_106 rfl)
theorem zT_34_107 : zT 34 107 = some (.bipush 30, 2, 0, []) := by decide +kernel
theorem zr_34_107 {l0 l1 l2 l3 l4 : Option zV} {st : List zV} {w : zW} {Q : Option zV → zW → Prop}  : zR 34 107 [l0, l1, l2, l3, l4] st w Q = zR 34 109 [l0, l1, l2, l3, l4] (.inl 30 :: st) w Q := zR_go (zst zT_34_107 rfl)
theorem zT_34_109 : zT 34 109 = some (.iastore, 1, 0, []) := by decide +kernel
theorem zr_34_109 {l0 l1 l2 l3 l4 : Option zV} {j x : Int} {h : Nat} {st : List zV} {w : zW} {Q : Option zV → zW → Prop} (hk : zk w h = zNC ∧ 0 ≤ zN j ∧ zN j < zl w h) : zR 34 109 [l0, l1, l2, l3, l4] (.inl x :: .inl j :: .inr (some h) :: st) w Q = zR 34 110 [l0, l1, l2, l3, l4] st (zsa w h (zN j).toNat x) Q := zR_go (zst zT_34_109 (if_pos hk))
theorem zT_34_110 : zT 34 110 = some (.aload_n 0, 1, 0, []) := by decide +kernel
theorem zr_34_110 {l1 l2 l3 l4 : Option zV} {x : Option Nat} {st : List zV} {w : zW} {Q : Option zV → zW → Prop}  : zR 34 110 [some (.inr x), l1, l2, l3, l4] st w Q = zR 34 111 [some (.inr x), l1, l2, l3, l4] (.inr x :: st) w Q := zR_go (zst zT_34_110 rfl)
theorem zT_34_111 : zT 34 111 = some (.getfield 134, 3, 0, [(11, 47)]) := by decide +kernel
theorem zr_34_111 {l0 l1 l2 l3 l4 : Option zV} {h : Nat} {st : List zV} {w : zW} {Q : Option zV → zW → Prop} (hk : zk w h = 11) : zR 34 111 [l0, l1, l2, l3, l4] (.inr (some h) :: st) w Q = zR 34 114 [l0, l1, l2, l3, l4] (.inr (zp w 119 h) :: st) w Q := zR_go (zst zT_34_111 (zget_r hk rfl))
theorem zT_34_114 : zT 34 114 = some (.iload_n 3, 1, 0, []) := by decide +kernel
theorem zr_34_114 {l0 l1 l2 l4 : Option zV} {x : Int} {st : List zV} {w : zW} {Q : Option zV → zW → Prop}  : zR 34 114 [l0, l1, l2, some (.inl x), l4] st w Q = zR 34 115 [l0, l1, l2, some (.inl x), l4] (.inl x :: st) w Q := zR_go (zst zT_34_114 rfl)
theorem zT_34_115 : zT 34 115 = some (.iconst 1, 1, 0, []) := by decide +kernel
theorem zr_34_115 {l0 l1 l2 l3 l4 : Option zV} {st : List zV} {w : zW} {Q : Option zV → zW → Prop}  : zR 34 115 [l0, l1, l2, l3, l4] st w Q = zR 34 116 [l0, l1, l2, l3, l4] (.inl 1 :: st) w Q := zR_go (zst zT_34_115 rfl)
theorem zT_34_116 : zT 34 116 = some (.iastore, 1, 0, []) := by decide +kernel
theorem zr_34_116 {l0 l1 l2 l3 l4 : Option zV} {j x : Int} {h : Nat} {st : List zV} {w : zW} {Q : Option zV → zW → Prop} (hk : zk w h = zNC ∧ 0 ≤ zN j ∧ zN j < zl w h) : zR 34 116 [l0, l1, l2, l3, l4] (.inl x :: .inl j :: .inr (some h) :: st) w Q = zR 34 117 [l0, l1, l2, l3, l4] st (zsa w h (zN j).toNat x) Q := zR_go (zst zT_34_116 (if_pos hk))
theorem zT_34_117 : zT 34 117 = some (.aload_n 0, 1, 0, []) := by decide +kernel
theorem zr_34_117 {l1 l2 l3 l4 : Option zV} {x : Option Nat} {st : List zV} {w : zW} {Q : Option zV → zW → Prop}  : zR 34 117 [some (.inr x), l1, l2, l3, l4] st w Q = zR 34 118 [some (.inr x), l1, l2, l3, l4] (.inr x :: st) w Q := zR_go (zst zT_34_117 rfl)
theorem zT_34_118 : zT 34 118 = some (.iload_n 3, 1, 0, []) := by decide +kernel
theorem zr_34_118 {l0 l1 l2 l4 : Option zV} {x : Int} {st : List zV} {w : zW} {Q : Option zV → zW → Prop}  : zR 34 118 [l0, l1, l2, some (.inl x), l4] st w Q = zR 34 119 [l0, l1, l2, some (.inl x), l4] (.inl x :: st) w Q := zR_go (zst zT_34_118 rfl)
theorem zT_34_119 : zT 34 119 = some (.invokevirtual 159, 3, 1, [(11, 35)]) := by decide +kernel
theorem zr_34_119 {l0 l1 l2 l3 l4 : Option zV} {a0 : zV} {h : Nat} {st : List zV} {w : zW} {Q : Option zV → zW → Prop} (hs : st.length ≤ 8) (hk : zk w h = 11) : zR 34 119 [l0, l1, l2, l3, l4] (a0 :: .inr (some h) :: st) w Q = zR 35 0 [some (.inr (some h)), some a0, none] [] w (fun r w2 => zR 34 122 [l0, l1, l2, l3, l4] (r.toList ++ st) w2 Q) := zR_call (zst zT_34_119 (zcall_v [a0] rfl hs hk rfl))
theorem zT_34_122 : zT 34 122 = some (.iload_n 3, 1, 0, []) := by decide +kernel
theorem zr_34_122 {l0 l1 l2 l4 : Option zV} {x : Int} {st : List zV} {w : zW} {Q : Option zV → zW → Prop}  : zR 34 122 [l0, l1, l2, some (.inl x), l4] st w Q = zR 34 123 [l0, l1, l2, some (.inl x), l4] (.inl x :: st) w Q := zR_go (zst zT_34_122 rfl)
theorem zT_34_123 : zT 34 123 = some (.ireturn, 1, 0, []) := by decide +kernel
theorem zr_34_123 {l0 l1 l2 l3 l4 : Option zV} {x : Int} {w : zW} {Q : Option zV → zW → Prop}  : zR 34 123 [l0, l1, l2, l3, l4] [.inl x] w Q = Q (some (.inl x)) w := zR_ret (zst zT_34_123 rfl)
theorem zT_35_0 : zT 35 0 = some (.aload_n 0, 1, 0, []) := by decide +kernel
theorem zr_35_0 {l1 l2 : Option zV} {x : Option Nat} {st : List zV} {w : zW} {Q : Option zV → zW → Prop}  : zR 35 0 [some (.inr x), l1, l2] st w Q = zR 35 1 [some (.inr x), l1, l2] (.inr x :: st) w Q := zR_go (zst zT_35_0 rfl)
theorem zT_35_1 : zT 35 1 = some (.aload_n 0, 1, 0, []) := by decide +kernel
theorem zr_35_1 {l1 l2 : Option zV} {x : Option Nat} {st : List zV} {w : zW} {Q : Option zV → zW → Prop}  : zR 35 1 [some (.inr x), l1, l2] st w Q = zR 35 2 [some (.inr x), l1, l2] (.inr x :: st) w Q := zR_go (zst zT_35_1 rfl)
theorem zT_35_2 : zT 35 2 = some (.getfield 122, 3, 0, [(11, 43)]) := by decide +kernel
theorem zr_35_2 {l0 l1 l2 : Option zV} {h : Nat} {st : List zV} {w : zW} {Q : Option zV → zW → Prop} (hk : zk w h = 11) : zR 35 2 [l0, l1, l2] (.inr (some h) :: st) w Q = zR 35 5 [l0, l1, l2] (.inr (zp w 115 h) :: st) w Q := zR_go (zst zT_35_2 (zget_r hk rfl))
theorem zT_35_5 : zT 35 5 = some (.iload_n 1, 1, 0, []) := by decide +kernel
theorem zr_35_5 {l0 l2 : Option zV} {x : Int} {st : List zV} {w : zW} {Q : Option zV → zW → Prop}  : zR 35 5 [l0, some (.inl x), l2] st w Q = zR 35 6 [l0, some (.inl x), l2] (.inl x :: st) w Q := zR_go (zst zT_35_5 rfl)
theorem zT_35_6 : zT 35 6 = some (.iaload, 1, 0, []) := by decide +kernel
theorem zr_35_6 {l0 l1 l2 : Option zV} {j : Int} {h : Nat} {st : List zV} {w : zW} {Q : Option zV → zW → Prop} (hk : (zk w h = zNC ∨ zk w h = zNC + 2) ∧ 0 ≤ zN j ∧ zN j < zl w h) : zR 35 6 [l0, l1, l2] (.inl j :: .inr (some h) :: st) w Q = zR 35 7 [l0, l1, l2] (.inl (za w h (zN j).toNat) :: st) w Q := zR_go (zst zT_35_6 (if_pos hk))
theorem zT_35_7 : zT 35 7 = some (.putfield 163, 3, 0, [(11, 39)]) := by decide +kernel
theorem zr_35_7 {l0 l1 l2 : Option zV} {h : Nat} {x : Int} {st : List zV} {w : zW} {Q : Option zV → zW → Prop} (hk : zk w h = 11) : zR 35 7 [l0, l1, l2] (.inl x :: .inr (some h) :: st) w Q = zR 35 10 [l0, l1, l2] st (zsf w 111 h x) Q := zR_go (zst zT_35_7 (zput_i hk rfl))
theorem zT_35_10 : zT 35 10 = some (.iconst 0, 1, 0, []) := by decide +kernel
theorem zr_35_10 {l0 l1 l2 : Option zV} {st : List zV} {w : zW} {Q : Option zV → zW → Prop}  : zR 35 10 [l0, l1, l2] st w Q = zR 35 11 [l0, l1, l2] (.inl 0 :: st) w Q := zR_go (zst zT_35_10 rfl)
theorem zT_35_11 : zT 35 11 = some (.istore_n 2, 1, 0, []) := by decide +kernel
theorem zr_35_11 {l0 l1 l2 : Option zV} {x : Int} {st : List zV} {w : zW} {Q : Option zV → zW → Prop}  : zR 35 11 [l0, l1, l2] (.inl x :: st) w Q = zR 35 12 [l0, l1, some (.inl x)] st w Q := zR_go (zst zT_35_11 rfl)
theorem zT_35_12 : zT 35 12 = some (.iload_n 2, 1, 0, []) := by decide +kernel
theorem zr_35_12 {l0 l1 : Option zV} {x : Int} {st : List zV} {w : zW} {Q : Option zV → zW → Prop}  : zR 35 12 [l0, l1, some (.inl x)] st w Q = zR 35 13 [l0, l1, some (.inl x)] (.inl x :: st) w Q := zR_go (zst zT_35_12 rfl)
theorem zT_35_13 : zT 35 13 = some (.aload_n 0, 1, 0, []) := by decide +kernel
theorem zr_35_13 {l1 l2 : Option zV} {x : Option Nat} {st : List zV} {w : zW} {Q : Option zV → zW → Prop}  : zR 35 13 [some (.inr x), l1, l2] st w Q = zR 35 14 [some (.inr x), l1, l2] (.inr x :: st) w Q := zR_go (zst zT_35_13 rfl)
theorem zT_35_14 : zT 35 14 = some (.getfield 163, 3, 0, [(11, 39)]) := by decide +kernel
theorem zr_35_14 {l0 l1 l2 : Option zV} {h : Nat} {st : List zV} {w : zW} {Q : Option zV → zW → Prop} (hk : zk w h = 11) : zR 35 14 [l0, l1, l2] (.inr (some h) :: st) w Q = zR 35 17 [l0, l1, l2] (.inl (zf w 111 h) :: st) w Q := zR_go (zst zT_35_14 (zget_i hk (Or.inl rfl)))
theorem zT_35_17 : zT 35 17 = some (.if_icmp .ge 26, 3, 0, []) := by decide +kernel
theorem zr_35_17 {l0 l1 l2 : Option zV} {x y : Int} {st : List zV} {w : zW} {Q : Option zV → zW → Prop}  : zR 35 17 [l0, l1, l2] (.inl y :: .inl x :: st) w Q = (if zN y ≤ zN x then zR 35 43 [l0, l1, l2] st w Q else zR 35 20 [l0, l1, l2] st w Q) := zR_if (zstB zT_35_17 rfl) (by simp [zcmp])
theorem zT_35_20 : zT 35 20 = some (.aload_n 0, 1, 0, []) := by decide +kernel
theorem zr_35_20 {l1 l2 : Option zV} {x : Option Nat} {st : List zV} {w : zW} {Q : Option zV → zW → Prop}  : zR 35 20 [some (.inr x), l1, l2] st w Q = zR 35 21 [some (.inr x), l1, l2] (.inr x :: st) w Q := zR_go (zst zT_35_20 rfl)
theorem zT_35_21 : zT 35 21 = some (.getfield 113, 3, 0, [(11, 38)]) := by decide +kernel
theorem zr_35_21 {l0 l1 l2 : Option zV} {h : Nat} {st : List zV} {w : zW} {Q : Option zV → zW → Prop} (hk : zk w h = 11) : zR 35 21 [l0, l1, l2] (.inr (some h) :: st) w Q = zR 35 24 [l0, l1, l2] (.inr (zp w 110 h) :: st) w Q := zR_go (zst zT_35_21 (zget_r hk rfl))
theorem zT_35_24 : zT 35 24 = some (.iload_n 2, 1, 0, []) := by decide +kernel
theorem zr_35_24 {l0 l1 : Option zV} {x : Int} {st : List zV} {w : zW} {Q : Option zV → zW → Prop}  : zR 35 24 [l0, l1, some (.inl x)] st w Q = zR 35 25 [l0, l1, some (.inl x)] (.inl x :: st) w Q := zR_go (zst zT_35_24 rfl)
theorem zT_35_25 : zT 35 25 = some (.aload_n 0, 1, 0, []) := by decide +kernel
theorem zr_35_25 {l1 l2 : Option zV} {x : Option Nat} {st : List zV} {w : zW} {Q : Option zV → zW → Prop}  : zR 35 25 [some (.inr x), l1, l2] st w Q = zR 35 26 [some (.inr x), l1, l2] (.inr x :: st) w Q := zR_go (zst zT_35_25 rfl)
theorem zT_35_26 : zT 35 26 = some (.getfield 125, 3, 0, [(11, 44)]) := by decide +kernel
theorem zr_35_26 {l0 l1 l2 : Option zV} {h : Nat} {st : List zV} {w : zW} {Q : Option zV → zW → Prop} (hk : zk w h = 11) : zR 35 26 [l0, l1, l2] (.inr (some h) :: st) w Q = zR 35 29 [l0, l1, l2] (.inr (zp w 116 h) :: st) w Q := zR_go (zst zT_35_26 (zget_r hk rfl))
theorem zT_35_29 : zT 35 29 = some (.bipush 32, 2, 0, []) := by decide +kernel
theorem zr_35_29 {l0 l1 l2 : Option zV} {st : List zV} {w : zW} {Q : Option zV → zW → Prop}  : zR 35 29 [l0, l1, l2] st w Q = zR 35 31 [l0, l1, l2] (.inl 32 :: st) w Q := zR_go (zst zT_35_29 rfl)
theorem zT_35_31 : zT 35 31 = some (.iload_n 1, 1, 0, []) := by decide +kernel
theorem zr_35_31 {l0 l2 : Option zV} {x : Int} {st : List zV} {w : zW} {Q : Option zV → zW → Prop}  : zR 35 31 [l0, some (.inl x), l2] st w Q = zR 35 32 [l0, some (.inl x), l2] (.inl x :: st) w Q := zR_go (zst zT_35_31 rfl)
theorem zT_35_32 : zT 35 32 = some (.imul, 1, 0, []) := by decide +kernel
theorem zr_35_32 {l0 l1 l2 : Option zV} {x y : Int} {st : List zV} {w : zW} {Q : Option zV → zW → Prop}  : zR 35 32 [l0, l1, l2] (.inl y :: .inl x :: st) w Q = zR 35 33 [l0, l1, l2] (.inl (x * y) :: st) w Q := zR_go (zst zT_35_32 rfl)
theorem zT_35_33 : zT 35 33 = some (.iload_n 2, 1, 0, []) := by decide +kernel
theorem zr_35_33 {l0 l1 : Option zV} {x : Int} {st : List zV} {w : zW} {Q : Option zV → zW → Prop}  : zR 35 33 [l0, l1, some (.inl x)] st w Q = zR 35 34 [l0, l1, some (.inl x)] (.inl x :: st) w Q := zR_go (zst zT_35_33 rfl)
theorem zT_35_34 : zT 35 34 = some (.iadd, 1, 0, []) := by decide +kernel
theorem zr_35_34 {l0 l1 l2 : Option zV} {x y : Int} {st : List zV} {w : zW} {Q : Option zV → zW → Prop}  : zR 35 34 [l0, l1, l2] (.inl y :: .inl x :: st) w Q = zR 35 35 [l0, l1, l2] (.inl (x + y) :: st) w Q := zR_go (zst zT_35_34 rfl)
theorem zT_35_35 : zT 35 35 = some (.iaload, 1, 0, []) := by decide +kernel
theorem zr_35_35 {l0 l1 l2 : Option zV} {j : Int} {h : Nat} {st : List zV} {w : zW} {Q : Option zV → zW → Prop} (hk : (zk w h = zNC ∨ zk w h = zNC + 2) ∧ 0 ≤ zN j ∧ zN j < zl w h) : zR 35 35 [l0, l1, l2] (.inl j :: .inr (some h) :: st) w Q = zR 35 36 [l0, l1, l2] (.inl (za w h (zN j).toNat) :: st) w Q := zR_go (zst zT_35_35 (if_pos hk))
theorem zT_35_36 : zT 35 36 = some (.iastore, 1, 0, []) := by decide +kernel
theorem zr_35_36 {l0 l1 l2 : Option zV} {j x : Int} {h : Nat} {st : List zV} {w : zW} {Q : Option zV → zW → Prop} (hk : zk w h = zNC ∧ 0 ≤ zN j ∧ zN j < zl w h) : zR 35 36 [l0, l1, l2] (.inl x :: .inl j :: .inr (some h) :: st) w Q = zR 35 37 [l0, l1, l2] st (zsa w h (zN j).toNat x) Q := zR_go (zst zT_35_36 (if_pos hk))
theorem zT_35_37 : zT 35 37 = some (.iinc 2 1, 3, 0, []) := by decide +kernel
theorem zr_35_37 {l0 l1 : Option zV} {x : Int} {st : List zV} {w : zW} {Q : Option zV → zW → Prop}  : zR 35 37 [l0, l1, some (.inl x)] st w Q = zR 35 40 [l0, l1, some (.inl (x + 1))] st w Q := zR_go (zst zT_35_37 rfl)
theorem zT_35_40 : zT 35 40 = some (.goto (-28), 3, 0, []) := by decide +kernel
theorem zr_35_40 {l0 l1 l2 : Option zV} {st : List zV} {w : zW} {Q : Option zV → zW → Prop}  : zR 35 40 [l0, l1, l2] st w Q = zR 35 12 [l0, l1, l2] st w Q := zR_go (zst zT_35_40 rfl)
theorem zT_35_43 : zT 35 43 = some (.aload_n 0, 1, 0, []) := by decide +kernel
theorem zr_35_43 {l1 l2 : Option zV} {x : Option Nat} {st : List zV} {w : zW} {Q : Option zV → zW → Prop}  : zR 35 43 [some (.inr x), l1, l2] st w Q = zR 35 44 [some (.inr x), l1, l2] (.inr x :: st) w Q := zR_go (zst zT_35_43 rfl)
theorem zT_35_44 : zT 35 44 = some (.iconst 0, 1, 0, []) := by decide +kernel
theorem zr_35_44 {l0 l1 l2 : Option zV} {st : List zV} {w : zW} {Q : Option zV → zW → Prop}  : zR 35 44 [l0, l1, l2] st w Q = zR 35 45 [l0, l1, l2] (.inl 0 :: st) w Q := zR_go (zst zT_35_44 rfl)
theorem zT_35_45 : zT 35 45 = some (.aload_n 0, 1, 0, []) := by decide +kernel
theorem zr_35_45 {l1 l2 : Option zV} {x : Option Nat} {st : List zV} {w : zW} {Q : Option zV → zW → Prop}  : zR 35 45 [some (.inr x), l1, l2] st w Q = zR 35 46 [some (.inr x), l1, l2] (.inr x :: st) w Q := zR_go (zst zT_35_45 rfl)
theorem zT_35_46 : zT 35 46 = some (.getfield 119, 3, 0, [(11, 42)]) := by decide +kernel
theorem zr_35_46 {l0 l1 l2 : Option zV} {h : Nat} {st : List zV} {w : zW} {Q : Option zV → zW → Prop} (hk : zk w h = 11) : zR 35 46 [l0, l1, l2] (.inr (some h) :: st) w Q = zR 35 49 [l0, l1, l2] (.inr (zp w 114 h) :: st) w Q := zR_go (zst zT_35_46 (zget_r hk rfl))
theorem zT_35_49 : zT 35 49 = some (.iload_n 1, 1, 0, []) := by decide +kernel
theorem zr_35_49 {l0 l2 : Option zV} {x : Int} {st : List zV} {w : zW} {Q : Option zV → zW → Prop}  : zR 35 49 [l0, some (.inl x), l2] st w Q = zR 35 50 [l0, some (.inl x), l2] (.inl x :: st) w Q := zR_go (zst zT_35_49 rfl)
theorem zT_35_50 : zT 35 50 = some (.iaload, 1, 0, []) := by decide +kernel
theorem zr_35_50 {l0 l1 l2 : Option zV} {j : Int} {h : Nat} {st : List zV} {w : zW} {Q : Option zV → zW → Prop} (hk : (zk w h = zNC ∨ zk w h = zNC + 2) ∧ 0 ≤ zN j ∧ zN j < zl w h) : zR 35 50 [l0, l1, l2] (.inl j :: .inr (some h) :: st) w Q = zR 35 51 [l0, l1, l2] (.inl (za w h (zN j).toNat) :: st) w Q := zR_go (zst zT_35_50 (if_pos hk))
theorem zT_35_51 : zT 35 51 = some (.bipush 8, 2, 0, []) := by decide +kernel
theorem zr_35_51 {l0 l1 l2 : Option zV} {st : List zV} {w : zW} {Q : Option zV → zW → Prop}  : zR 35 51 [l0, l1, l2] st w Q = zR 35 53 [l0, l1, l2] (.inl 8 :: st) w Q := zR_go (zst zT_35_51 rfl)
theorem zT_35_53 : zT 35 53 = some (.iload_n 1, 1, 0, []) := by decide +kernel
theorem zr_35_53 {l0 l2 : Option zV} {x : Int} {st : List zV} {w : zW} {Q : Option zV → zW → Prop}  : zR 35 53 [l0, some (.inl x), l2] st w Q = zR 35 54 [l0, some (.inl x), l2] (.inl x :: st) w Q := zR_go (zst zT_35_53 rfl)
theorem zT_35_54 : zT 35 54 = some (.bipush 8, 2, 0, []) := by decide +kernel
theorem zr_35_54 {l0 l1 l2 : Option zV} {st : List zV} {w : zW} {Q : Option zV → zW → Prop}  : zR 35 54 [l0, l1, l2] st w Q = zR 35 56 [l0, l1, l2] (.inl 8 :: st) w Q := zR_go (zst zT_35_54 rfl)
theorem zT_35_56 : zT 35 56 = some (.irem, 1, 0, []) := by decide +kernel
theorem zr_35_56 {l0 l1 l2 : Option zV} {x y : Int} {st : List zV} {w : zW} {Q : Option zV → zW → Prop} (hy : ¬ zN y = 0) : zR 35 56 [l0, l1, l2] (.inl y :: .inl x :: st) w Q = zR 35 57 [l0, l1, l2] (.inl (zo_rem x y) :: st) w Q := zR_go (zst zT_35_56 (if_neg hy))
theorem zT_35_57 : zT 35 57 = some (.iadd, 1, 0, []) := by decide +kernel
theorem zr_35_57 {l0 l1 l2 : Option zV} {x y : Int} {st : List zV} {w : zW} {Q : Option zV → zW → Prop}  : zR 35 57 [l0, l1, l2] (.inl y :: .inl x :: st) w Q = zR 35 58 [l0, l1, l2] (.inl (x + y) :: st) w Q := zR_go (zst zT_35_57 rfl)
theorem zT_35_58 : zT 35 58 = some (.invokevirtual 166, 3, 3, [(11, 37)]) := by decide +kernel
theorem zr_35_58 {l0 l1 l2 : Option zV} {a0 a1 a2 : zV} {h : Nat} {st : List zV} {w : zW} {Q : Option zV → zW → Prop} (hs : st.length ≤ 8) (hk : zk w h = 11) : zR 35 58 [l0, l1, l2] (a2 :: a1 :: a0 :: .inr (some h) :: st) w Q = zR 37 0 [some (.inr (some h)), some a0, some a1, some a2, none, none, none, none, none] [] w (fun r w2 => zR 35 61 [l0, l1, l2] (r.toList ++ st) w2 Q) := zR_call (zst zT_35_58 (zcall_v [a2, a1, a0] rfl hs hk rfl))
theorem zT_35_61 : zT 35 61 = some (.return_, 1, 0, []) := by decide +kernel
theorem zr_35_61 {l0 l1 l2 : Option zV} {w : zW} {Q : Option zV → zW → Prop} : zR 35 61 [l0, l1, l2] [] w Q = Q none w := zR_ret (zst zT_35_61 rfl)
theorem zT_36_0 : zT 36 0 = some (.aload_n 0, 1, 0, []) := by decide +kernel
theorem zr_36_0 {l1 l2 : Option zV} {x : Option Nat} {st : List zV} {w : zW} {Q : Option zV → zW → Prop}  : zR 36 0 [some (.inr x), l1, l2] st w Q = zR 36 1 [some (.inr x), l1, l2] (.inr x :: st) w Q := zR_go (zst zT_36_0 rfl)
theorem zT_36_1 : zT 36 1 = some (.iload_n 1, 1, 0, []) := by decide +kernel
theorem zr_36_1 {l0 l2 : Option zV} {x : Int} {st : List zV} {w : zW} {Q : Option zV → zW → Prop}  : zR 36 1 [l0, some (.inl x), l2] st w Q = zR 36 2 [l0, some (.inl x), l2] (.inl x :: st) w Q := zR_go (zst zT_36_1 rfl)
theorem zT_36_2 : zT 36 2 = some (.invokevirtual 170, 3, 1, [(11, 28)]) := by decide +kernel
theorem zr_36_2 {l0 l1 l2 : Option zV} {a0 : zV} {h : Nat} {st : List zV} {w : zW} {Q : Option zV → zW → Prop} (hs : st.length ≤ 8) (hk : zk w h = 11) : zR 36 2 [l0, l1, l2] (a0 :: .inr (some h) :: st) w Q = zR 28 0 [some (.inr (some h)), some a0] [] w (fun r w2 => zR 36 5 [l0, l1, l2] (r.toList ++ st) w2 Q) := zR_call (zst zT_36_2 (zcall_v [a0] rfl hs hk rfl))
theorem zT_36_5 : zT 36 5 = some (.ifCond .eq 16, 3, 0, []) := by decide +kernel
theorem zr_36_5 {l0 l1 l2 : Option zV} {x : Int} {st : List zV} {w : zW} {Q : Option zV → zW → Prop}  : zR 36 5 [l0, l1, l2] (.inl x :: st) w Q = (if zN x = 0 then zR 36 21 [l0, l1, l2] st w Q else zR 36 8 [l0, l1, l2] st w Q) := zR_if (zstB zT_36_5 rfl) (by simp [zcmp])
theorem zT_36_8 : zT 36 8 = some (.iload_n 2, 1, 0, []) := by decide +kernel
theorem zr_36_8 {l0 l1 : Option zV} {x : Int} {st : List zV} {w : zW} {Q : Option zV → zW → Prop}  : zR 36 8 [l0, l1, some (.inl x)] st w Q = zR 36 9 [l0, l1, some (.inl x)] (.inl x :: st) w Q := zR_go (zst zT_36_8 rfl)
theorem zT_36_9 : zT 36 9 = some (.sipush (-32768), 3, 0, []) := by decide +kernel
theorem zr_36_9 {l0 l1 l2 : Option zV} {st : List zV} {w : zW} {Q : Option zV → zW → Prop}  : zR 36 9 [l0, l1, l2] st w Q = zR 36 12 [l0, l1, l2] (.inl (-32768) :: st) w Q := zR_go (zst zT_36_9 rfl)
theorem zT_36_12 : zT 36 12 = some (.sipush 32767, 3, 0, []) := by decide +kernel
theorem zr_36_12 {l0 l1 l2 : Option zV} {st : List zV} {w : zW} {Q : Option zV → zW → Prop}  : zR 36 12 [l0, l1, l2] st w Q = zR 36 15 [l0, l1, l2] (.inl 32767 :: st) w Q := zR_go (zst zT_36_12 rfl)
theorem zT_36_15 : zT 36 15 = some (.invokestatic 150, 3, 3, [(24, 1)]) := by decide +kernel
theorem zr_36_15 {l0 l1 l2 : Option zV} {a0 a1 a2 : zV} {st : List zV} {w : zW} {Q : Option zV → zW → Prop} (hs : st.length ≤ 8) : zR 36 15 [l0, l1, l2] (a2 :: a1 :: a0 :: st) w Q = zR 24 0 [some a0, some a1, some a2] [] w (fun r w2 => zR 36 18 [l0, l1, l2] (r.toList ++ st) w2 Q) := zR_call (zst zT_36_15 ((zcall_s (z := 3) (pc := 15) (j := 24) (ls := [l0, l1, l2]) (w := w) [a2, a1, a0] rfl hs : zi_static 3 [(24, 1)] 15 [l0, l1, l2] ([a2, a1, a0] ++ st) w = _)))
theorem zT_36_18 : zT 36 18 = some (.ifCond .ne 5, 3, 0, []) := by decide +kernel
theorem zr_36_18 {l0 l1 l2 : Option zV} {x : Int} {st : List zV} {w : zW} {Q : Option zV → zW → Prop}  : zR 36 18 [l0, l1, l2] (.inl x :: st) w Q = (if zN x ≠ 0 then zR 36 23 [l0, l1, l2] st w Q else zR 36 21 [l0, l1, l2] st w Q) := zR_if (zstB zT_36_18 rfl) (by simp [zcmp])
theorem zT_36_21 : zT 36 21 = some (.iconst 0, 1, 0, []) := by decide +kernel
theorem zr_36_21 {l0 l1 l2 : Option zV} {st : List zV} {w : zW} {Q : Option zV → zW → Prop}  : zR 36 21 [l0, l1, l2] st w Q = zR 36 22 [l0, l1, l2] (.inl 0 :: st) w Q := zR_go (zst zT_36_21 rfl)
theorem zT_36_22 : zT 36 22 = some (.ireturn, 1, 0, []) := by decide +kernel
theorem zr_36_22 {l0 l1 l2 : Option zV} {x : Int} {w : zW} {Q : Option zV → zW → Prop} (hx : zN x = 0 ∨ zN x = 1) : zR 36 22 [l0, l1, l2] [.inl x] w Q = Q (some (.inl x)) w := zR_ret (zst zT_36_22 (if_pos (Or.inr ⟨rfl, hx⟩)))
theorem zT_36_23 : zT 36 23 = some (.aload_n 0, 1, 0, []) := by decide +kernel
theorem zr_36_23 {l1 l2 : Option zV} {x : Option Nat} {st : List zV} {w : zW} {Q : Option zV → zW → Prop}  : zR 36 23 [some (.inr x), l1, l2] st w Q = zR 36 24 [some (.inr x), l1, l2] (.inr x :: st) w Q := zR_go (zst zT_36_23 rfl)
theorem zT_36_24 : zT 36 24 = some (.getfield 47, 3, 0, [(11, 13)]) := by decide +kernel
theorem zr_36_24 {l0 l1 l2 : Option zV} {h : Nat} {st : List zV} {w : zW} {Q : Option zV → zW → Prop} (hk : zk w h = 11) : zR 36 24 [l0, l1, l2] (.inr (some h) :: st) w Q = zR 36 27 [l0, l1, l2] (.inr (zp w 85 h) :: st) w Q := zR_go (zst zT_36_24 (zget_r hk rfl))
theorem zT_36_27 : zT 36 27 = some (.iload_n 1, 1, 0, []) := by decide +kernel
theorem zr_36_27 {l0 l2 : Option zV} {x : Int} {st : List zV} {w : zW} {Q : Option zV → zW → Prop}  : zR 36 27 [l0, some (.inl x), l2] st w Q = zR 36 28 [l0, some (.inl x), l2] (.inl x :: st) w Q := zR_go (zst zT_36_27 rfl)
theorem zT_36_28 : zT 36 28 = some (.iload_n 2, 1, 0, []) := by decide +kernel
theorem zr_36_28 {l0 l1 : Option zV} {x : Int} {st : List zV} {w : zW} {Q : Option zV → zW → Prop}  : zR 36 28 [l0, l1, some (.inl x)] st w Q = zR 36 29 [l0, l1, some (.inl x)] (.inl x :: st) w Q := zR_go (zst zT_36_28 rfl)
theorem zT_36_29 : zT 36 29 = some (.iastore, 1, 0, []) := by decide +kernel
theorem zr_36_29 {l0 l1 l2 : Option zV} {j x : Int} {h : Nat} {st : List zV} {w : zW} {Q : Option zV → zW → Prop} (hk : zk w h = zNC ∧ 0 ≤ zN j ∧ zN j < zl w h) : zR 36 29 [l0, l1, l2] (.inl x :: .inl j :: .inr (some h) :: st) w Q = zR 36 30 [l0, l1, l2] st (zsa w h (zN j).toNat x) Q := zR_go (zst zT_36_29 (if_pos hk))
theorem zT_36_30 : zT 36 30 = some (.aload_n 0, 1, 0, []) := by decide +kernel
theorem zr_36_30 {l1 l2 : Option zV} {x : Option Nat} {st : List zV} {w : zW} {Q : Option zV → zW → Prop}  : zR 36 30 [some (.inr x), l1, l2] st w Q = zR 36 31 [some (.inr x), l1, l2] (.inr x :: st) w Q := zR_go (zst zT_36_30 rfl)
theorem zT_36_31 : zT 36 31 = some (.iload_n 1, 1, 0, []) := by decide +kernel
theorem zr_36_31 {l0 l2 : Option zV} {x : Int} {st : List zV} {w : zW} {Q : Option zV → zW → Prop}  : zR 36 31 [l0, some (.inl x), l2] st w Q = zR 36 32 [l0, some (.inl x), l2] (.inl x :: st) w Q := zR_go (zst zT_36_31 rfl)
theorem zT_36_32 : zT 36 32 = some (.invokevirtual 173, 3, 1, [(11, 38)]) := by decide +kernel
theorem zr_36_32 {l0 l1 l2 : Option zV} {a0 : zV} {h : Nat} {st : List zV} {w : zW} {Q : Option zV → zW → Prop} (hs : st.length ≤ 8) (hk : zk w h = 11) : zR 36 32 [l0, l1, l2] (a0 :: .inr (some h) :: st) w Q = zR 38 0 [some (.inr (some h)), some a0, none, none] [] w (fun r w2 => zR 36 35 [l0, l1, l2] (r.toList ++ st) w2 Q) := zR_call (zst zT_36_32 (zcall_v [a0] rfl hs hk rfl))
theorem zT_36_35 : zT 36 35 = some (.iconst 1, 1, 0, []) := by decide +kernel
theorem zr_36_35 {l0 l1 l2 : Option zV} {st : List zV} {w : zW} {Q : Option zV → zW → Prop}  : zR 36 35 [l0, l1, l2] st w Q = zR 36 36 [l0, l1, l2] (.inl 1 :: st) w Q := zR_go (zst zT_36_35 rfl)
theorem zT_36_36 : zT 36 36 = some (.ireturn, 1, 0, []) := by decide +kernel
theorem zr_36_36 {l0 l1 l2 : Option zV} {x : Int} {w : zW} {Q : Option zV → zW → Prop} (hx : zN x = 0 ∨ zN x = 1) : zR 36 36 [l0, l1, l2] [.inl x] w Q = Q (some (.inl x)) w := zR_ret (zst zT_36_36 (if_pos (Or.inr ⟨rfl, hx⟩)))
theorem zT_37_0 : zT 37 0 = some (.aload_n 0, 1, 0, []) := by decide +kernel
theorem zr_37_0 {l1 l2 l3 l4 l5 l6 l7 l8 : Option zV} {x : Option Nat} {st : List zV} {w : zW} {Q : Option zV → zW → Prop}  : zR 37 0 [some (.inr x), l1, l2, l3, l4, l5, l6, l7, l8] st w Q = zR 37 1 [some (.inr x), l1, l2, l3, l4, l5, l6, l7, l8] (.inr x :: st) w Q := zR_go (zst zT_37_0 rfl)
theorem zT_37_1 : zT 37 1 = some (.getfield 163, 3, 0, [(11, 39)]) := by decide +kernel
theorem zr_37_1 {l0 l1 l2 l3 l4 l5 l6 l7 l8 : Option zV} {h : Nat} {st : List zV} {w : zW} {Q : Option zV → zW → Prop} (hk : zk w h = 11) : zR 37 1 [l0, l1, l2, l3, l4, l5, l6, l7, l8] (.inr (some h) :: st) w Q = zR 37 4 [l0, l1, l2, l3, l4, l5, l6, l7, l8] (.inl (zf w 111 h) :: st) w Q := zR_go (zst zT_37_1 (zget_i hk (Or.inl rfl)))
theorem zT_37_4 : zT 37 4 = some (.bipush 7, 2, 0, []) := by decide +kernel
theorem zr_37_4 {l0 l1 l2 l3 l4 l5 l6 l7 l8 : Option zV} {st : List zV} {w : zW} {Q : Option zV → zW → Prop}  : zR 37 4 [l0, l1, l2, l3, l4, l5, l6, l7, l8] st w Q = zR 37 6 [l0, l1, l2, l3, l4, l5, l6, l7, l8] (.inl 7 :: st) w Q := zR_go (zst zT_37_4 rfl)
theorem zT_37_6 : zT 37 6 = some (.iadd, 1, 0, []) := by decide +kernel
theorem zr_37_6 {l0 l1 l2 l3 l4 l5 l6 l7 l8 : Option zV} {x y : Int} {st : List zV} {w : zW} {Q : Option zV → zW → Prop}  : zR 37 6 [l0, l1, l2, l3, l4, l5, l6, l7, l8] (.inl y :: .inl x :: st) w Q = zR 37 7 [l0, l1, l2, l3, l4, l5, l6, l7, l8] (.inl (x + y) :: st) w Q := zR_go (zst zT_37_6 rfl)
theorem zT_37_7 : zT 37 7 = some (.bipush 8, 2, 0, []) := by decide +kernel
theorem zr_37_7 {l0 l1 l2 l3 l4 l5 l6 l7 l8 : Option zV} {st : List zV} {w : zW} {Q : Option zV → zW → Prop}  : zR 37 7 [l0, l1, l2, l3, l4, l5, l6, l7, l8] st w Q = zR 37 9 [l0, l1, l2, l3, l4, l5, l6, l7, l8] (.inl 8 :: st) w Q := zR_go (zst zT_37_7 rfl)
theorem zT_37_9 : zT 37 9 = some (.idiv, 1, 0, []) := by decide +kernel
theorem zr_37_9 {l0 l1 l2 l3 l4 l5 l6 l7 l8 : Option zV} {x y : Int} {st : List zV} {w : zW} {Q : Option zV → zW → Prop} (hy : ¬ zN y = 0) : zR 37 9 [l0, l1, l2, l3, l4, l5, l6, l7, l8] (.inl y :: .inl x :: st) w Q = zR 37 10 [l0, l1, l2, l3, l4, l5, l6, l7, l8] (.inl (zo_div x y) :: st) w Q := zR_go (zst zT_37_9 (if_neg hy))
theorem zT_37_10 : zT 37 10 = some (.istore 4, 2, 0, []) := by decide +kernel
theorem zr_37_10 {l0 l1 l2 l3 l4 l5 l6 l7 l8 : Option zV} {x : Int} {st : List zV} {w : zW} {Q : Option zV → zW → Prop}  : zR 37 10 [l0, l1, l2, l3, l4, l5, l6, l7, l8] (.inl x :: st) w Q = zR 37 12 [l0, l1, l2, l3, some (.inl x), l5, l6, l7, l8] st w Q := zR_go (zst zT_37_10 rfl)
theorem zT_37_12 : zT 37 12 = some (.aload_n 0, 1, 0, []) := by decide +kernel
theorem zr_37_12 {l1 l2 l3 l4 l5 l6 l7 l8 : Option zV} {x : Option Nat} {st : List zV} {w : zW} {Q : Option zV → zW → Prop}  : zR 37 12 [some (.inr x), l1, l2, l3, l4, l5, l6, l7, l8] st w Q = zR 37 13 [some (.inr x), l1, l2, l3, l4, l5, l6, l7, l8] (.inr x :: st) w Q := zR_go (zst zT_37_12 rfl)
theorem zT_37_13 : zT 37 13 = some (.getfield 26, 3, 0, [(11, 6)]) := by decide +kernel
theorem zr_37_13 {l0 l1 l2 l3 l4 l5 l6 l7 l8 : Option zV} {h : Nat} {st : List zV} {w : zW} {Q : Option zV → zW → Prop} (hk : zk w h = 11) : zR 37 13 [l0, l1, l2, l3, l4, l5, l6, l7, l8] (.inr (some h) :: st) w Q = zR 37 16 [l0, l1, l2, l3, l4, l5, l6, l7, l8] (.inr (zp w 78 h) :: st) w Q := zR_go (zst zT_37_13 (zget_r hk rfl))
theorem zT_37_16 : zT 37 16 = some (.iload_n 1, 1, 0, []) := by decide +kernel
theorem zr_37_16 {l0 l2 l3 l4 l5 l6 l7 l8 : Option zV} {x : Int} {st : List zV} {w : zW} {Q : Option zV → zW → Prop}  : zR 37 16 [l0, some (.inl x), l2, l3, l4, l5, l6, l7, l8] st w Q = zR 37 17 [l0, some (.inl x), l2, l3, l4, l5, l6, l7, l8] (.inl x :: st) w Q := zR_go (zst zT_37_16 rfl)
theorem zT_37_17 : zT 37 17 = some (.iaload, 1, 0, []) := by decide +kernel
theorem zr_37_17 {l0 l1 l2 l3 l4 l5 l6 l7 l8 : Option zV} {j : Int} {h : Nat} {st : List zV} {w : zW} {Q : Option zV → zW → Prop} (hk : (zk w h = zNC ∨ zk w h = zNC + 2) ∧ 0 ≤ zN j ∧ zN j < zl w h) : zR 37 17 [l0, l1, l2, l3, l4, l5, l6, l7, l8] (.inl j :: .inr (some h) :: st) w Q = zR 37 18 [l0, l1, l2, l3, l4, l5, l6, l7, l8] (.inl (za w h (zN j).toNat) :: st) w Q := zR_go (zst zT_37_17 (if_pos hk))
theorem zT_37_18 : zT 37 18 = some (.iload 4, 2, 0, []) := by decide +kernel
theorem zr_37_18 {l0 l1 l2 l3 l5 l6 l7 l8 : Option zV} {x : Int} {st : List zV} {w : zW} {Q : Option zV → zW → Prop}  : zR 37 18 [l0, l1, l2, l3, some (.inl x), l5, l6, l7, l8] st w Q = zR 37 20 [l0, l1, l2, l3, some (.inl x), l5, l6, l7, l8] (.inl x :: st) w Q := zR_go (zst zT_37_18 rfl)
theorem zT_37_20 : zT 37 20 = some (.iadd, 1, 0, []) := by decide +kernel
theorem zr_37_20 {l0 l1 l2 l3 l4 l5 l6 l7 l8 : Option zV} {x y : Int} {st : List zV} {w : zW} {Q : Option zV → zW → Prop}  : zR 37 20 [l0, l1, l2, l3, l4, l5, l6, l7, l8] (.inl y :: .inl x :: st) w Q = zR 37 21 [l0, l1, l2, l3, l4, l5, l6, l7, l8] (.inl (x + y) :: st) w Q := zR_go (zst zT_37_20 rfl)
theorem zT_37_21 : zT 37 21 = some (.bipush 8, 2, 0, []) := by decide +kernel
theorem zr_37_21 {l0 l1 l2 l3 l4 l5 l6 l7 l8 : Option zV} {st : List zV} {w : zW} {Q : Option zV → zW → Prop}  : zR 37 21 [l0, l1, l2, l3, l4, l5, l6, l7, l8] st w Q = zR 37 23 [l0, l1, l2, l3, l4, l5, l6, l7, l8] (.inl 8 :: st) w Q := zR_go (zst zT_37_21 rfl)
theorem zT_37_23 : zT 37 23 = some (.if_icmp .le 4, 3, 0, []) := by decide +kernel
theorem zr_37_23 {l0 l1 l2 l3 l4 l5 l6 l7 l8 : Option zV} {x y : Int} {st : List zV} {w : zW} {Q : Option zV → zW → Prop}  : zR 37 23 [l0, l1, l2, l3, l4, l5, l6, l7, l8] (.inl y :: .inl x :: st) w Q = (if zN x ≤ zN y then zR 37 27 [l0, l1, l2, l3, l4, l5, l6, l7, l8] st w Q else zR 37 26 [l0, l1, l2, l3, l4, l5, l6, l7, l8] st w Q) := zR_if (zstB zT_37_23 rfl) (by simp [zcmp])
theorem zT_37_26 : zT 37 26 = some (.return_, 1, 0, []) := by decide +kernel
theorem zr_37_26 {l0 l1 l2 l3 l4 l5 l6 l7 l8 : Option zV} {w : zW} {Q : Option zV → zW → Prop} : zR 37 26 [l0, l1, l2, l3, l4, l5, l6, l7, l8] [] w Q = Q none w := zR_ret (zst zT_37_26 rfl)
theorem zT_37_27 : zT 37 27 = some (.iconst 0, 1, 0, []) := by decide +kernel
theorem zr_37_27 {l0 l1 l2 l3 l4 l5 l6 l7 l8 : Option zV} {st : List zV} {w : zW} {Q : Option zV → zW → Prop}  : zR 37 27 [l0, l1, l2, l3, l4, l5, l6, l7, l8] st w Q = zR 37 28 [l0, l1, l2, l3, l4, l5, l6, l7, l8] (.inl 0 :: st) w Q := zR_go (zst zT_37_27 rfl)
theorem zT_37_28 : zT 37 28 = some (.istore 5, 2, 0, []) := by decide +kernel
theorem zr_37_28 {l0 l1 l2 l3 l4 l5 l6 l7 l8 : Option zV} {x : Int} {st : List zV} {w : zW} {Q : Option zV → zW → Prop}  : zR 37 28 [l0, l1, l2, l3, l4, l5, l6, l7, l8] (.inl x :: st) w Q = zR 37 30 [l0, l1, l2, l3, l4, some (.inl x), l6, l7, l8] st w Q := zR_go (zst zT_37_28 rfl)
theorem zT_37_30 : zT 37 30 = some (.iload 5, 2, 0, []) := by decide +kernel
theorem zr_37_30 {l0 l1 l2 l3 l4 l6 l7 l8 : Option zV} {x : Int} {st : List zV} {w : zW} {Q : Option zV → zW → Prop}  : zR 37 30 [l0, l1, l2, l3, l4, some (.inl x), l6, l7, l8] st w Q = zR 37 32 [l0, l1, l2, l3, l4, some (.inl x), l6, l7, l8] (.inl x :: st) w Q := zR_go (zst zT_37_30 rfl)
theorem zT_37_32 : zT 37 32 = some (.iload 4, 2, 0, []) := by decide +kernel
theorem zr_37_32 {l0 l1 l2 l3 l5 l6 l7 l8 : Option zV} {x : Int} {st : List zV} {w : zW} {Q : Option zV → zW → Prop}  : zR 37 32 [l0, l1, l2, l3, some (.inl x), l5, l6, l7, l8] st w Q = zR 37 34 [l0, l1, l2, l3, some (.inl x), l5, l6, l7, l8] (.inl x :: st) w Q := zR_go (zst zT_37_32 rfl)
theorem zT_37_34 : zT 37 34 = some (.if_icmp .ge 187, 3, 0, []) := by decide +kernel
theorem zr_37_34 {l0 l1 l2 l3 l4 l5 l6 l7 l8 : Option zV} {x y : Int} {st : List zV} {w : zW} {Q : Option zV → zW → Prop}  : zR 37 34 [l0, l1, l2, l3, l4, l5, l6, l7, l8] (.inl y :: .inl x :: st) w Q = (if zN y ≤ zN x then zR 37 221 [l0, l1, l2, l3, l4, l5, l6, l7, l8] st w Q else zR 37 37 [l0, l1, l2, l3, l4, l5, l6, l7, l8] st w Q) := zR_if (zstB zT_37_34 rfl) (by simp [zcmp])
theorem zT_37_37 : zT 37 37 = some (.bipush 12, 2, 0, []) := by decide +kernel
theorem zr_37_37 {l0 l1 l2 l3 l4 l5 l6 l7 l8 : Option zV} {st : List zV} {w : zW} {Q : Option zV → zW → Prop}  : zR 37 37 [l0, l1, l2, l3, l4, l5, l6, l7, l8] st w Q = zR 37 39 [l0, l1, l2, l3, l4, l5, l6, l7, l8] (.inl 12 :: st) w Q := zR_go (zst zT_37_37 rfl)
theorem zT_37_39 : zT 37 39 = some (.bipush 8, 2, 0, []) := by decide +kernel
theorem zr_37_39 {l0 l1 l2 l3 l4 l5 l6 l7 l8 : Option zV} {st : List zV} {w : zW} {Q : Option zV → zW → Prop}  : zR 37 39 [l0, l1, l2, l3, l4, l5, l6, l7, l8] st w Q = zR 37 41 [l0, l1, l2, l3, l4, l5, l6, l7, l8] (.inl 8 :: st) w Q := zR_go (zst zT_37_39 rfl)
theorem zT_37_41 : zT 37 41 = some (.iload_n 1, 1, 0, []) := by decide +kernel
theorem zr_37_41 {l0 l2 l3 l4 l5 l6 l7 l8 : Option zV} {x : Int} {st : List zV} {w : zW} {Q : Option zV → zW → Prop}  : zR 37 41 [l0, some (.inl x), l2, l3, l4, l5, l6, l7, l8] st w Q = zR 37 42 [l0, some (.inl x), l2, l3, l4, l5, l6, l7, l8] (.inl x :: st) w Q := zR_go (zst zT_37_41 rfl)
theorem zT_37_42 : zT 37 42 = some (.imul, 1, 0, []) := by decide +kernel
theorem zr_37_42 {l0 l1 l2 l3 l4 l5 l6 l7 l8 : Option zV} {x y : Int} {st : List zV} {w : zW} {Q : Option zV → zW → Prop}  : zR 37 42 [l0, l1, l2, l3, l4, l5, l6, l7, l8] (.inl y :: .inl x :: st) w Q = zR 37 43 [l0, l1, l2, l3, l4, l5, l6, l7, l8] (.inl (x * y) :: st) w Q := zR_go (zst zT_37_42 rfl)
theorem zT_37_43 : zT 37 43 = some (.aload_n 0, 1, 0, []) := by decide +kernel
theorem zr_37_43 {l1 l2 l3 l4 l5 l6 l7 l8 : Option zV} {x : Option Nat} {st : List zV} {w : zW} {Q : Option zV → zW → Prop}  : zR 37 43 [some (.inr x), l1, l2, l3, l4, l5, l6, l7, l8] st w Q = zR 37 44 [some (.inr x), l1, l2, l3, l4, l5, l6, l7, l8] (.inr x :: st) w Q := zR_go (zst zT_37_43 rfl)
theorem zT_37_44 : zT 37 44 = some (.getfield 26, 3, 0, [(11, 6)]) := by decide +kernel
theorem zr_37_44 {l0 l1 l2 l3 l4 l5 l6 l7 l8 : Option zV} {h : Nat} {st : List zV} {w : zW} {Q : Option zV → zW → Prop} (hk : zk w h = 11) : zR 37 44 [l0, l1, l2, l3, l4, l5, l6, l7, l8] (.inr (some h) :: st) w Q = zR 37 47 [l0, l1, l2, l3, l4, l5, l6, l7, l8] (.inr (zp w 78 h) :: st) w Q := zR_go (zst zT_37_44 (zget_r hk rfl))
theorem zT_37_47 : zT 37 47 = some (.iload_n 1, 1, 0, []) := by decide +kernel
theorem zr_37_47 {l0 l2 l3 l4 l5 l6 l7 l8 : Option zV} {x : Int} {st : List zV} {w : zW} {Q : Option zV → zW → Prop}  : zR 37 47 [l0, some (.inl x), l2, l3, l4, l5, l6, l7, l8] st w Q = zR 37 48 [l0, some (.inl x), l2, l3, l4, l5, l6, l7, l8] (.inl x :: st) w Q := zR_go (zst zT_37_47 rfl)
theorem zT_37_48 : zT 37 48 = some (.iaload, 1, 0, []) := by decide +kernel
theorem zr_37_48 {l0 l1 l2 l3 l4 l5 l6 l7 l8 : Option zV} {j : Int} {h : Nat} {st : List zV} {w : zW} {Q : Option zV → zW → Prop} (hk : (zk w h = zNC ∨ zk w h = zNC + 2) ∧ 0 ≤ zN j ∧ zN j < zl w h) : zR 37 48 [l0, l1, l2, l3, l4, l5, l6, l7, l8] (.inl j :: .inr (some h) :: st) w Q = zR 37 49 [l0, l1, l2, l3, l4, l5, l6, l7, l8] (.inl (za w h (zN j).toNat) :: st) w Q := zR_go (zst zT_37_48 (if_pos hk))
theorem zT_37_49 : zT 37 49 = some (.iadd, 1, 0, []) := by decide +kernel
theorem zr_37_49 {l0 l1 l2 l3 l4 l5 l6 l7 l8 : Option zV} {x y : Int} {st : List zV} {w : zW} {Q : Option zV → zW → Prop}  : zR 37 49 [l0, l1, l2, l3, l4, l5, l6, l7, l8] (.inl y :: .inl x :: st) w Q = zR 37 50 [l0, l1, l2, l3, l4, l5, l6, l7, l8] (.inl (x + y) :: st) w Q := zR_go (zst zT_37_49 rfl)
theorem zT_37_50 : zT 37 50 = some (.imul, 1, 0, []) := by decide +kernel
theorem zr_37_50 {l0 l1 l2 l3 l4 l5 l6 l7 l8 : Option zV} {x y : Int} {st : List zV} {w : zW} {Q : Option zV → zW → Prop}  : zR 37 50 [l0, l1, l2, l3, l4, l5, l6, l7, l8] (.inl y :: .inl x :: st) w Q = zR 37 51 [l0, l1, l2, l3, l4, l5, l6, l7, l8] (.inl (x * y) :: st) w Q := zR_go (zst zT_37_50 rfl)
theorem zT_37_51 : zT 37 51 = some (.istore 6, 2, 0, []) := by decide +kernel
theorem zr_37_51 {l0 l1 l2 l3 l4 l5 l6 l7 l8 : Option zV} {x : Int} {st : List zV} {w : zW} {Q : Option zV → zW → Prop}  : zR 37 51 [l0, l1, l2, l3, l4, l5, l6, l7, l8] (.inl x :: st) w Q = zR 37 53 [l0, l1, l2, l3, l4, l5, some (.inl x), l7, l8] st w Q := zR_go (zst zT_37_51 rfl)
theorem zT_37_53 : zT 37 53 = some (.aload_n 0, 1, 0, []) := by decide +kernel
theorem zr_37_53 {l1 l2 l3 l4 l5 l6 l7 l8 : Option zV} {x : Option Nat} {st : List zV} {w : zW} {Q : Option zV → zW → Prop}  : zR 37 53 [some (.inr x), l1, l2, l3, l4, l5, l6, l7, l8] st w Q = zR 37 54 [some (.inr x), l1, l2, l3, l4, l5, l6, l7, l8] (.inr x :: st) w Q := zR_go (zst zT_37_53 rfl)
theorem zT_37_54 : zT 37 54 = some (.getfield 163, 3, 0, [(11, 39)]) := by decide +kernel
theorem zr_37_54 {l0 l1 l2 l3 l4 l5 l6 l7 l8 : Option zV} {h : Nat} {st : List zV} {w : zW} {Q : Option zV → zW → Prop} (hk : zk w h = 11) : zR 37 54 [l0, l1, l2, l3, l4, l5, l6, l7, l8] (.inr (some h) :: st) w Q = zR 37 57 [l0, l1, l2, l3, l4, l5, l6, l7, l8] (.inl (zf w 111 h) :: st) w Q := zR_go (zst zT_37_54 (zget_i hk (Or.inl rfl)))
theorem zT_37_57 : zT 37 57 = some (.bipush 8, 2, 0, []) := by decide +kernel
theorem zr_37_57 {l0 l1 l2 l3 l4 l5 l6 l7 l8 : Option zV} {st : List zV} {w : zW} {Q : Option zV → zW → Prop}  : zR 37 57 [l0, l1, l2, l3, l4, l5, l6, l7, l8] st w Q = zR 37 59 [l0, l1, l2, l3, l4, l5, l6, l7, l8] (.inl 8 :: st) w Q := zR_go (zst zT_37_57 rfl)
theorem zT_37_59 : zT 37 59 = some (.iload 5, 2, 0, []) := by decide +kernel
theorem zr_37_59 {l0 l1 l2 l3 l4 l6 l7 l8 : Option zV} {x : Int} {st : List zV} {w : zW} {Q : Option zV → zW → Prop}  : zR 37 59 [l0, l1, l2, l3, l4, some (.inl x), l6, l7, l8] st w Q = zR 37 61 [l0, l1, l2, l3, l4, some (.inl x), l6, l7, l8] (.inl x :: st) w Q := zR_go (zst zT_37_59 rfl)
theorem zT_37_61 : zT 37 61 = some (.imul, 1, 0, []) := by decide +kernel
theorem zr_37_61 {l0 l1 l2 l3 l4 l5 l6 l7 l8 : Option zV} {x y : Int} {st : List zV} {w : zW} {Q : Option zV → zW → Prop}  : zR 37 61 [l0, l1, l2, l3, l4, l5, l6, l7, l8] (.inl y :: .inl x :: st) w Q = zR 37 62 [l0, l1, l2, l3, l4, l5, l6, l7, l8] (.inl (x * y) :: st) w Q := zR_go (zst zT_37_61 rfl)
theorem zT_37_62 : zT 37 62 = some (.isub, 1, 0, []) := by decide +kernel
theorem zr_37_62 {l0 l1 l2 l3 l4 l5 l6 l7 l8 : Option zV} {x y : Int} {st : List zV} {w : zW} {Q : Option zV → zW → Prop}  : zR 37 62 [l0, l1, l2, l3, l4, l5, l6, l7, l8] (.inl y :: .inl x :: st) w Q = zR 37 63 [l0, l1, l2, l3, l4, l5, l6, l7, l8] (.inl (x - y) :: st) w Q := zR_go (zst zT_37_62 rfl)
theorem zT_37_63 : zT 37 63 = some (.bipush 8, 2, 0, []) := by decide +kernel
theorem zr_37_63 {l0 l1 l2 l3 l4 l5 l6 l7 l8 : Option zV} {st : List zV} {w : zW} {Q : Option zV → zW → Prop}  : zR 37 63 [l0, l1, l2, l3, l4, l5, l6, l7, l8] st w Q = zR 37 65 [l0, l1, l2, l3, l4, l5, l6, l7, l8] (.inl 8 :: st) w Q := zR_go (zst zT_37_63 rfl)
theorem zT_37_65 : zT 37 65 = some (.if_icmp .ge 16, 3, 0, []) := by decide +kernel
theorem zr_37_65 {l0 l1 l2 l3 l4 l5 l6 l7 l8 : Option zV} {x y : Int} {st : List zV} {w : zW} {Q : Option zV → zW → Prop}  : zR 37 65 [l0, l1, l2, l3, l4, l5, l6, l7, l8] (.inl y :: .inl x :: st) w Q = (if zN y ≤ zN x then zR 37 81 [l0, l1, l2, l3, l4, l5, l6, l7, l8] st w Q else zR 37 68 [l0, l1, l2, l3, l4, l5, l6, l7, l8] st w Q) := zR_if (zstB zT_37_65 rfl) (by simp [zcmp])
theorem zT_37_68 : zT 37 68 = some (.aload_n 0, 1, 0, []) := by decide +kernel
theorem zr_37_68 {l1 l2 l3 l4 l5 l6 l7 l8 : Option zV} {x : Option Nat} {st : List zV} {w : zW} {Q : Option zV → zW → Prop}  : zR 37 68 [some (.inr x), l1, l2, l3, l4, l5, l6, l7, l8] st w Q = zR 37 69 [some (.inr x), l1, l2, l3, l4, l5, l6, l7, l8] (.inr x :: st) w Q := zR_go (zst zT_37_68 rfl)
theorem zT_37_69 : zT 37 69 = some (.getfield 163, 3, 0, [(11, 39)]) := by decide +kernel
theorem zr_37_69 {l0 l1 l2 l3 l4 l5 l6 l7 l8 : Option zV} {h : Nat} {st : List zV} {w : zW} {Q : Option zV → zW → Prop} (hk : zk w h = 11) : zR 37 69 [l0, l1, l2, l3, l4, l5, l6, l7, l8] (.inr (some h) :: st) w Q = zR 37 72 [l0, l1, l2, l3, l4, l5, l6, l7, l8] (.inl (zf w 111 h) :: st) w Q := zR_go (zst zT_37_69 (zget_i hk (Or.inl rfl)))
theorem zT_37_72 : zT 37 72 = some (.bipush 8, 2, 0, []) := by decide +kernel
theorem zr_37_72 {l0 l1 l2 l3 l4 l5 l6 l7 l8 : Option zV} {st : List zV} {w : zW} {Q : Option zV → zW → Prop}  : zR 37 72 [l0, l1, l2, l3, l4, l5, l6, l7, l8] st w Q = zR 37 74 [l0, l1, l2, l3, l4, l5, l6, l7, l8] (.inl 8 :: st) w Q := zR_go (zst zT_37_72 rfl)
theorem zT_37_74 : zT 37 74 = some (.iload 5, 2, 0, []) := by decide +kernel
theorem zr_37_74 {l0 l1 l2 l3 l4 l6 l7 l8 : Option zV} {x : Int} {st : List zV} {w : zW} {Q : Option zV → zW → Prop}  : zR 37 74 [l0, l1, l2, l3, l4, some (.inl x), l6, l7, l8] st w Q = zR 37 76 [l0, l1, l2, l3, l4, some (.inl x), l6, l7, l8] (.inl x :: st) w Q := zR_go (zst zT_37_74 rfl)
theorem zT_37_76 : zT 37 76 = some (.imul, 1, 0, []) := by decide +kernel
theorem zr_37_76 {l0 l1 l2 l3 l4 l5 l6 l7 l8 : Option zV} {x y : Int} {st : List zV} {w : zW} {Q : Option zV → zW → Prop}  : zR 37 76 [l0, l1, l2, l3, l4, l5, l6, l7, l8] (.inl y :: .inl x :: st) w Q = zR 37 77 [l0, l1, l2, l3, l4, l5, l6, l7, l8] (.inl (x * y) :: st) w Q := zR_go (zst zT_37_76 rfl)
theorem zT_37_77 : zT 37 77 = some (.isub, 1, 0, []) := by decide +kernel
theorem zr_37_77 {l0 l1 l2 l3 l4 l5 l6 l7 l8 : Option zV} {x y : Int} {st : List zV} {w : zW} {Q : Option zV → zW → Prop}  : zR 37 77 [l0, l1, l2, l3, l4, l5, l6, l7, l8] (.inl y :: .inl x :: st) w Q = zR 37 78 [l0, l1, l2, l3, l4, l5, l6, l7, l8] (.inl (x - y) :: st) w Q := zR_go (zst zT_37_77 rfl)
theorem zT_37_78 : zT 37 78 = some (.goto 5, 3, 0, []) := by decide +kernel
theorem zr_37_78 {l0 l1 l2 l3 l4 l5 l6 l7 l8 : Option zV} {st : List zV} {w : zW} {Q : Option zV → zW → Prop}  : zR 37 78 [l0, l1, l2, l3, l4, l5, l6, l7, l8] st w Q = zR 37 83 [l0, l1, l2, l3, l4, l5, l6, l7, l8] st w Q := zR_go (zst zT_37_78 rfl)
theorem zT_37_81 : zT 37 81 = some (.bipush 8, 2, 0, []) := by decide +kernel
theorem zr_37_81 {l0 l1 l2 l3 l4 l5 l6 l7 l8 : Option zV} {st : List zV} {w : zW} {Q : Option zV → zW → Prop}  : zR 37 81 [l0, l1, l2, l3, l4, l5, l6, l7, l8] st w Q = zR 37 83 [l0, l1, l2, l3, l4, l5, l6, l7, l8] (.inl 8 :: st) w Q := zR_go (zst zT_37_81 rfl)
theorem zT_37_83 : zT 37 83 = some (.istore 7, 2, 0, []) := by decide +kernel
theorem zr_37_83 {l0 l1 l2 l3 l4 l5 l6 l7 l8 : Option zV} {x : Int} {st : List zV} {w : zW} {Q : Option zV → zW → Prop}  : zR 37 83 [l0, l1, l2, l3, l4, l5, l6, l7, l8] (.inl x :: st) w Q = zR 37 85 [l0, l1, l2, l3, l4, l5, l6, some (.inl x), l8] st w Q := zR_go (zst zT_37_83 rfl)
theorem zT_37_85 : zT 37 85 = some (.aload_n 0, 1, 0, []) := by decide +kernel
theorem zr_37_85 {l1 l2 l3 l4 l5 l6 l7 l8 : Option zV} {x : Option Nat} {st : List zV} {w : zW} {Q : Option zV → zW → Prop}  : zR 37 85 [some (.inr x), l1, l2, l3, l4, l5, l6, l7, l8] st w Q = zR 37 86 [some (.inr x), l1, l2, l3, l4, l5, l6, l7, l8] (.inr x :: st) w Q := zR_go (zst zT_37_85 rfl)
theorem zT_37_86 : zT 37 86 = some (.getfield 29, 3, 0, [(11, 7)]) := by decide +kernel
theorem zr_37_86 {l0 l1 l2 l3 l4 l5 l6 l7 l8 : Option zV} {h : Nat} {st : List zV} {w : zW} {Q : Option zV → zW → Prop} (hk : zk w h = 11) : zR 37 86 [l0, l1, l2, l3, l4, l5, l6, l7, l8] (.inr (some h) :: st) w Q = zR 37 89 [l0, l1, l2, l3, l4, l5, l6, l7, l8] (.inr (zp w 79 h) :: st) w Q := zR_go (zst zT_37_86 (zget_r hk rfl))
theorem zT_37_89 : zT 37 89 = some (.iload 6, 2, 0, []) := by decide +kernel
theorem zr_37_89 {l0 l1 l2 l3 l4 l5 l7 l8 : Option zV} {x : Int} {st : List zV} {w : zW} {Q : Option zV → zW → Prop}  : zR 37 89 [l0, l1, l2, l3, l4, l5, some (.inl x), l7, l8] st w Q = zR 37 91 [l0, l1, l2, l3, l4, l5, some (.inl x), l7, l8] (.inl x :: st) w Q := zR_go (zst zT_37_89 rfl)
theorem zT_37_91 : zT 37 91 = some (.iload_n 2, 1, 0, []) := by decide +kernel
theorem zr_37_91 {l0 l1 l3 l4 l5 l6 l7 l8 : Option zV} {x : Int} {st : List zV} {w : zW} {Q : Option zV → zW → Prop}  : zR 37 91 [l0, l1, some (.inl x), l3, l4, l5, l6, l7, l8] st w Q = zR 37 92 [l0, l1, some (.inl x), l3, l4, l5, l6, l7, l8] (.inl x :: st) w Q := zR_go (zst zT_37_91 rfl)
theorem zT_37_92 : zT 37 92 = some (.iastore, 1, 0, []) := by decide +kernel
theorem zr_37_92 {l0 l1 l2 l3 l4 l5 l6 l7 l8 : Option zV} {j x : Int} {h : Nat} {st : List zV} {w : zW} {Q : Option zV → zW → Prop} (hk : zk w h = zNC ∧ 0 ≤ zN j ∧ zN j < zl w h) : zR 37 92 [l0, l1, l2, l3, l4, l5, l6, l7, l8] (.inl x :: .inl j :: .inr (some h) :: st) w Q = zR 37 93 [l0, l1, l2, l3, l4, l5, l6, l7, l8] st (zsa w h (zN j).toNat x) Q := zR_go (zst zT_37_92 (if_pos hk))
theorem zT_37_93 : zT 37 93 = some (.aload_n 0, 1, 0, []) := by decide +kernel
theorem zr_37_93 {l1 l2 l3 l4 l5 l6 l7 l8 : Option zV} {x : Option Nat} {st : List zV} {w : zW} {Q : Option zV → zW → Prop}  : zR 37 93 [some (.inr x), l1, l2, l3, l4, l5, l6, l7, l8] st w Q = zR 37 94 [some (.inr x), l1, l2, l3, l4, l5, l6, l7, l8] (.inr x :: st) w Q := zR_go (zst zT_37_93 rfl)
theorem zT_37_94 : zT 37 94 = some (.getfield 29, 3, 0, [(11, 7)]) := by decide +kernel
theorem zr_37_94 {l0 l1 l2 l3 l4 l5 l6 l7 l8 : Option zV} {h : Nat} {st : List zV} {w : zW} {Q : Option zV → zW → Prop} (hk : zk w h = 11) : zR 37 94 [l0, l1, l2, l3, l4, l5, l6, l7, l8] (.inr (some h) :: st) w Q = zR 37 97 [l0, l1, l2, l3, l4, l5, l6, l7, l8] (.inr (zp w 79 h) :: st) w Q := zR_go (zst zT_37_94 (zget_r hk rfl))
theorem zT_37_97 : zT 37 97 = some (.iload 6, 2, 0, []) := by decide +kernel
theorem zr_37_97 {l0 l1 l2 l3 l4 l5 l7 l8 : Option zV} {x : Int} {st : List zV} {w : zW} {Q : Option zV → zW → Prop}  : zR 37 97 [l0, l1, l2, l3, l4, l5, some (.inl x), l7, l8] st w Q = zR 37 99 [l0, l1, l2, l3, l4, l5, some (.inl x), l7, l8] (.inl x :: st) w Q := zR_go (zst zT_37_97 rfl)
theorem zT_37_99 : zT 37 99 = some (.iconst 1, 1, 0, []) := by decide +kernel
theorem zr_37_99 {l0 l1 l2 l3 l4 l5 l6 l7 l8 : Option zV} {st : List zV} {w : zW} {Q : Option zV → zW → Prop}  : zR 37 99 [l0, l1, l2, l3, l4, l5, l6, l7, l8] st w Q = zR 37 100 [l0, l1, l2, l3, l4, l5, l6, l7, l8] (.inl 1 :: st) w Q := zR_go (zst zT_37_99 rfl)
theorem zT_37_100 : zT 37 100 = some (.iadd, 1, 0, []) := by decide +kernel
theorem zr_37_100 {l0 l1 l2 l3 l4 l5 l6 l7 l8 : Option zV} {x y : Int} {st : List zV} {w : zW} {Q : Option zV → zW → Prop}  : zR 37 100 [l0, l1, l2, l3, l4, l5, l6, l7, l8] (.inl y :: .inl x :: st) w Q = zR 37 101 [l0, l1, l2, l3, l4, l5, l6, l7, l8] (.inl (x + y) :: st) w Q := zR_go (zst zT_37_100 rfl)
theorem zT_37_101 : zT 37 101 = some (.aload_n 0, 1, 0, []) := by decide +kernel
theorem zr_37_101 {l1 l2 l3 l4 l5 l6 l7 l8 : Option zV} {x : Option Nat} {st : List zV} {w : zW} {Q : Option zV → zW → Prop}  : zR 37 101 [some (.inr x), l1, l2, l3, l4, l5, l6, l7, l8] st w Q = zR 37 102 [some (.inr x), l1, l2, l3, l4, l5, l6, l7, l8] (.inr x :: st) w Q := zR_go (zst zT_37_101 rfl)
theorem zT_37_102 : zT 37 102 = some (.getfield 32, 3, 0, [(11, 8)]) := by decide +kernel
theorem zr_37_102 {l0 l1 l2 l3 l4 l5 l6 l7 l8 : Option zV} {h : Nat} {st : List zV} {w : zW} {Q : Option zV → zW → Prop} (hk : zk w h = 11) : zR 37 102 [l0, l1, l2, l3, l4, l5, l6, l7, l8] (.inr (some h) :: st) w Q = zR 37 105 [l0, l1, l2, l3, l4, l5, l6, l7, l8] (.inr (zp w 80 h) :: st) w Q := zR_go (zst zT_37_102 (zget_r hk rfl))
theorem zT_37_105 : zT 37 105 = some (.iload_n 1, 1, 0, []) := by decide +kernel
theorem zr_37_105 {l0 l2 l3 l4 l5 l6 l7 l8 : Option zV} {x : Int} {st : List zV} {w : zW} {Q : Option zV → zW → Prop}  : zR 37 105 [l0, some (.inl x), l2, l3, l4, l5, l6, l7, l8] st w Q = zR 37 106 [l0, some (.inl x), l2, l3, l4, l5, l6, l7, l8] (.inl x :: st) w Q := zR_go (zst zT_37_105 rfl)
theorem zT_37_106 : zT 37 106 = some (.iaload, 1, 0, []) := by decide +kernel
theorem zr_37_106 {l0 l1 l2 l3 l4 l5 l6 l7 l8 : Option zV} {j : Int} {h : Nat} {st : List zV} {w : zW} {Q : Option zV → zW → Prop} (hk : (zk w h = zNC ∨ zk w h = zNC + 2) ∧ 0 ≤ zN j ∧ zN j < zl w h) : zR 37 106 [l0, l1, l2, l3, l4, l5, l6, l7, l8] (.inl j :: .inr (some h) :: st) w Q = zR 37 107 [l0, l1, l2, l3, l4, l5, l6, l7, l8] (.inl (za w h (zN j).toNat) :: st) w Q := zR_go (zst zT_37_106 (if_pos hk))
theorem zT_37_107 : zT 37 107 = some (.iastore, 1, 0, []) := by decide +kernel
theorem zr_37_107 {l0 l1 l2 l3 l4 l5 l6 l7 l8 : Option zV} {j x : Int} {h : Nat} {st : List zV} {w : zW} {Q : Option zV → zW → Prop} (hk : zk w h = zNC ∧ 0 ≤ zN j ∧ zN j < zl w h) : zR 37 107 [l0, l1, l2, l3, l4, l5, l6, l7, l8] (.inl x :: .inl j :: .inr (some h) :: st) w Q = zR 37 108 [l0, l1, l2, l3, l4, l5, l6, l7, l8] st (zsa w h (zN j).toNat x) Q := zR_go (zst zT_37_107 (if_pos hk))
theorem zT_37_108 : zT 37 108 = some (.aload_n 0, 1, 0, []) := by decide +kernel
theorem zr_37_108 {l1 l2 l3 l4 l5 l6 l7 l8 : Option zV} {x : Option Nat} {st : List zV} {w : zW} {Q : Option zV → zW → Prop}  : zR 37 108 [some (.inr x), l1, l2, l3, l4, l5, l6, l7, l8] st w Q = zR 37 109 [some (.inr x), l1, l2, l3, l4, l5, l6, l7, l8] (.inr x :: st) w Q := zR_go (zst zT_37_108 rfl)
theorem zT_37_109 : zT 37 109 = some (.getfield 29, 3, 0, [(11, 7)]) := by decide +kernel
theorem zr_37_109 {l0 l1 l2 l3 l4 l5 l6 l7 l8 : Option zV} {h : Nat} {st : List zV} {w : zW} {Q : Option zV → zW → Prop} (hk : zk w h = 11) : zR 37 109 [l0, l1, l2, l3, l4, l5, l6, l7, l8] (.inr (some h) :: st) w Q = zR 37 112 [l0, l1, l2, l3, l4, l5, l6, l7, l8] (.inr (zp w 79 h) :: st) w Q := zR_go (zst zT_37_109 (zget_r hk rfl))
theorem zT_37_112 : zT 37 112 = some (.iload 6, 2, 0, []) := by decide +kernel
theorem zr_37_112 {l0 l1 l2 l3 l4 l5 l7 l8 : Option zV} {x : Int} {st : List zV} {w : zW} {Q : Option zV → zW → Prop}  : zR 37 112 [l0, l1, l2, l3, l4, l5, some (.inl x), l7, l8] st w Q = zR 37 114 [l0, l1, l2, l3, l4, l5, some (.inl x), l7, l8] (.inl x :: st) w Q := zR_go (zst zT_37_112 rfl)
theorem zT_37_114 : zT 37 114 = some (.iconst 2, 1, 0, []) := by decide +kernel
theorem zr_37_114 {l0 l1 l2 l3 l4 l5 l6 l7 l8 : Option zV} {st : List zV} {w : zW} {Q : Option zV → zW → Prop}  : zR 37 114 [l0, l1, l2, l3, l4, l5, l6, l7, l8] st w Q = zR 37 115 [l0, l1, l2, l3, l4, l5, l6, l7, l8] (.inl 2 :: st) w Q := zR_go (zst zT_37_114 rfl)
theorem zT_37_115 : zT 37 115 = some (.iadd, 1, 0, []) := by decide +kernel
theorem zr_37_115 {l0 l1 l2 l3 l4 l5 l6 l7 l8 : Option zV} {x y : Int} {st : List zV} {w : zW} {Q : Option zV → zW → Prop}  : zR 37 115 [l0, l1, l2, l3, l4, l5, l6, l7, l8] (.inl y :: .inl x :: st) w Q = zR 37 116 [l0, l1, l2, l3, l4, l5, l6, l7, l8] (.inl (x + y) :: st) w Q := zR_go (zst zT_37_115 rfl)
theorem zT_37_116 : zT 37 116 = some (.iload 5, 2, 0, []) := by decide +kernel
theorem zr_37_116 {l0 l1 l2 l3 l4 l6 l7 l8 : Option zV} {x : Int} {st : List zV} {w : zW} {Q : Option zV → zW → Prop}  : zR 37 116 [l0, l1, l2, l3, l4, some (.inl x), l6, l7, l8] st w Q = zR 37 118 [l0, l1, l2, l3, l4, some (.inl x), l6, l7, l8] (.inl x :: st) w Q := zR_go (zst zT_37_116 rfl)
theorem zT_37_118 : zT 37 118 = some (.ifCond .ne 9, 3, 0, []) := by decide +kernel
theorem zr_37_118 {l0 l1 l2 l3 l4 l5 l6 l7 l8 : Option zV} {x : Int} {st : List zV} {w : zW} {Q : Option zV → zW → Prop}  : zR 37 118 [l0, l1, l2, l3, l4, l5, l6, l7, l8] (.inl x :: st) w Q = (if zN x ≠ 0 then zR 37 127 [l0, l1, l2, l3, l4, l5, l6, l7, l8] st w Q else zR 37 121 [l0, l1, l2, l3, l4, l5, l6, l7, l8] st w Q) := zR_if (zstB zT_37_118 rfl) (by simp [zcmp])
theorem zT_37_121 : zT 37 121 = some (.sipush 128, 3, 0, []) := by decide +kernel
theorem zr_37_121 {l0 l1 l2 l3 l4 l5 l6 l7 l8 : Option zV} {st : List zV} {w : zW} {Q : Option zV → zW → Prop}  : zR 37 121 [l0, l1, l2, l3, l4, l5, l6, l7, l8] st w Q = zR 37 124 [l0, l1, l2, l3, l4, l5, l6, l7, l8] (.inl 128 :: st) w Q := zR_go (zst zT_37_121 rfl)
theorem zT_37_124 : zT 37 124 = some (.goto 4, 3, 0, []) := by decide +kernel
theorem zr_37_124 {l0 l1 l2 l3 l4 l5 l6 l7 l8 : Option zV} {st : List zV} {w : zW} {Q : Option zV → zW → Prop}  : zR 37 124 [l0, l1, l2, l3, l4, l5, l6, l7, l8] st w Q = zR 37 128 [l0, l1, l2, l3, l4, l5, l6, l7, l8] st w Q := zR_go (zst zT_37_124 rfl)
theorem zT_37_127 : zT 37 127 = some (.iconst 0, 1, 0, []) := by decide +kernel
theorem zr_37_127 {l0 l1 l2 l3 l4 l5 l6 l7 l8 : Option zV} {st : List zV} {w : zW} {Q : Option zV → zW → Prop}  : zR 37 127 [l0, l1, l2, l3, l4, l5, l6, l7, l8] st w Q = zR 37 128 [l0, l1, l2, l3, l4, l5, l6, l7, l8] (.inl 0 :: st) w Q := zR_go (zst zT_37_127 rfl)
theorem zT_37_128 : zT 37 128 = some (.iload 5, 2, 0, []) := by decide +kernel
theorem zr_37_128 {l0 l1 l2 l3 l4 l6 l7 l8 : Option zV} {x : Int} {st : List zV} {w : zW} {Q : Option zV → zW → Prop}  : zR 37 128 [l0, l1, l2, l3, l4, some (.inl x), l6, l7, l8] st w Q = zR 37 130 [l0, l1, l2, l3, l4, some (.inl x), l6, l7, l8] (.inl x :: st) w Q := zR_go (zst zT_37_128 rfl)
theorem zT_37_130 : zT 37 130 = some (.iload 4, 2, 0, []) := by decide +kernel
theorem zr_37_130 {l0 l1 l2 l3 l5 l6 l7 l8 : Option zV} {x : Int} {st : List zV} {w : zW} {Q : Option zV → zW → Prop}  : zR 37 130 [l0, l1, l2, l3, some (.inl x), l5, l6, l7, l8] st w Q = zR 37 132 [l0, l1, l2, l3, some (.inl x), l5, l6, l7, l8] (.inl x :: st) w Q := zR_go (zst zT_37_130 rfl)
theorem zT_37_132 : zT 37 132 = some (.iconst 1, 1, 0, []) := by decide +kernel
theorem zr_37_132 {l0 l1 l2 l3 l4 l5 l6 l7 l8 : Option zV} {st : List zV} {w : zW} {Q : Option zV → zW → Prop}  : zR 37 132 [l0, l1, l2, l3, l4, l5, l6, l7, l8] st w Q = zR 37 133 [l0, l1, l2, l3, l4, l5, l6, l7, l8] (.inl 1 :: st) w Q := zR_go (zst zT_37_132 rfl)
theorem zT_37_133 : zT 37 133 = some (.isub, 1, 0, []) := by decide +kernel
theorem zr_37_133 {l0 l1 l2 l3 l4 l5 l6 l7 l8 : Option zV} {x y : Int} {st : List zV} {w : zW} {Q : Option zV → zW → Prop}  : zR 37 133 [l0, l1, l2, l3, l4, l5, l6, l7, l8] (.inl y :: .inl x :: st) w Q = zR 37 134 [l0, l1, l2, l3, l4, l5, l6, l7, l8] (.inl (x - y) :: st) w Q := zR_go (zst zT_37_133 rfl)
theorem zT_37_134 : zT 37 134 = some (.if_icmp .ne 8, 3, 0, []) := by decide +kernel
theorem zr_37_134 {l0 l1 l2 l3 l4 l5 l6 l7 l8 : Option zV} {x y : Int} {st : List zV} {w : zW} {Q : Option zV → zW → Prop}  : zR 37 134 [l0, l1, l2, l3, l4, l5, l6, l7, l8] (.inl y :: .inl x :: st) w Q = (if zN x ≠ zN y then zR 37 142 [l0, l1, l2, l3, l4, l5, l6, l7, l8] st w Q else zR 37 137 [l0, l1, l2, l3, l4, l5, l6, l7, l8] st w Q) := zR_if (zstB zT_37_134 rfl) (by simp [zcmp])
theorem zT_37_137 : zT 37 137 = some (.bipush 64, 2, 0, []) := by decide +kernel
theorem zr_37_137 {l0 l1 l2 l3 l4 l5 l6 l7 l8 : Option zV} {st : List zV} {w : zW} {Q : Option zV → zW → Prop}  : zR 37 137 [l0, l1, l2, l3, l4, l5, l6, l7, l8] st w Q = zR 37 139 [l0, l1, l2, l3, l4, l5, l6, l7, l8] (.inl 64 :: st) w Q := zR_go (zst zT_37_137 rfl)
theorem zT_37_139 : zT 37 139 = some (.goto 4, 3, 0, []) := by decide +kernel
theorem zr_37_139 {l0 l1 l2 l3 l4 l5 l6 l7 l8 : Option zV} {st : List zV} {w : zW} {Q : Option zV → zW → Prop}  : zR 37 139 [l0, l1, l2, l3, l4, l5, l6, l7, l8] st w Q = zR 37 143 [l0, l1, l2, l3, l4, l5, l6, l7, l8] st w Q := zR_go (zst zT_37_139 rfl)
theorem zT_37_142 : zT 37 142 = some (.iconst 0, 1, 0, []) := by decide +kernel
theorem zr_37_142 {l0 l1 l2 l3 l4 l5 l6 l7 l8 : Option zV} {st : List zV} {w : zW} {Q : Option zV → zW → Prop}  : zR 37 142 [l0, l1, l2, l3, l4, l5, l6, l7, l8] st w Q = zR 37 143 [l0, l1, l2, l3, l4, l5, l6, l7, l8] (.inl 0 :: st) w Q := zR_go (zst zT_37_142 rfl)
theorem zT_37_143 : zT 37 143 = some (.iadd, 1, 0, []) := by decide +kernel
theorem zr_37_143 {l0 l1 l2 l3 l4 l5 l6 l7 l8 : Option zV} {x y : Int} {st : List zV} {w : zW} {Q : Option zV → zW → Prop}  : zR 37 143 [l0, l1, l2, l3, l4, l5, l6, l7, l8] (.inl y :: .inl x :: st) w Q = zR 37 144 [l0, l1, l2, l3, l4, l5, l6, l7, l8] (.inl (x + y) :: st) w Q := zR_go (zst zT_37_143 rfl)
theorem zT_37_144 : zT 37 144 = some (.bipush 16, 2, 0, []) := by decide +kernel
theorem zr_37_144 {l0 l1 l2 l3 l4 l5 l6 l7 l8 : Option zV} {st : List zV} {w : zW} {Q : Option zV → zW → Prop}  : zR 37 144 [l0, l1, l2, l3, l4, l5, l6, l7, l8] st w Q = zR 37 146 [l0, l1, l2, l3, l4, l5, l6, l7, l8] (.inl 16 :: st) w Q := zR_go (zst zT_37_144 rfl)
theorem zT_37_146 : zT 37 146 = some (.iload 5, 2, 0, []) := by decide +kernel
theorem zr_37_146 {l0 l1 l2 l3 l4 l6 l7 l8 : Option zV} {x : Int} {st : List zV} {w : zW} {Q : Option zV → zW → Prop}  : zR 37 146 [l0, l1, l2, l3, l4, some (.inl x), l6, l7, l8] st w Q = zR 37 148 [l0, l1, l2, l3, l4, some (.inl x), l6, l7, l8] (.inl x :: st) w Q := zR_go (zst zT_37_146 rfl)
theorem zT_37_148 : zT 37 148 = some (.imul, 1, 0, []) := by decide +kernel
theorem zr_37_148 {l0 l1 l2 l3 l4 l5 l6 l7 l8 : Option zV} {x y : Int} {st : List zV} {w : zW} {Q : Option zV → zW → Prop}  : zR 37 148 [l0, l1, l2, l3, l4, l5, l6, l7, l8] (.inl y :: .inl x :: st) w Q = zR 37 149 [l0, l1, l2, l3, l4, l5, l6, l7, l8] (.inl (x * y) :: st) w Q := zR_go (zst zT_37_148 rfl)
theorem zT_37_149 : zT 37 149 = some (.iadd, 1, 0, []) := by decide +kernel
theorem zr_37_149 {l0 l1 l2 l3 l4 l5 l6 l7 l8 : Option zV} {x y : Int} {st : List zV} {w : zW} {Q : Option zV → zW → Prop}  : zR 37 149 [l0, l1, l2, l3, l4, l5, l6, l7, l8] (.inl y :: .inl x :: st) w Q = zR 37 150 [l0, l1, l2, l3, l4, l5, l6, l7, l8] (.inl (x + y) :: st) w Q := zR_go (zst zT_37_149 rfl)
theorem zT_37_150 : zT 37 150 = some (.iload_n 3, 1, 0, []) := by decide +kernel
theorem zr_37_150 {l0 l1 l2 l4 l5 l6 l7 l8 : Option zV} {x : Int} {st : List zV} {w : zW} {Q : Option zV → zW → Prop}  : zR 37 150 [l0, l1, l2, some (.inl x), l4, l5, l6, l7, l8] st w Q = zR 37 151 [l0, l1, l2, some (.inl x), l4, l5, l6, l7, l8] (.inl x :: st) w Q := zR_go (zst zT_37_150 rfl)
theorem zT_37_151 : zT 37 151 = some (.iadd, 1, 0, []) := by decide +kernel
theorem zr_37_151 {l0 l1 l2 l3 l4 l5 l6 l7 l8 : Option zV} {x y : Int} {st : List zV} {w : zW} {Q : Option zV → zW → Prop}  : zR 37 151 [l0, l1, l2, l3, l4, l5, l6, l7, l8] (.inl y :: .inl x :: st) w Q = zR 37 152 [l0, l1, l2, l3, l4, l5, l6, l7, l8] (.inl (x + y) :: st) w Q := zR_go (zst zT_37_151 rfl)
theorem zT_37_152 : zT 37 152 = some (.iastore, 1, 0, []) := by decide +kernel
theorem zr_37_152 {l0 l1 l2 l3 l4 l5 l6 l7 l8 : Option zV} {j x : Int} {h : Nat} {st : List zV} {w : zW} {Q : Option zV → zW → Prop} (hk : zk w h = zNC ∧ 0 ≤ zN j ∧ zN j < zl w h) : zR 37 152 [l0, l1, l2, l3, l4, l5, l6, l7, l8] (.inl x :: .inl j :: .inr (some h) :: st) w Q = zR 37 153 [l0, l1, l2, l3, l4, l5, l6, l7, l8] st (zsa w h (zN j).toNat x) Q := zR_go (zst zT_37_152 (if_pos hk))
theorem zT_37_153 : zT 37 153 = some (.aload_n 0, 1, 0, []) := by decide +kernel
theorem zr_37_153 {l1 l2 l3 l4 l5 l6 l7 l8 : Option zV} {x : Option Nat} {st : List zV} {w : zW} {Q : Option zV → zW → Prop}  : zR 37 153 [some (.inr x), l1, l2, l3, l4, l5, l6, l7, l8] st w Q = zR 37 154 [some (.inr x), l1, l2, l3, l4, l5, l6, l7, l8] (.inr x :: st) w Q := zR_go (zst zT_37_153 rfl)
theorem zT_37_154 : zT 37 154 = some (.getfield 29, 3, 0, [(11, 7)]) := by decide +kernel
theorem zr_37_154 {l0 l1 l2 l3 l4 l5 l6 l7 l8 : Option zV} {h : Nat} {st : List zV} {w : zW} {Q : Option zV → zW → Prop} (hk : zk w h = 11) : zR 37 154 [l0, l1, l2, l3, l4, l5, l6, l7, l8] (.inr (some h) :: st) w Q = zR 37 157 [l0, l1, l2, l3, l4, l5, l6, l7, l8] (.inr (zp w 79 h) :: st) w Q := zR_go (zst zT_37_154 (zget_r hk rfl))
theorem zT_37_157 : zT 37 157 = some (.iload 6, 2, 0, []) := by decide +kernel
theorem zr_37_157 {l0 l1 l2 l3 l4 l5 l7 l8 : Option zV} {x : Int} {st : List zV} {w : zW} {Q : Option zV → zW → Prop}  : zR 37 157 [l0, l1, l2, l3, l4, l5, some (.inl x), l7, l8] st w Q = zR 37 159 [l0, l1, l2, l3, l4, l5, some (.inl x), l7, l8] (.inl x :: st) w Q := zR_go (zst zT_37_157 rfl)
theorem zT_37_159 : zT 37 159 = some (.iconst 3, 1, 0, []) := by decide +kernel
theorem zr_37_159 {l0 l1 l2 l3 l4 l5 l6 l7 l8 : Option zV} {st : List zV} {w : zW} {Q : Option zV → zW → Prop}  : zR 37 159 [l0, l1, l2, l3, l4, l5, l6, l7, l8] st w Q = zR 37 160 [l0, l1, l2, l3, l4, l5, l6, l7, l8] (.inl 3 :: st) w Q := zR_go (zst zT_37_159 rfl)
theorem zT_37_160 : zT 37 160 = some (.iadd, 1, 0, []) := by decide +kernel
theorem zr_37_160 {l0 l1 l2 l3 l4 l5 l6 l7 l8 : Option zV} {x y : Int} {st : List zV} {w : zW} {Q : Option zV → zW → Prop}  : zR 37 160 [l0, l1, l2, l3, l4, l5, l6, l7, l8] (.inl y :: .inl x :: st) w Q = zR 37 161 [l0, l1, l2, l3, l4, l5, l6, l7, l8] (.inl (x + y) :: st) w Q := zR_go (zst zT_37_160 rfl)
theorem zT_37_161 : zT 37 161 = some (.iload 7, 2, 0, []) := by decide +kernel
theorem zr_37_161 {l0 l1 l2 l3 l4 l5 l6 l8 : Option zV} {x : Int} {st : List zV} {w : zW} {Q : Option zV → zW → Prop}  : zR 37 161 [l0, l1, l2, l3, l4, l5, l6, some (.inl x), l8] st w Q = zR 37 163 [l0, l1, l2, l3, l4, l5, l6, some (.inl x), l8] (.inl x :: st) w Q := zR_go (zst zT_37_161 rfl)
theorem zT_37_163 : zT 37 163 = some (.iastore, 1, 0, []) := by decide +kernel
theorem zr_37_163 {l0 l1 l2 l3 l4 l5 l6 l7 l8 : Option zV} {j x : Int} {h : Nat} {st : List zV} {w : zW} {Q : Option zV → zW → Prop} (hk : zk w h = zNC ∧ 0 ≤ zN j ∧ zN j < zl w h) : zR 37 163 [l0, l1, l2, l3, l4, l5, l6, l7, l8] (.inl x :: .inl j :: .inr (some h) :: st) w Q = zR 37 164 [l0, l1, l2, l3, l4, l5, l6, l7, l8] st (zsa w h (zN j).toNat x) Q := zR_go (zst zT_37_163 (if_pos hk))
theorem zT_37_164 : zT 37 164 = some (.iconst 0, 1, 0, []) := by decide +kernel
theorem zr_37_164 {l0 l1 l2 l3 l4 l5 l6 l7 l8 : Option zV} {st : List zV} {w : zW} {Q : Option zV → zW → Prop}  : zR 37 164 [l0, l1, l2, l3, l4, l5, l6, l7, l8] st w Q = zR 37 165 [l0, l1, l2, l3, l4, l5, l6, l7, l8] (.inl 0 :: st) w Q := zR_go (zst zT_37_164 rfl)
theorem zT_37_165 : zT 37 165 = some (.istore 8, 2, 0, []) := by decide +kernel
theorem zr_37_165 {l0 l1 l2 l3 l4 l5 l6 l7 l8 : Option zV} {x : Int} {st : List zV} {w : zW} {Q : Option zV → zW → Prop}  : zR 37 165 [l0, l1, l2, l3, l4, l5, l6, l7, l8] (.inl x :: st) w Q = zR 37 167 [l0, l1, l2, l3, l4, l5, l6, l7, some (.inl x)] st w Q := zR_go (zst zT_37_165 rfl)
theorem zT_37_167 : zT 37 167 = some (.iload 8, 2, 0, []) := by decide +kernel
theorem zr_37_167 {l0 l1 l2 l3 l4 l5 l6 l7 : Option zV} {x : Int} {st : List zV} {w : zW} {Q : Option zV → zW → Prop}  : zR 37 167 [l0, l1, l2, l3, l4, l5, l6, l7, some (.inl x)] st w Q = zR 37 169 [l0, l1, l2, l3, l4, l5, l6, l7, some (.inl x)] (.inl x :: st) w Q := zR_go (zst zT_37_167 rfl)
theorem zT_37_169 : zT 37 169 = some (.iload 7, 2, 0, []) := by decide +kernel
theorem zr_37_169 {l0 l1 l2 l3 l4 l5 l6 l8 : Option zV} {x : Int} {st : List zV} {w : zW} {Q : Option zV → zW → Prop}  : zR 37 169 [l0, l1, l2, l3, l4, l5, l6, some (.inl x), l8] st w Q = zR 37 171 [l0, l1, l2, l3, l4, l5, l6, some (.inl x), l8] (.inl x :: st) w Q := zR_go (zst zT_37_169 rfl)
theorem zT_37_171 : zT 37 171 = some (.if_icmp .ge 34, 3, 0, []) := by decide +kernel
theorem zr_37_171 {l0 l1 l2 l3 l4 l5 l6 l7 l8 : Option zV} {x y : Int} {st : List zV} {w : zW} {Q : Option zV → zW → Prop}  : zR 37 171 [l0, l1, l2, l3, l4, l5, l6, l7, l8] (.inl y :: .inl x :: st) w Q = (if zN y ≤ zN x then zR 37 205 [l0, l1, l2, l3, l4, l5, l6, l7, l8] st w Q else zR 37 174 [l0, l1, l2, l3, l4, l5, l6, l7, l8] st w Q) := zR_if (zstB zT_37_171 rfl) (by simp [zcmp])
theorem zT_37_174 : zT 37 174 = some (.aload_n 0, 1, 0, []) := by decide +kernel
theorem zr_37_174 {l1 l2 l3 l4 l5 l6 l7 l8 : Option zV} {x : Option Nat} {st : List zV} {w : zW} {Q : Option zV → zW → Prop}  : zR 37 174 [some (.inr x), l1, l2, l3, l4, l5, l6, l7, l8] st w Q = zR 37 175 [some (.inr x), l1, l2, l3, l4, l5, l6, l7, l8] (.inr x :: st) w Q := zR_go (zst zT_37_174 rfl)
theorem zT_37_175 : zT 37 175 = some (.getfield 29, 3, 0, [(11, 7)]) := by decide +kernel
theorem zr_37_175 {l0 l1 l2 l3 l4 l5 l6 l7 l8 : Option zV} {h : Nat} {st : List zV} {w : zW} {Q : Option zV → zW → Prop} (hk : zk w h = 11) : zR 37 175 [l0, l1, l2, l3, l4, l5, l6, l7, l8] (.inr (some h) :: st) w Q = zR 37 178 [l0, l1, l2, l3, l4, l5, l6, l7, l8] (.inr (zp w 79 h) :: st) w Q := zR_go (zst zT_37_175 (zget_r hk rfl))
theorem zT_37_178 : zT 37 178 = some (.iload 6, 2, 0, []) := by decide +kernel
theorem zr_37_178 {l0 l1 l2 l3 l4 l5 l7 l8 : Option zV} {x : Int} {st : List zV} {w : zW} {Q : Option zV → zW → Prop}  : zR 37 178 [l0, l1, l2, l3, l4, l5, some (.inl x), l7, l8] st w Q = zR 37 180 [l0, l1, l2, l3, l4, l5, some (.inl x), l7, l8] (.inl x :: st) w Q := zR_go (zst zT_37_178 rfl)
theorem zT_37_180 : zT 37 180 = some (.iconst 4, 1, 0, []) := by decide +kernel
theorem zr_37_180 {l0 l1 l2 l3 l4 l5 l6 l7 l8 : Option zV} {st : List zV} {w : zW} {Q : Option zV → zW → Prop}  : zR 37 180 [l0, l1, l2, l3, l4, l5, l6, l7, l8] st w Q = zR 37 181 [l0, l1, l2, l3, l4, l5, l6, l7, l8] (.inl 4 :: st) w Q := zR_go (zst zT_37_180 rfl)
theorem zT_37_181 : zT 37 181 = some (.iadd, 1, 0, []) := by decide +kernel
theorem zr_37_181 {l0 l1 l2 l3 l4 l5 l6 l7 l8 : Option zV} {x y : Int} {st : List zV} {w : zW} {Q : Option zV → zW → Prop}  : zR 37 181 [l0, l1, l2, l3, l4, l5, l6, l7, l8] (.inl y :: .inl x :: st) w Q = zR 37 182 [l0, l1, l2, l3, l4, l5, l6, l7, l8] (.inl (x + y) :: st) w Q := zR_go (zst zT_37_181 rfl)
theorem zT_37_182 : zT 37 182 = some (.iload 8, 2, 0, []) := by decide +kernel
theorem zr_37_182 {l0 l1 l2 l3 l4 l5 l6 l7 : Option zV} {x : Int} {st : List zV} {w : zW} {Q : Option zV → zW → Prop}  : zR 37 182 [l0, l1, l2, l3, l4, l5, l6, l7, some (.inl x)] st w Q = zR 37 184 [l0, l1, l2, l3, l4, l5, l6, l7, some (.inl x)] (.inl x :: st) w Q := zR_go (zst zT_37_182 rfl)
theorem zT_37_184 : zT 37 184 = some (.iadd, 1, 0, []) := by decide +kernel
theorem zr_37_184 {l0 l1 l2 l3 l4 l5 l6 l7 l8 : Option zV} {x y : Int} {st : List zV} {w : zW} {Q : Option zV → zW → Prop}  : zR 37 184 [l0, l1, l2, l3, l4, l5, l6, l7, l8] (.inl y :: .inl x :: st) w Q = zR 37 185 [l0, l1, l2, l3, l4, l5, l6, l7, l8] (.inl (x + y) :: st) w Q := zR_go (zst zT_37_184 rfl)
theorem zT_37_185 : zT 37 185 = some (.aload_n 0, 1, 0, []) := by decide +kernel
theorem zr_37_185 {l1 l2 l3 l4 l5 l6 l7 l8 : Option zV} {x : Option Nat} {st : List zV} {w : zW} {Q : Option zV → zW → Prop}  : zR 37 185 [some (.inr x), l1, l2, l3, l4, l5, l6, l7, l8] st w Q = zR 37 186 [some (.inr x), l1, l2, l3, l4, l5, l6, l7, l8] (.inr x :: st) w Q := zR_go (zst zT_37_185 rfl)
theorem zT_37_186 : zT 37 186 = some (.getfield 113, 3, 0, [(11, 38)]) := by decide +kernel
theorem zr_37_186 {l0 l1 l2 l3 l4 l5 l6 l7 l8 : Option zV} {h : Nat} {st : List zV} {w : zW} {Q : Option zV → zW → Prop} (hk : zk w h = 11) : zR 37 186 [l0, l1, l2, l3, l4, l5, l6, l7, l8] (.inr (some h) :: st) w Q = zR 37 189 [l0, l1, l2, l3, l4, l5, l6, l7, l8] (.inr (zp w 110 h) :: st) w Q := zR_go (zst zT_37_186 (zget_r hk rfl))
theorem zT_37_189 : zT 37 189 = some (.bipush 8, 2, 0, []) := by decide +kernel
theorem zr_37_189 {l0 l1 l2 l3 l4 l5 l6 l7 l8 : Option zV} {st : List zV} {w : zW} {Q : Option zV → zW → Prop}  : zR 37 189 [l0, l1, l2, l3, l4, l5, l6, l7, l8] st w Q = zR 37 191 [l0, l1, l2, l3, l4, l5, l6, l7, l8] (.inl 8 :: st) w Q := zR_go (zst zT_37_189 rfl)
theorem zT_37_191 : zT 37 191 = some (.iload 5, 2, 0, []) := by decide +kernel
theorem zr_37_191 {l0 l1 l2 l3 l4 l6 l7 l8 : Option zV} {x : Int} {st : List zV} {w : zW} {Q : Option zV → zW → Prop}  : zR 37 191 [l0, l1, l2, l3, l4, some (.inl x), l6, l7, l8] st w Q = zR 37 193 [l0, l1, l2, l3, l4, some (.inl x), l6, l7, l8] (.inl x :: st) w Q := zR_go (zst zT_37_191 rfl)
theorem zT_37_193 : zT 37 193 = some (.imul, 1, 0, []) := by decide +kernel
theorem zr_37_193 {l0 l1 l2 l3 l4 l5 l6 l7 l8 : Option zV} {x y : Int} {st : List zV} {w : zW} {Q : Option zV → zW → Prop}  : zR 37 193 [l0, l1, l2, l3, l4, l5, l6, l7, l8] (.inl y :: .inl x :: st) w Q = zR 37 194 [l0, l1, l2, l3, l4, l5, l6, l7, l8] (.inl (x * y) :: st) w Q := zR_go (zst zT_37_193 rfl)
theorem zT_37_194 : zT 37 194 = some (.iload 8, 2, 0, []) := by decide +kernel
theorem zr_37_194 {l0 l1 l2 l3 l4 l5 l6 l7 : Option zV} {x : Int} {st : List zV} {w : zW} {Q : Option zV → zW → Prop}  : zR 37 194 [l0, l1, l2, l3, l4, l5, l6, l7, some (.inl x)] st w Q = zR 37 196 [l0, l1, l2, l3, l4, l5, l6, l7, some (.inl x)] (.inl x :: st) w Q := zR_go (zst zT_37_194 rfl)
theorem zT_37_196 : zT 37 196 = some (.iadd, 1, 0, []) := by decide +kernel
theorem zr_37_196 {l0 l1 l2 l3 l4 l5 l6 l7 l8 : Option zV} {x y : Int} {st : List zV} {w : zW} {Q : Option zV → zW → Prop}  : zR 37 196 [l0, l1, l2, l3, l4, l5, l6, l7, l8] (.inl y :: .inl x :: st) w Q = zR 37 197 [l0, l1, l2, l3, l4, l5, l6, l7, l8] (.inl (x + y) :: st) w Q := zR_go (zst zT_37_196 rfl)
theorem zT_37_197 : zT 37 197 = some (.iaload, 1, 0, []) := by decide +kernel
theorem zr_37_197 {l0 l1 l2 l3 l4 l5 l6 l7 l8 : Option zV} {j : Int} {h : Nat} {st : List zV} {w : zW} {Q : Option zV → zW → Prop} (hk : (zk w h = zNC ∨ zk w h = zNC + 2) ∧ 0 ≤ zN j ∧ zN j < zl w h) : zR 37 197 [l0, l1, l2, l3, l4, l5, l6, l7, l8] (.inl j :: .inr (some h) :: st) w Q = zR 37 198 [l0, l1, l2, l3, l4, l5, l6, l7, l8] (.inl (za w h (zN j).toNat) :: st) w Q := zR_go (zst zT_37_197 (if_pos hk))
theorem zT_37_198 : zT 37 198 = some (.iastore, 1, 0, []) := by decide +kernel
theorem zr_37_198 {l0 l1 l2 l3 l4 l5 l6 l7 l8 : Option zV} {j x : Int} {h : Nat} {st : List zV} {w : zW} {Q : Option zV → zW → Prop} (hk : zk w h = zNC ∧ 0 ≤ zN j ∧ zN j < zl w h) : zR 37 198 [l0, l1, l2, l3, l4, l5, l6, l7, l8] (.inl x :: .inl j :: .inr (some h) :: st) w Q = zR 37 199 [l0, l1, l2, l3, l4, l5, l6, l7, l8] st (zsa w h (zN j).toNat x) Q := zR_go (zst zT_37_198 (if_pos hk))
theorem zT_37_199 : zT 37 199 = some (.iinc 8 1, 3, 0, []) := by decide +kernel
theorem zr_37_199 {l0 l1 l2 l3 l4 l5 l6 l7 : Option zV} {x : Int} {st : List zV} {w : zW} {Q : Option zV → zW → Prop}  : zR 37 199 [l0, l1, l2, l3, l4, l5, l6, l7, some (.inl x)] st w Q = zR 37 202 [l0, l1, l2, l3, l4, l5, l6, l7, some (.inl (x + 1))] st w Q := zR_go (zst zT_37_199 rfl)
theorem zT_37_202 : zT 37 202 = some (.goto (-35), 3, 0, []) := by decide +kernel
theorem zr_37_202 {l0 l1 l2 l3 l4 l5 l6 l7 l8 : Option zV} {st : List zV} {w : zW} {Q : Option zV → zW → Prop}  : zR 37 202 [l0, l1, l2, l3, l4, l5, l6, l7, l8] st w Q = zR 37 167 [l0, l1, l2, l3, l4, l5, l6, l7, l8] st w Q := zR_go (zst zT_37_202 rfl)
theorem zT_37_205 : zT 37 205 = some (.aload_n 0, 1, 0, []) := by decide +kernel
theorem zr_37_205 {l1 l2 l3 l4 l5 l6 l7 l8 : Option zV} {x : Option Nat} {st : List zV} {w : zW} {Q : Option zV → zW → Prop}  : zR 37 205 [some (.inr x), l1, l2, l3, l4, l5, l6, l7, l8] st w Q = zR 37 206 [some (.inr x), l1, l2, l3, l4, l5, l6, l7, l8] (.inr x :: st) w Q := zR_go (zst zT_37_205 rfl)
theorem zT_37_206 : zT 37 206 = some (.getfield 26, 3, 0, [(11, 6)]) := by decide +kernel
theorem zr_37_206 {l0 l1 l2 l3 l4 l5 l6 l7 l8 : Option zV} {h : Nat} {st : List zV} {w : zW} {Q : Option zV → zW → Prop} (hk : zk w h = 11) : zR 37 206 [l0, l1, l2, l3, l4, l5, l6, l7, l8] (.inr (some h) :: st) w Q = zR 37 209 [l0, l1, l2, l3, l4, l5, l6, l7, l8] (.inr (zp w 78 h) :: st) w Q := zR_go (zst zT_37_206 (zget_r hk rfl))
theorem zT_37_209 : zT 37 209 = some (.iload_n 1, 1, 0, []) := by decide +kernel
theorem zr_37_209 {l0 l2 l3 l4 l5 l6 l7 l8 : Option zV} {x : Int} {st : List zV} {w : zW} {Q : Option zV → zW → Prop}  : zR 37 209 [l0, some (.inl x), l2, l3, l4, l5, l6, l7, l8] st w Q = zR 37 210 [l0, some (.inl x), l2, l3, l4, l5, l6, l7, l8] (.inl x :: st) w Q := zR_go (zst zT_37_209 rfl)
theorem zT_37_210 : zT 37 210 = some (.dup2, 1, 0, []) := by decide +kernel
theorem zr_37_210 {l0 l1 l2 l3 l4 l5 l6 l7 l8 : Option zV} {u v : zV} {st : List zV} {w : zW} {Q : Option zV → zW → Prop}  : zR 37 210 [l0, l1, l2, l3, l4, l5, l6, l7, l8] (v :: u :: st) w Q = zR 37 211 [l0, l1, l2, l3, l4, l5, l6, l7, l8] (v :: u :: v :: u :: st) w Q := zR_go (zst zT_37_210 rfl)
theorem zT_37_211 : zT 37 211 = some (.iaload, 1, 0, []) := by decide +kernel
theorem zr_37_211 {l0 l1 l2 l3 l4 l5 l6 l7 l8 : Option zV} {j : Int} {h : Nat} {st : List zV} {w : zW} {Q : Option zV → zW → Prop} (hk : (zk w h = zNC ∨ zk w h = zNC + 2) ∧ 0 ≤ zN j ∧ zN j < zl w h) : zR 37 211 [l0, l1, l2, l3, l4, l5, l6, l7, l8] (.inl j :: .inr (some h) :: st) w Q = zR 37 212 [l0, l1, l2, l3, l4, l5, l6, l7, l8] (.inl (za w h (zN j).toNat) :: st) w Q := zR_go (zst zT_37_211 (if_pos hk))
theorem zT_37_212 : zT 37 212 = some (.iconst 1, 1, 0, []) := by decide +kernel
theorem zr_37_212 {l0 l1 l2 l3 l4 l5 l6 l7 l8 : Option zV} {st : List zV} {w : zW} {Q : Option zV → zW → Prop}  : zR 37 212 [l0, l1, l2, l3, l4, l5, l6, l7, l8] st w Q = zR 37 213 [l0, l1, l2, l3, l4, l5, l6, l7, l8] (.inl 1 :: st) w Q := zR_go (zst zT_37_212 rfl)
theorem zT_37_213 : zT 37 213 = some (.iadd, 1, 0, []) := by decide +kernel
theorem zr_37_213 {l0 l1 l2 l3 l4 l5 l6 l7 l8 : Option zV} {x y : Int} {st : List zV} {w : zW} {Q : Option zV → zW → Prop}  : zR 37 213 [l0, l1, l2, l3, l4, l5, l6, l7, l8] (.inl y :: .inl x :: st) w Q = zR 37 214 [l0, l1, l2, l3, l4, l5, l6, l7, l8] (.inl (x + y) :: st) w Q := zR_go (zst zT_37_213 rfl)
theorem zT_37_214 : zT 37 214 = some (.iastore, 1, 0, []) := by decide +kernel
theorem zr_37_214 {l0 l1 l2 l3 l4 l5 l6 l7 l8 : Option zV} {j x : Int} {h : Nat} {st : List zV} {w : zW} {Q : Option zV → zW → Prop} (hk : zk w h = zNC ∧ 0 ≤ zN j ∧ zN j < zl w h) : zR 37 214 [l0, l1, l2, l3, l4, l5, l6, l7, l8] (.inl x :: .inl j :: .inr (some h) :: st) w Q = zR 37 215 [l0, l1, l2, l3, l4, l5, l6, l7, l8] st (zsa w h (zN j).toNat x) Q := zR_go (zst zT_37_214 (if_pos hk))
theorem zT_37_215 : zT 37 215 = some (.iinc 5 1, 3, 0, []) := by decide +kernel
theorem zr_37_215 {l0 l1 l2 l3 l4 l6 l7 l8 : Option zV} {x : Int} {st : List zV} {w : zW} {Q : Option zV → zW → Prop}  : zR 37 215 [l0, l1, l2, l3, l4, some (.inl x), l6, l7, l8] st w Q = zR 37 218 [l0, l1, l2, l3, l4, some (.inl (x + 1)), l6, l7, l8] st w Q := zR_go (zst zT_37_215 rfl)
theorem zT_37_218 : zT 37 218 = some (.goto (-188), 3, 0, []) := by decide +kernel
theorem zr_37_218 {l0 l1 l2 l3 l4 l5 l6 l7 l8 : Option zV} {st : List zV} {w : zW} {Q : Option zV → zW → Prop}  : zR 37 218 [l0, l1, l2, l3, l4, l5, l6, l7, l8] st w Q = zR 37 30 [l0, l1, l2, l3, l4, l5, l6, l7, l8] st w Q := zR_go (zst zT_37_218 rfl)
theorem zT_37_221 : zT 37 221 = some (.return_, 1, 0, []) := by decide +kernel
theorem zr_37_221 {l0 l1 l2 l3 l4 l5 l6 l7 l8 : Option zV} {w : zW} {Q : Option zV → zW → Prop} : zR 37 221 [l0, l1, l2, l3, l4, l5, l6, l7, l8] [] w Q = Q none w := zR_ret (zst zT_37_221 rfl)
theorem zT_38_0 : zT 38 0 = some (.aload_n 0, 1, 0, []) := by decide +kernel
theorem zr_38_0 {l1 l2 l3 : Option zV} {x : Option Nat} {st : List zV} {w : zW} {Q : Option zV → zW → Prop}  : zR 38 0 [some (.inr x), l1, l2, l3] st w Q = zR 38 1 [some (.inr x), l1, l2, l3] (.inr x :: st) w Q := zR_go (zst zT_38_0 rfl)
theorem zT_38_1 : zT 38 1 = some (.getfield 47, 3, 0, [(11, 13)]) := by decide +kernel
theorem zr_38_1 {l0 l1 l2 l3 : Option zV} {h : Nat} {st : List zV} {w : zW} {Q : Option zV → zW → Prop} (hk : zk w h = 11) : zR 38 1 [l0, l1, l2, l3] (.inr (some h) :: st) w Q = zR 38 4 [l0, l1, l2, l3] (.inr (zp w 85 h) :: st) w Q := zR_go (zst zT_38_1 (zget_r hk rfl))
theorem zT_38_4 : zT 38 4 = some (.iload_n 1, 1, 0, []) := by decide +kernel
theorem zr_38_4 {l0 l2 l3 : Option zV} {x : Int} {st : List zV} {w : zW} {Q : Option zV → zW → Prop}  : zR 38 4 [l0, some (.inl x), l2, l3] st w Q = zR 38 5 [l0, some (.inl x), l2, l3] (.inl x :: st) w Q := zR_go (zst zT_38_4 rfl)
theorem zT_38_5 : zT 38 5 = some (.iaload, 1, 0, []) := by decide +kernel
theorem zr_38_5 {l0 l1 l2 l3 : Option zV} {j : Int} {h : Nat} {st : List zV} {w : zW} {Q : Option zV → zW → Prop} (hk : (zk w h = zNC ∨ zk w h = zNC + 2) ∧ 0 ≤ zN j ∧ zN j < zl w h) : zR 38 5 [l0, l1, l2, l3] (.inl j :: .inr (some h) :: st) w Q = zR 38 6 [l0, l1, l2, l3] (.inl (za w h (zN j).toNat) :: st) w Q := zR_go (zst zT_38_5 (if_pos hk))
theorem zT_38_6 : zT 38 6 = some (.istore_n 2, 1, 0, []) := by decide +kernel
theorem zr_38_6 {l0 l1 l2 l3 : Option zV} {x : Int} {st : List zV} {w : zW} {Q : Option zV → zW → Prop}  : zR 38 6 [l0, l1, l2, l3] (.inl x :: st) w Q = zR 38 7 [l0, l1, some (.inl x), l3] st w Q := zR_go (zst zT_38_6 rfl)
theorem zT_38_7 : zT 38 7 = some (.iconst 0, 1, 0, []) := by decide +kernel
theorem zr_38_7 {l0 l1 l2 l3 : Option zV} {st : List zV} {w : zW} {Q : Option zV → zW → Prop}  : zR 38 7 [l0, l1, l2, l3] st w Q = zR 38 8 [l0, l1, l2, l3] (.inl 0 :: st) w Q := zR_go (zst zT_38_7 rfl)
theorem zT_38_8 : zT 38 8 = some (.istore_n 3, 1, 0, []) := by decide +kernel
theorem zr_38_8 {l0 l1 l2 l3 : Option zV} {x : Int} {st : List zV} {w : zW} {Q : Option zV → zW → Prop}  : zR 38 8 [l0, l1, l2, l3] (.inl x :: st) w Q = zR 38 9 [l0, l1, l2, some (.inl x)] st w Q := zR_go (zst zT_38_8 rfl)
theorem zT_38_9 : zT 38 9 = some (.iload_n 2, 1, 0, []) := by decide +kernel
theorem zr_38_9 {l0 l1 l3 : Option zV} {x : Int} {st : List zV} {w : zW} {Q : Option zV → zW → Prop}  : zR 38 9 [l0, l1, some (.inl x), l3] st w Q = zR 38 10 [l0, l1, some (.inl x), l3] (.inl x :: st) w Q := zR_go (zst zT_38_9 rfl)
theorem zT_38_10 : zT 38 10 = some (.aload_n 0, 1, 0, []) := by decide +kernel
theorem zr_38_10 {l1 l2 l3 : Option zV} {x : Option Nat} {st : List zV} {w : zW} {Q : Option zV → zW → Prop}  : zR 38 10 [some (.inr x), l1, l2, l3] st w Q = zR 38 11 [some (.inr x), l1, l2, l3] (.inr x :: st) w Q := zR_go (zst zT_38_10 rfl)
theorem zT_38_11 : zT 38 11 = some (.getfield 53, 3, 0, [(11, 15)]) := by decide +kernel
theorem zr_38_11 {l0 l1 l2 l3 : Option zV} {h : Nat} {st : List zV} {w : zW} {Q : Option zV → zW → Prop} (hk : zk w h = 11) : zR 38 11 [l0, l1, l2, l3] (.inr (some h) :: st) w Q = zR 38 14 [l0, l1, l2, l3] (.inr (zp w 87 h) :: st) w Q := zR_go (zst zT_38_11 (zget_r hk rfl))
theorem zT_38_14 : zT 38 14 = some (.iload_n 1, 1, 0, []) := by decide +kernel
theorem zr_38_14 {l0 l2 l3 : Option zV} {x : Int} {st : List zV} {w : zW} {Q : Option zV → zW → Prop}  : zR 38 14 [l0, some (.inl x), l2, l3] st w Q = zR 38 15 [l0, some (.inl x), l2, l3] (.inl x :: st) w Q := zR_go (zst zT_38_14 rfl)
theorem zT_38_15 : zT 38 15 = some (.iaload, 1, 0, []) := by decide +kernel
theorem zr_38_15 {l0 l1 l2 l3 : Option zV} {j : Int} {h : Nat} {st : List zV} {w : zW} {Q : Option zV → zW → Prop} (hk : (zk w h = zNC ∨ zk w h = zNC + 2) ∧ 0 ≤ zN j ∧ zN j < zl w h) : zR 38 15 [l0, l1, l2, l3] (.inl j :: .inr (some h) :: st) w Q = zR 38 16 [l0, l1, l2, l3] (.inl (za w h (zN j).toNat) :: st) w Q := zR_go (zst zT_38_15 (if_pos hk))
theorem zT_38_16 : zT 38 16 = some (.if_icmp .gt 30, 3, 0, []) := by decide +kernel
theorem zr_38_16 {l0 l1 l2 l3 : Option zV} {x y : Int} {st : List zV} {w : zW} {Q : Option zV → zW → Prop}  : zR 38 16 [l0, l1, l2, l3] (.inl y :: .inl x :: st) w Q = (if zN y < zN x then zR 38 46 [l0, l1, l2, l3] st w Q else zR 38 19 [l0, l1, l2, l3] st w Q) := zR_if (zstB zT_38_16 rfl) (by simp [zcmp])
theorem zT_38_19 : zT 38 19 = some (.aload_n 0, 1, 0, []) := by decide +kernel
theorem zr_38_19 {l1 l2 l3 : Option zV} {x : Option Nat} {st : List zV} {w : zW} {Q : Option zV → zW → Prop}  : zR 38 19 [some (.inr x), l1, l2, l3] st w Q = zR 38 20 [some (.inr x), l1, l2, l3] (.inr x :: st) w Q := zR_go (zst zT_38_19 rfl)
theorem zT_38_20 : zT 38 20 = some (.getfield 59, 3, 0, [(11, 17)]) := by decide +kernel
theorem zr_38_20 {l0 l1 l2 l3 : Option zV} {h : Nat} {st : List zV} {w : zW} {Q : Option zV → zW → Prop} (hk : zk w h = 11) : zR 38 20 [l0, l1, l2, l3] (.inr (some h) :: st) w Q = zR 38 23 [l0, l1, l2, l3] (.inr (zp w 89 h) :: st) w Q := zR_go (zst zT_38_20 (zget_r hk rfl))
theorem zT_38_23 : zT 38 23 = some (.iload_n 1, 1, 0, []) := by decide +kernel
theorem zr_38_23 {l0 l2 l3 : Option zV} {x : Int} {st : List zV} {w : zW} {Q : Option zV → zW → Prop}  : zR 38 23 [l0, some (.inl x), l2, l3] st w Q = zR 38 24 [l0, some (.inl x), l2, l3] (.inl x :: st) w Q := zR_go (zst zT_38_23 rfl)
theorem zT_38_24 : zT 38 24 = some (.iaload, 1, 0, []) := by decide +kernel
theorem zr_38_24 {l0 l1 l2 l3 : Option zV} {j : Int} {h : Nat} {st : List zV} {w : zW} {Q : Option zV → zW → Prop} (hk : (zk w h = zNC ∨ zk w h = zNC + 2) ∧ 0 ≤ zN j ∧ zN j < zl w h) : zR 38 24 [l0, l1, l2, l3] (.inl j :: .inr (some h) :: st) w Q = zR 38 25 [l0, l1, l2, l3] (.inl (za w h (zN j).toNat) :: st) w Q := zR_go (zst zT_38_24 (if_pos hk))
theorem zT_38_25 : zT 38 25 = some (.iconst 2, 1, 0, []) := by decide +kernel
theorem zr_38_25 {l0 l1 l2 l3 : Option zV} {st : List zV} {w : zW} {Q : Option zV → zW → Prop}  : zR 38 25 [l0, l1, l2, l3] st w Q = zR 38 26 [l0, l1, l2, l3] (.inl 2 :: st) w Q := zR_go (zst zT_38_25 rfl)
theorem zT_38_26 : zT 38 26 = some (.if_icmp .ne 25, 3, 0, []) := by decide +kernel
theorem zr_38_26 {l0 l1 l2 l3 : Option zV} {x y : Int} {st : List zV} {w : zW} {Q : Option zV → zW → Prop}  : zR 38 26 [l0, l1, l2, l3] (.inl y :: .inl x :: st) w Q = (if zN x ≠ zN y then zR 38 51 [l0, l1, l2, l3] st w Q else zR 38 29 [l0, l1, l2, l3] st w Q) := zR_if (zstB zT_38_26 rfl) (by simp [zcmp])
theorem zT_38_29 : zT 38 29 = some (.iload_n 2, 1, 0, []) := by decide +kernel
theorem zr_38_29 {l0 l1 l3 : Option zV} {x : Int} {st : List zV} {w : zW} {Q : Option zV → zW → Prop}  : zR 38 29 [l0, l1, some (.inl x), l3] st w Q = zR 38 30 [l0, l1, some (.inl x), l3] (.inl x :: st) w Q := zR_go (zst zT_38_29 rfl)
theorem zT_38_30 : zT 38 30 = some (.aload_n 0, 1, 0, []) := by decide +kernel
theorem zr_38_30 {l1 l2 l3 : Option zV} {x : Option Nat} {st : List zV} {w : zW} {Q : Option zV → zW → Prop}  : zR 38 30 [some (.inr x), l1, l2, l3] st w Q = zR 38 31 [some (.inr x), l1, l2, l3] (.inr x :: st) w Q := zR_go (zst zT_38_30 rfl)
theorem zT_38_31 : zT 38 31 = some (.getfield 53, 3, 0, [(11, 15)]) := by decide +kernel
theorem zr_38_31 {l0 l1 l2 l3 : Option zV} {h : Nat} {st : List zV} {w : zW} {Q : Option zV → zW → Prop} (hk : zk w h = 11) : zR 38 31 [l0, l1, l2, l3] (.inr (some h) :: st) w Q = zR 38 34 [l0, l1, l2, l3] (.inr (zp w 87 h) :: st) w Q := zR_go (zst zT_38_31 (zget_r hk rfl))
theorem zT_38_34 : zT 38 34 = some (.iload_n 1, 1, 0, []) := by decide +kernel
theorem zr_38_34 {l0 l2 l3 : Option zV} {x : Int} {st : List zV} {w : zW} {Q : Option zV → zW → Prop}  : zR 38 34 [l0, some (.inl x), l2, l3] st w Q = zR 38 35 [l0, some (.inl x), l2, l3] (.inl x :: st) w Q := zR_go (zst zT_38_34 rfl)
theorem zT_38_35 : zT 38 35 = some (.iaload, 1, 0, []) := by decide +kernel
theorem zr_38_35 {l0 l1 l2 l3 : Option zV} {j : Int} {h : Nat} {st : List zV} {w : zW} {Q : Option zV → zW → Prop} (hk : (zk w h = zNC ∨ zk w h = zNC + 2) ∧ 0 ≤ zN j ∧ zN j < zl w h) : zR 38 35 [l0, l1, l2, l3] (.inl j :: .inr (some h) :: st) w Q = zR 38 36 [l0, l1, l2, l3] (.inl (za w h (zN j).toNat) :: st) w Q := zR_go (zst zT_38_35 (if_pos hk))
theorem zT_38_36 : zT 38 36 = some (.aload_n 0, 1, 0, []) := by decide +kernel
theorem zr_38_36 {l1 l2 l3 : Option zV} {x : Option Nat} {st : List zV} {w : zW} {Q : Option zV → zW → Prop}  : zR 38 36 [some (.inr x), l1, l2, l3] st w Q = zR 38 37 [some (.inr x), l1, l2, l3] (.inr x :: st) w Q := zR_go (zst zT_38_36 rfl)
theorem zT_38_37 : zT 38 37 = some (.getfield 56, 3, 0, [(11, 16)]) := by decide +kernel
theorem zr_38_37 {l0 l1 l2 l3 : Option zV} {h : Nat} {st : List zV} {w : zW} {Q : Option zV → zW → Prop} (hk : zk w h = 11) : zR 38 37 [l0, l1, l2, l3] (.inr (some h) :: st) w Q = zR 38 40 [l0, l1, l2, l3] (.inr (zp w 88 h) :: st) w Q := zR_go (zst zT_38_37 (zget_r hk rfl))
theorem zT_38_40 : zT 38 40 = some (.iload_n 1, 1, 0, []) := by decide +kernel
theorem zr_38_40 {l0 l2 l3 : Option zV} {x : Int} {st : List zV} {w : zW} {Q : Option zV → zW → Prop}  : zR 38 40 [l0, some (.inl x), l2, l3] st w Q = zR 38 41 [l0, some (.inl x), l2, l3] (.inl x :: st) w Q := zR_go (zst zT_38_40 rfl)
theorem zT_38_41 : zT 38 41 = some (.iaload, 1, 0, []) := by decide +kernel
theorem zr_38_41 {l0 l1 l2 l3 : Option zV} {j : Int} {h : Nat} {st : List zV} {w : zW} {Q : Option zV → zW → Prop} (hk : (zk w h = zNC ∨ zk w h = zNC + 2) ∧ 0 ≤ zN j ∧ zN j < zl w h) : zR 38 41 [l0, l1, l2, l3] (.inl j :: .inr (some h) :: st) w Q = zR 38 42 [l0, l1, l2, l3] (.inl (za w h (zN j).toNat) :: st) w Q := zR_go (zst zT_38_41 (if_pos hk))
theorem zT_38_42 : zT 38 42 = some (.isub, 1, 0, []) := by decide +kernel
theorem zr_38_42 {l0 l1 l2 l3 : Option zV} {x y : Int} {st : List zV} {w : zW} {Q : Option zV → zW → Prop}  : zR 38 42 [l0, l1, l2, l3] (.inl y :: .inl x :: st) w Q = zR 38 43 [l0, l1, l2, l3] (.inl (x - y) :: st) w Q := zR_go (zst zT_38_42 rfl)
theorem zT_38_43 : zT 38 43 = some (.if_icmp .lt 8, 3, 0, []) := by decide +kernel
theorem zr_38_43 {l0 l1 l2 l3 : Option zV} {x y : Int} {st : List zV} {w : zW} {Q : Option zV → zW → Prop}  : zR 38 43 [l0, l1, l2, l3] (.inl y :: .inl x :: st) w Q = (if zN x < zN y then zR 38 51 [l0, l1, l2, l3] st w Q else zR 38 46 [l0, l1, l2, l3] st w Q) := zR_if (zstB zT_38_43 rfl) (by simp [zcmp])
theorem zT_38_46 : zT 38 46 = some (.iconst 2, 1, 0, []) := by decide +kernel
theorem zr_38_46 {l0 l1 l2 l3 : Option zV} {st : List zV} {w : zW} {Q : Option zV → zW → Prop}  : zR 38 46 [l0, l1, l2, l3] st w Q = zR 38 47 [l0, l1, l2, l3] (.inl 2 :: st) w Q := zR_go (zst zT_38_46 rfl)
theorem zT_38_47 : zT 38 47 = some (.istore_n 3, 1, 0, []) := by decide +kernel
theorem zr_38_47 {l0 l1 l2 l3 : Option zV} {x : Int} {st : List zV} {w : zW} {Q : Option zV → zW → Prop}  : zR 38 47 [l0, l1, l2, l3] (.inl x :: st) w Q = zR 38 48 [l0, l1, l2, some (.inl x)] st w Q := zR_go (zst zT_38_47 rfl)
theorem zT_38_48 : zT 38 48 = some (.goto 42, 3, 0, []) := by decide +kernel
theorem zr_38_48 {l0 l1 l2 l3 : Option zV} {st : List zV} {w : zW} {Q : Option zV → zW → Prop}  : zR 38 48 [l0, l1, l2, l3] st w Q = zR 38 90 [l0, l1, l2, l3] st w Q := zR_go (zst zT_38_48 rfl)
theorem zT_38_51 : zT 38 51 = some (.iload_n 2, 1, 0, []) := by decide +kernel
theorem zr_38_51 {l0 l1 l3 : Option zV} {x : Int} {st : List zV} {w : zW} {Q : Option zV → zW → Prop}  : zR 38 51 [l0, l1, some (.inl x), l3] st w Q = zR 38 52 [l0, l1, some (.inl x), l3] (.inl x :: st) w Q := zR_go (zst zT_38_51 rfl)
theorem zT_38_52 : zT 38 52 = some (.aload_n 0, 1, 0, []) := by decide +kernel
theorem zr_38_52 {l1 l2 l3 : Option zV} {x : Option Nat} {st : List zV} {w : zW} {Q : Option zV → zW → Prop}  : zR 38 52 [some (.inr x), l1, l2, l3] st w Q = zR 38 53 [some (.inr x), l1, l2, l3] (.inr x :: st) w Q := zR_go (zst zT_38_52 rfl)
theorem zT_38_53 : zT 38 53 = some (.getfield 50, 3, 0, [(11, 14)]) := by decide +kernel
theorem zr_38_53 {l0 l1 l2 l3 : Option zV} {h : Nat} {st : List zV} {w : zW} {Q : Option zV → zW → Prop} (hk : zk w h = 11) : zR 38 53 [l0, l1, l2, l3] (.inr (some h) :: st) w Q = zR 38 56 [l0, l1, l2, l3] (.inr (zp w 86 h) :: st) w Q := zR_go (zst zT_38_53 (zget_r hk rfl))
theorem zT_38_56 : zT 38 56 = some (.iload_n 1, 1, 0, []) := by decide +kernel
theorem zr_38_56 {l0 l2 l3 : Option zV} {x : Int} {st : List zV} {w : zW} {Q : Option zV → zW → Prop}  : zR 38 56 [l0, some (.inl x), l2, l3] st w Q = zR 38 57 [l0, some (.inl x), l2, l3] (.inl x :: st) w Q := zR_go (zst zT_38_56 rfl)
theorem zT_38_57 : zT 38 57 = some (.iaload, 1, 0, []) := by decide +kernel
theorem zr_38_57 {l0 l1 l2 l3 : Option zV} {j : Int} {h : Nat} {st : List zV} {w : zW} {Q : Option zV → zW → Prop} (hk : (zk w h = zNC ∨ zk w h = zNC + 2) ∧ 0 ≤ zN j ∧ zN j < zl w h) : zR 38 57 [l0, l1, l2, l3] (.inl j :: .inr (some h) :: st) w Q = zR 38 58 [l0, l1, l2, l3] (.inl (za w h (zN j).toNat) :: st) w Q := zR_go (zst zT_38_57 (if_pos hk))
theorem zT_38_58 : zT 38 58 = some (.if_icmp .lt 30, 3, 0, []) := by decide +kernel
theorem zr_38_58 {l0 l1 l2 l3 : Option zV} {x y : Int} {st : List zV} {w : zW} {Q : Option zV → zW → Prop}  : zR 38 58 [l0, l1, l2, l3] (.inl y :: .inl x :: st) w Q = (if zN x < zN y then zR 38 88 [l0, l1, l2, l3] st w Q else zR 38 61 [l0, l1, l2, l3] st w Q) := zR_if (zstB zT_38_58 rfl) (by simp [zcmp])
theorem zT_38_61 : zT 38 61 = some (.aload_n 0, 1, 0, []) := by decide +kernel
theorem zr_38_61 {l1 l2 l3 : Option zV} {x : Option Nat} {st : List zV} {w : zW} {Q : Option zV → zW → Prop}  : zR 38 61 [some (.inr x), l1, l2, l3] st w Q = zR 38 62 [some (.inr x), l1, l2, l3] (.inr x :: st) w Q := zR_go (zst zT_38_61 rfl)
theorem zT_38_62 : zT 38 62 = some (.getfield 59, 3, 0, [(11, 17)]) := by decide +kernel
theorem zr_38_62 {l0 l1 l2 l3 : Option zV} {h : Nat} {st : List zV} {w : zW} {Q : Option zV → zW → Prop} (hk : zk w h = 11) : zR 38 62 [l0, l1, l2, l3] (.inr (some h) :: st) w Q = zR 38 65 [l0, l1, l2, l3] (.inr (zp w 89 h) :: st) w Q := zR_go (zst zT_38_62 (zget_r hk rfl))
theorem zT_38_65 : zT 38 65 = some (.iload_n 1, 1, 0, []) := by decide +kernel
theorem zr_38_65 {l0 l2 l3 : Option zV} {x : Int} {st : List zV} {w : zW} {Q : Option zV → zW → Prop}  : zR 38 65 [l0, some (.inl x), l2, l3] st w Q = zR 38 66 [l0, some (.inl x), l2, l3] (.inl x :: st) w Q := zR_go (zst zT_38_65 rfl)
theorem zT_38_66 : zT 38 66 = some (.iaload, 1, 0, []) := by decide +kernel
theorem zr_38_66 {l0 l1 l2 l3 : Option zV} {j : Int} {h : Nat} {st : List zV} {w : zW} {Q : Option zV → zW → Prop} (hk : (zk w h = zNC ∨ zk w h = zNC + 2) ∧ 0 ≤ zN j ∧ zN j < zl w h) : zR 38 66 [l0, l1, l2, l3] (.inl j :: .inr (some h) :: st) w Q = zR 38 67 [l0, l1, l2, l3] (.inl (za w h (zN j).toNat) :: st) w Q := zR_go (zst zT_38_66 (if_pos hk))
theorem zT_38_67 : zT 38 67 = some (.iconst 1, 1, 0, []) := by decide +kernel
theorem zr_38_67 {l0 l1 l2 l3 : Option zV} {st : List zV} {w : zW} {Q : Option zV → zW → Prop}  : zR 38 67 [l0, l1, l2, l3] st w Q = zR 38 68 [l0, l1, l2, l3] (.inl 1 :: st) w Q := zR_go (zst zT_38_67 rfl)
theorem zT_38_68 : zT 38 68 = some (.if_icmp .ne 22, 3, 0, []) := by decide +kernel
theorem zr_38_68 {l0 l1 l2 l3 : Option zV} {x y : Int} {st : List zV} {w : zW} {Q : Option zV → zW → Prop}  : zR 38 68 [l0, l1, l2, l3] (.inl y :: .inl x :: st) w Q = (if zN x ≠ zN y then zR 38 90 [l0, l1, l2, l3] st w Q else zR 38 71 [l0, l1, l2, l3] st w Q) := zR_if (zstB zT_38_68 rfl) (by simp [zcmp])
theorem zT_38_71 : zT 38 71 = some (.iload_n 2, 1, 0, []) := by decide +kernel
theorem zr_38_71 {l0 l1 l3 : Option zV} {x : Int} {st : List zV} {w : zW} {Q : Option zV → zW → Prop}  : zR 38 71 [l0, l1, some (.inl x), l3] st w Q = zR 38 72 [l0, l1, some (.inl x), l3] (.inl x :: st) w Q := zR_go (zst zT_38_71 rfl)
theorem zT_38_72 : zT 38 72 = some (.aload_n 0, 1, 0, []) := by decide +kernel
theorem zr_38_72 {l1 l2 l3 : Option zV} {x : Option Nat} {st : List zV} {w : zW} {Q : Option zV → zW → Prop}  : zR 38 72 [some (.inr x), l1, l2, l3] st w Q = zR 38 73 [some (.inr x), l1, l2, l3] (.inr x :: st) w Q := zR_go (zst zT_38_72 rfl)
theorem zT_38_73 : zT 38 73 = some (.getfield 50, 3, 0, [(11, 14)]) := by decide +kernel
theorem zr_38_73 {l0 l1 l2 l3 : Option zV} {h : Nat} {st : List zV} {w : zW} {Q : Option zV → zW → Prop} (hk : zk w h = 11) : zR 38 73 [l0, l1, l2, l3] (.inr (some h) :: st) w Q = zR 38 76 [l0, l1, l2, l3] (.inr (zp w 86 h) :: st) w Q := zR_go (zst zT_38_73 (zget_r hk rfl))
theorem zT_38_76 : zT 38 76 = some (.iload_n 1, 1, 0, []) := by decide +kernel
theorem zr_38_76 {l0 l2 l3 : Option zV} {x : Int} {st : List zV} {w : zW} {Q : Option zV → zW → Prop}  : zR 38 76 [l0, some (.inl x), l2, l3] st w Q = zR 38 77 [l0, some (.inl x), l2, l3] (.inl x :: st) w Q := zR_go (zst zT_38_76 rfl)
theorem zT_38_77 : zT 38 77 = some (.iaload, 1, 0, []) := by decide +kernel
theorem zr_38_77 {l0 l1 l2 l3 : Option zV} {j : Int} {h : Nat} {st : List zV} {w : zW} {Q : Option zV → zW → Prop} (hk : (zk w h = zNC ∨ zk w h = zNC + 2) ∧ 0 ≤ zN j ∧ zN j < zl w h) : zR 38 77 [l0, l1, l2, l3] (.inl j :: .inr (some h) :: st) w Q = zR 38 78 [l0, l1, l2, l3] (.inl (za w h (zN j).toNat) :: st) w Q := zR_go (zst zT_38_77 (if_pos hk))
theorem zT_38_78 : zT 38 78 = some (.aload_n 0, 1, 0, []) := by decide +kernel
theorem zr_38_78 {l1 l2 l3 : Option zV} {x : Option Nat} {st : List zV} {w : zW} {Q : Option zV → zW → Prop}  : zR 38 78 [some (.inr x), l1, l2, l3] st w Q = zR 38 79 [some (.inr x), l1, l2, l3] (.inr x :: st) w Q := zR_go (zst zT_38_78 rfl)
theorem zT_38_79 : zT 38 79 = some (.getfield 56, 3, 0, [(11, 16)]) := by decide +kernel
theorem zr_38_79 {l0 l1 l2 l3 : Option zV} {h : Nat} {st : List zV} {w : zW} {Q : Option zV → zW → Prop} (hk : zk w h = 11) : zR 38 79 [l0, l1, l2, l3] (.inr (some h) :: st) w Q = zR 38 82 [l0, l1, l2, l3] (.inr (zp w 88 h) :: st) w Q := zR_go (zst zT_38_79 (zget_r hk rfl))
theorem zT_38_82 : zT 38 82 = some (.iload_n 1, 1, 0, []) := by decide +kernel
theorem zr_38_82 {l0 l2 l3 : Option zV} {x : Int} {st : List zV} {w : zW} {Q : Option zV → zW → Prop}  : zR 38 82 [l0, some (.inl x), l2, l3] st w Q = zR 38 83 [l0, some (.inl x), l2, l3] (.inl x :: st) w Q := zR_go (zst zT_38_82 rfl)
theorem zT_38_83 : zT 38 83 = some (.iaload, 1, 0, []) := by decide +kernel
theorem zr_38_83 {l0 l1 l2 l3 : Option zV} {j : Int} {h : Nat} {st : List zV} {w : zW} {Q : Option zV → zW → Prop} (hk : (zk w h = zNC ∨ zk w h = zNC + 2) ∧ 0 ≤ zN j ∧ zN j < zl w h) : zR 38 83 [l0, l1, l2, l3] (.inl j :: .inr (some h) :: st) w Q = zR 38 84 [l0, l1, l2, l3] (.inl (za w h (zN j).toNat) :: st) w Q := zR_go (zst zT_38_83 (if_pos hk))
theorem zT_38_84 : zT 38 84 = some (.iadd, 1, 0, []) := by decide +kernel
theorem zr_38_84 {l0 l1 l2 l3 : Option zV} {x y : Int} {st : List zV} {w : zW} {Q : Option zV → zW → Prop}  : zR 38 84 [l0, l1, l2, l3] (.inl y :: .inl x :: st) w Q = zR 38 85 [l0, l1, l2, l3] (.inl (x + y) :: st) w Q := zR_go (zst zT_38_84 rfl)
theorem zT_38_85 : zT 38 85 = some (.if_icmp .gt 5, 3, 0, []) := by decide +kernel
theorem zr_38_85 {l0 l1 l2 l3 : Option zV} {x y : Int} {st : List zV} {w : zW} {Q : Option zV → zW → Prop}  : zR 38 85 [l0, l1, l2, l3] (.inl y :: .inl x :: st) w Q = (if zN y < zN x then zR 38 90 [l0, l1, l2, l3] st w Q else zR 38 88 [l0, l1, l2, l3] st w Q) := zR_if (zstB zT_38_85 rfl) (by simp [zcmp])
theorem zT_38_88 : zT 38 88 = some (.iconst 1, 1, 0, []) := by decide +kernel
theorem zr_38_88 {l0 l1 l2 l3 : Option zV} {st : List zV} {w : zW} {Q : Option zV → zW → Prop}  : zR 38 88 [l0, l1, l2, l3] st w Q = zR 38 89 [l0, l1, l2, l3] (.inl 1 :: st) w Q := zR_go (zst zT_38_88 rfl)
theorem zT_38_89 : zT 38 89 = some (.istore_n 3, 1, 0, []) := by decide +kernel
theorem zr_38_89 {l0 l1 l2 l3 : Option zV} {x : Int} {st : List zV} {w : zW} {Q : Option zV → zW → Prop}  : zR 38 89 [l0, l1, l2, l3] (.inl x :: st) w Q = zR 38 90 [l0, l1, l2, some (.inl x)] st w Q := zR_go (zst zT_38_89 rfl)
theorem zT_38_90 : zT 38 90 = some (.iload_n 3, 1, 0, []) := by decide +kernel
theorem zr_38_90 {l0 l1 l2 : Option zV} {x : Int} {st : List zV} {w : zW} {Q : Option zV → zW → Prop}  : zR 38 90 [l0, l1, l2, some (.inl x)] st w Q = zR 38 91 [l0, l1, l2, some (.inl x)] (.inl x :: st) w Q := zR_go (zst zT_38_90 rfl)
theorem zT_38_91 : zT 38 91 = some (.aload_n 0, 1, 0, []) := by decide +kernel
theorem zr_38_91 {l1 l2 l3 : Option zV} {x : Option Nat} {st : List zV} {w : zW} {Q : Option zV → zW → Prop}  : zR 38 91 [some (.inr x), l1, l2, l3] st w Q = zR 38 92 [some (.inr x), l1, l2, l3] (.inr x :: st) w Q := zR_go (zst zT_38_91 rfl)
theorem zT_38_92 : zT 38 92 = some (.getfield 59, 3, 0, [(11, 17)]) := by decide +kernel
theorem zr_38_92 {l0 l1 l2 l3 : Option zV} {h : Nat} {st : List zV} {w : zW} {Q : Option zV → zW → Prop} (hk : zk w h = 11) : zR 38 92 [l0, l1, l2, l3] (.inr (some h) :: st) w Q = zR 38 95 [l0, l1, l2, l3] (.inr (zp w 89 h) :: st) w Q := zR_go (zst zT_38_92 (zget_r hk rfl))
theorem zT_38_95 : zT 38 95 = some (.iload_n 1, 1, 0, []) := by decide +kernel
theorem zr_38_95 {l0 l2 l3 : Option zV} {x : Int} {st : List zV} {w : zW} {Q : Option zV → zW → Prop}  : zR 38 95 [l0, some (.inl x), l2, l3] st w Q = zR 38 96 [l0, some (.inl x), l2, l3] (.inl x :: st) w Q := zR_go (zst zT_38_95 rfl)
theorem zT_38_96 : zT 38 96 = some (.iaload, 1, 0, []) := by decide +kernel
theorem zr_38_96 {l0 l1 l2 l3 : Option zV} {j : Int} {h : Nat} {st : List zV} {w : zW} {Q : Option zV → zW → Prop} (hk : (zk w h = zNC ∨ zk w h = zNC + 2) ∧ 0 ≤ zN j ∧ zN j < zl w h) : zR 38 96 [l0, l1, l2, l3] (.inl j :: .inr (some h) :: st) w Q = zR 38 97 [l0, l1, l2, l3] (.inl (za w h (zN j).toNat) :: st) w Q := zR_go (zst zT_38_96 (if_pos hk))
theorem zT_38_97 : zT 38 97 = some (.if_icmp .ne 4, 3, 0, []) := by decide +kernel
theorem zr_38_97 {l0 l1 l2 l3 : Option zV} {x y : Int} {st : List zV} {w : zW} {Q : Option zV → zW → Prop}  : zR 38 97 [l0, l1, l2, l3] (.inl y :: .inl x :: st) w Q = (if zN x ≠ zN y then zR 38 101 [l0, l1, l2, l3] st w Q else zR 38 100 [l0, l1, l2, l3] st w Q) := zR_if (zstB zT_38_97 rfl) (by simp [zcmp])
theorem zT_38_100 : zT 38 100 = some (.return_, 1, 0, []) := by decide +kernel
theorem zr_38_100 {l0 l1 l2 l3 : Option zV} {w : zW} {Q : Option zV → zW → Prop} : zR 38 100 [l0, l1, l2, l3] [] w Q = Q none w := zR_ret (zst zT_38_100 rfl)
theorem zT_38_101 : zT 38 101 = some (.aload_n 0, 1, 0, []) := by decide +kernel
theorem zr_38_101 {l1 l2 l3 : Option zV} {x : Option Nat} {st : List zV} {w : zW} {Q : Option zV → zW → Prop}  : zR 38 101 [some (.inr x), l1, l2, l3] st w Q = zR 38 102 [some (.inr x), l1, l2, l3] (.inr x :: st) w Q := zR_go (zst zT_38_101 rfl)
theorem zT_38_102 : zT 38 102 = some (.getfield 59, 3, 0, [(11, 17)]) := by decide +kernel
theorem zr_38_102 {l0 l1 l2 l3 : Option zV} {h : Nat} {st : List zV} {w : zW} {Q : Option zV → zW → Prop} (hk : zk w h = 11) : zR 38 102 [l0, l1, l2, l3] (.inr (some h) :: st) w Q = zR 38 105 [l0, l1, l2, l3] (.inr (zp w 89 h) :: st) w Q := zR_go (zst zT_38_102 (zget_r hk rfl))
theorem zT_38_105 : zT 38 105 = some (.iload_n 1, 1, 0, []) := by decide +kernel
theorem zr_38_105 {l0 l2 l3 : Option zV} {x : Int} {st : List zV} {w : zW} {Q : Option zV → zW → Prop}  : zR 38 105 [l0, some (.inl x), l2, l3] st w Q = zR 38 106 [l0, some (.inl x), l2, l3] (.inl x :: st) w Q := zR_go (zst zT_38_105 rfl)
theorem zT_38_106 : zT 38 106 = some (.iload_n 3, 1, 0, []) := by decide +kernel
theorem zr_38_106 {l0 l1 l2 : Option zV} {x : Int} {st : List zV} {w : zW} {Q : Option zV → zW → Prop}  : zR 38 106 [l0, l1, l2, some (.inl x)] st w Q = zR 38 107 [l0, l1, l2, some (.inl x)] (.inl x :: st) w Q := zR_go (zst zT_38_106 rfl)
theorem zT_38_107 : zT 38 107 = some (.iastore, 1, 0, []) := by decide +kernel
theorem zr_38_107 {l0 l1 l2 l3 : Option zV} {j x : Int} {h : Nat} {st : List zV} {w : zW} {Q : Option zV → zW → Prop} (hk : zk w h = zNC ∧ 0 ≤ zN j ∧ zN j < zl w h) : zR 38 107 [l0, l1, l2, l3] (.inl x :: .inl j :: .inr (some h) :: st) w Q = zR 38 108 [l0, l1, l2, l3] st (zsa w h (zN j).toNat x) Q := zR_go (zst zT_38_107 (if_pos hk))
theorem zT_38_108 : zT 38 108 = some (.aload_n 0, 1, 0, []) := by decide +kernel
theorem zr_38_108 {l1 l2 l3 : Option zV} {x : Option Nat} {st : List zV} {w : zW} {Q : Option zV → zW → Prop}  : zR 38 108 [some (.inr x), l1, l2, l3] st w Q = zR 38 109 [some (.inr x), l1, l2, l3] (.inr x :: st) w Q := zR_go (zst zT_38_108 rfl)
theorem zT_38_109 : zT 38 109 = some (.getfield 62, 3, 0, [(11, 18)]) := by decide +kernel
theorem zr_38_109 {l0 l1 l2 l3 : Option zV} {h : Nat} {st : List zV} {w : zW} {Q : Option zV → zW → Prop} (hk : zk w h = 11) : zR 38 109 [l0, l1, l2, l3] (.inr (some h) :: st) w Q = zR 38 112 [l0, l1, l2, l3] (.inr (zp w 90 h) :: st) w Q := zR_go (zst zT_38_109 (zget_r hk rfl))
theorem zT_38_112 : zT 38 112 = some (.iload_n 1, 1, 0, []) := by decide +kernel
theorem zr_38_112 {l0 l2 l3 : Option zV} {x : Int} {st : List zV} {w : zW} {Q : Option zV → zW → Prop}  : zR 38 112 [l0, some (.inl x), l2, l3] st w Q = zR 38 113 [l0, some (.inl x), l2, l3] (.inl x :: st) w Q := zR_go (zst zT_38_112 rfl)
theorem zT_38_113 : zT 38 113 = some (.iaload, 1, 0, []) := by decide +kernel
theorem zr_38_113 {l0 l1 l2 l3 : Option zV} {j : Int} {h : Nat} {st : List zV} {w : zW} {Q : Option zV → zW → Prop} (hk : (zk w h = zNC ∨ zk w h = zNC + 2) ∧ 0 ≤ zN j ∧ zN j < zl w h) : zR 38 113 [l0, l1, l2, l3] (.inl j :: .inr (some h) :: st) w Q = zR 38 114 [l0, l1, l2, l3] (.inl (za w h (zN j).toNat) :: st) w Q := zR_go (zst zT_38_113 (if_pos hk))
theorem zT_38_114 : zT 38 114 = some (.ifCond .eq 81, 3, 0, []) := by decide +kernel
theorem zr_38_114 {l0 l1 l2 l3 : Option zV} {x : Int} {st : List zV} {w : zW} {Q : Option zV → zW → Prop}  : zR 38 114 [l0, l1, l2, l3] (.inl x :: st) w Q = (if zN x = 0 then zR 38 195 [l0, l1, l2, l3] st w Q else zR 38 117 [l0, l1, l2, l3] st w Q) := zR_if (zstB zT_38_114 rfl) (by simp [zcmp])
theorem zT_38_117 : zT 38 117 = some (.aload_n 0, 1, 0, []) := by decide +kernel
theorem zr_38_117 {l1 l2 l3 : Option zV} {x : Option Nat} {st : List zV} {w : zW} {Q : Option zV → zW → Prop}  : zR 38 117 [some (.inr x), l1, l2, l3] st w Q = zR 38 118 [some (.inr x), l1, l2, l3] (.inr x :: st) w Q := zR_go (zst zT_38_117 rfl)
theorem zT_38_118 : zT 38 118 = some (.iconst 4, 1, 0, []) := by decide +kernel
theorem zr_38_118 {l0 l1 l2 l3 : Option zV} {st : List zV} {w : zW} {Q : Option zV → zW → Prop}  : zR 38 118 [l0, l1, l2, l3] st w Q = zR 38 119 [l0, l1, l2, l3] (.inl 4 :: st) w Q := zR_go (zst zT_38_118 rfl)
theorem zT_38_119 : zT 38 119 = some (.putfield 163, 3, 0, [(11, 39)]) := by decide +kernel
theorem zr_38_119 {l0 l1 l2 l3 : Option zV} {h : Nat} {x : Int} {st : List zV} {w : zW} {Q : Option zV → zW → Prop} (hk : zk w h = 11) : zR 38 119 [l0, l1, l2, l3] (.inl x :: .inr (some h) :: st) w Q = zR 38 122 [l0, l1, l2, l3] st (zsf w 111 h x) Q := zR_go (zst zT_38_119 (zput_i hk rfl))
theorem zT_38_122 : zT 38 122 = some (.aload_n 0, 1, 0, []) := by decide +kernel
theorem zr_38_122 {l1 l2 l3 : Option zV} {x : Option Nat} {st : List zV} {w : zW} {Q : Option zV → zW → Prop}  : zR 38 122 [some (.inr x), l1, l2, l3] st w Q = zR 38 123 [some (.inr x), l1, l2, l3] (.inr x :: st) w Q := zR_go (zst zT_38_122 rfl)
theorem zT_38_123 : zT 38 123 = some (.getfield 113, 3, 0, [(11, 38)]) := by decide +kernel
theorem zr_38_123 {l0 l1 l2 l3 : Option zV} {h : Nat} {st : List zV} {w : zW} {Q : Option zV → zW → Prop} (hk : zk w h = 11) : zR 38 123 [l0, l1, l2, l3] (.inr (some h) :: st) w Q = zR 38 126 [l0, l1, l2, l3] (.inr (zp w 110 h) :: st) w Q := zR_go (zst zT_38_123 (zget_r hk rfl))
theorem zT_38_126 : zT 38 126 = some (.iconst 0, 1, 0, []) := by decide +kernel
theorem zr_38_126 {l0 l1 l2 l3 : Option zV} {st : List zV} {w : zW} {Q : Option zV → zW → Prop}  : zR 38 126 [l0, l1, l2, l3] st w Q = zR 38 127 [l0, l1, l2, l3] (.inl 0 :: st) w Q := zR_go (zst zT_38_126 rfl)
theorem zT_38_127 : zT 38 127 = some (.bipush 64, 2, 0, []) := by decide +kernel
theorem zr_38_127 {l0 l1 l2 l3 : Option zV} {st : List zV} {w : zW} {Q : Option zV → zW → Prop}  : zR 38 127 [l0, l1, l2, l3] st w Q = zR 38 129 [l0, l1, l2, l3] (.inl 64 :: st) w Q := zR_go (zst zT_38_127 rfl)
theorem zT_38_129 : zT 38 129 = some (.iastore, 1, 0, []) := by decide +kernel
theorem zr_38_129 {l0 l1 l2 l3 : Option zV} {j x : Int} {h : Nat} {st : List zV} {w : zW} {Q : Option zV → zW → Prop} (hk : zk w h = zNC ∧ 0 ≤ zN j ∧ zN j < zl w h) : zR 38 129 [l0, l1, l2, l3] (.inl x :: .inl j :: .inr (some h) :: st) w Q = zR 38 130 [l0, l1, l2, l3] st (zsa w h (zN j).toNat x) Q := zR_go (zst zT_38_129 (if_pos hk))
theorem zT_38_130 : zT 38 130 = some (.aload_n 0, 1, 0, []) := by decide +kernel
theorem zr_38_130 {l1 l2 l3 : Option zV} {x : Option Nat} {st : List zV} {w : zW} {Q : Option zV → zW → Prop}  : zR 38 130 [some (.inr x), l1, l2, l3] st w Q = zR 38 131 [some (.inr x), l1, l2, l3] (.inr x :: st) w Q := zR_go (zst zT_38_130 rfl)
theorem zT_38_131 : zT 38 131 = some (.getfield 113, 3, 0, [(11, 38)]) := by decide +kernel
theorem zr_38_131 {l0 l1 l2 l3 : Option zV} {h : Nat} {st : List zV} {w : zW} {Q : Option zV → zW → Prop} (hk : zk w h = 11) : zR 38 131 [l0, l1, l2, l3] (.inr (some h) :: st) w Q = zR 38 134 [l0, l1, l2, l3] (.inr (zp w 110 h) :: st) w Q := zR_go (zst zT_38_131 (zget_r hk rfl))
theorem zT_38_134 : zT 38 134 = some (.iconst 1, 1, 0, []) := by decide +kernel
theorem zr_38_134 {l0 l1 l2 l3 : Option zV} {st : List zV} {w : zW} {Q : Option zV → zW → Prop}  : zR 38 134 [l0, l1, l2, l3] st w Q = zR 38 135 [l0, l1, l2, l3] (.inl 1 :: st) w Q := zR_go (zst zT_38_134 rfl)
theorem zT_38_135 : zT 38 135 = some (.iload_n 3, 1, 0, []) := by decide +kernel
theorem zr_38_135 {l0 l1 l2 : Option zV} {x : Int} {st : List zV} {w : zW} {Q : Option zV → zW → Prop}  : zR 38 135 [l0, l1, l2, some (.inl x)] st w Q = zR 38 136 [l0, l1, l2, some (.inl x)] (.inl x :: st) w Q := zR_go (zst zT_38_135 rfl)
theorem zT_38_136 : zT 38 136 = some (.iastore, 1, 0, []) := by decide +kernel
theorem zr_38_136 {l0 l1 l2 l3 : Option zV} {j x : Int} {h : Nat} {st : List zV} {w : zW} {Q : Option zV → zW → Prop} (hk : zk w h = zNC ∧ 0 ≤ zN j ∧ zN j < zl w h) : zR 38 136 [l0, l1, l2, l3] (.inl x :: .inl j :: .inr (some h) :: st) w Q = zR 38 137 [l0, l1, l2, l3] st (zsa w h (zN j).toNat x) Q := zR_go (zst zT_38_136 (if_pos hk))
theorem zT_38_137 : zT 38 137 = some (.aload_n 0, 1, 0, []) := by decide +kernel
theorem zr_38_137 {l1 l2 l3 : Option zV} {x : Option Nat} {st : List zV} {w : zW} {Q : Option zV → zW → Prop}  : zR 38 137 [some (.inr x), l1, l2, l3] st w Q = zR 38 138 [some (.inr x), l1, l2, l3] (.inr x :: st) w Q := zR_go (zst zT_38_137 rfl)
theorem zT_38_138 : zT 38 138 = some (.getfield 113, 3, 0, [(11, 38)]) := by decide +kernel
theorem zr_38_138 {l0 l1 l2 l3 : Option zV} {h : Nat} {st : List zV} {w : zW} {Q : Option zV → zW → Prop} (hk : zk w h = 11) : zR 38 138 [l0, l1, l2, l3] (.inr (some h) :: st) w Q = zR 38 141 [l0, l1, l2, l3] (.inr (zp w 110 h) :: st) w Q := zR_go (zst zT_38_138 (zget_r hk rfl))
theorem zT_38_141 : zT 38 141 = some (.iconst 2, 1, 0, []) := by decide +kernel
theorem zr_38_141 {l0 l1 l2 l3 : Option zV} {st : List zV} {w : zW} {Q : Option zV → zW → Prop}  : zR 38 141 [l0, l1, l2, l3] st w Q = zR 38 142 [l0, l1, l2, l3] (.inl 2 :: st) w Q := zR_go (zst zT_38_141 rfl)
theorem zT_38_142 : zT 38 142 = some (.iload_n 2, 1, 0, []) := by decide +kernel
theorem zr_38_142 {l0 l1 l3 : Option zV} {x : Int} {st : List zV} {w : zW} {Q : Option zV → zW → Prop}  : zR 38 142 [l0, l1, some (.inl x), l3] st w Q = zR 38 143 [l0, l1, some (.inl x), l3] (.inl x :: st) w Q := zR_go (zst zT_38_142 rfl)
theorem zT_38_143 : zT 38 143 = some (.bipush 8, 2, 0, []) := by decide +kernel
theorem zr_38_143 {l0 l1 l2 l3 : Option zV} {st : List zV} {w : zW} {Q : Option zV → zW → Prop}  : zR 38 143 [l0, l1, l2, l3] st w Q = zR 38 145 [l0, l1, l2, l3] (.inl 8 :: st) w Q := zR_go (zst zT_38_143 rfl)
theorem zT_38_145 : zT 38 145 = some (.ishr, 1, 0, []) := by decide +kernel
theorem zr_38_145 {l0 l1 l2 l3 : Option zV} {x y : Int} {st : List zV} {w : zW} {Q : Option zV → zW → Prop}  : zR 38 145 [l0, l1, l2, l3] (.inl y :: .inl x :: st) w Q = zR 38 146 [l0, l1, l2, l3] (.inl (zo_shr x y) :: st) w Q := zR_go (zst zT_38_145 rfl)
theorem zT_38_146 : zT 38 146 = some (.sipush 255, 3, 0, []) := by decide +kernel
theorem zr_38_146 {l0 l1 l2 l3 : Option zV} {st : List zV} {w : zW} {Q : Option zV → zW → Prop}  : zR 38 146 [l0, l1, l2, l3] st w Q = zR 38 149 [l0, l1, l2, l3] (.inl 255 :: st) w Q := zR_go (zst zT_38_146 rfl)
theorem zT_38_149 : zT 38 149 = some (.iand, 1, 0, []) := by decide +kernel
theorem zr_38_149 {l0 l1 l2 l3 : Option zV} {x y : Int} {st : List zV} {w : zW} {Q : Option zV → zW → Prop}  : zR 38 149 [l0, l1, l2, l3] (.inl y :: .inl x :: st) w Q = zR 38 150 [l0, l1, l2, l3] (.inl (zo_and x y) :: st) w Q := zR_go (zst zT_38_149 rfl)
theorem zT_38_150 : zT 38 150 = some (.iastore, 1, 0, []) := by decide +kernel
theorem zr_38_150 {l0 l1 l2 l3 : Option zV} {j x : Int} {h : Nat} {st : List zV} {w : zW} {Q : Option zV → zW → Prop} (hk : zk w h = zNC ∧ 0 ≤ zN j ∧ zN j < zl w h) : zR 38 150 [l0, l1, l2, l3] (.inl x :: .inl j :: .inr (some h) :: st) w Q = zR 38 151 [l0, l1, l2, l3] st (zsa w h (zN j).toNat x) Q := zR_go (zst zT_38_150 (if_pos hk))
theorem zT_38_151 : zT 38 151 = some (.aload_n 0, 1, 0, []) := by decide +kernel
theorem zr_38_151 {l1 l2 l3 : Option zV} {x : Option Nat} {st : List zV} {w : zW} {Q : Option zV → zW → Prop}  : zR 38 151 [some (.inr x), l1, l2, l3] st w Q = zR 38 152 [some (.inr x), l1, l2, l3] (.inr x :: st) w Q := zR_go (zst zT_38_151 rfl)
theorem zT_38_152 : zT 38 152 = some (.getfield 113, 3, 0, [(11, 38)]) := by decide +kernel
theorem zr_38_152 {l0 l1 l2 l3 : Option zV} {h : Nat} {st : List zV} {w : zW} {Q : Option zV → zW → Prop} (hk : zk w h = 11) : zR 38 152 [l0, l1, l2, l3] (.inr (some h) :: st) w Q = zR 38 155 [l0, l1, l2, l3] (.inr (zp w 110 h) :: st) w Q := zR_go (zst zT_38_152 (zget_r hk rfl))
theorem zT_38_155 : zT 38 155 = some (.iconst 3, 1, 0, []) := by decide +kernel
theorem zr_38_155 {l0 l1 l2 l3 : Option zV} {st : List zV} {w : zW} {Q : Option zV → zW → Prop}  : zR 38 155 [l0, l1, l2, l3] st w Q = zR 38 156 [l0, l1, l2, l3] (.inl 3 :: st) w Q := zR_go (zst zT_38_155 rfl)
theorem zT_38_156 : zT 38 156 = some (.iload_n 2, 1, 0, []) := by decide +kernel
theorem zr_38_156 {l0 l1 l3 : Option zV} {x : Int} {st : List zV} {w : zW} {Q : Option zV → zW → Prop}  : zR 38 156 [l0, l1, some (.inl x), l3] st w Q = zR 38 157 [l0, l1, some (.inl x), l3] (.inl x :: st) w Q := zR_go (zst zT_38_156 rfl)
theorem zT_38_157 : zT 38 157 = some (.sipush 255, 3, 0, []) := by decide +kernel
theorem zr_38_157 {l0 l1 l2 l3 : Option zV} {st : List zV} {w : zW} {Q : Option zV → zW → Prop}  : zR 38 157 [l0, l1, l2, l3] st w Q = zR 38 160 [l0, l1, l2, l3] (.inl 255 :: st) w Q := zR_go (zst zT_38_157 rfl)
theorem zT_38_160 : zT 38 160 = some (.iand, 1, 0, []) := by decide +kernel
theorem zr_38_160 {l0 l1 l2 l3 : Option zV} {x y : Int} {st : List zV} {w : zW} {Q : Option zV → zW → Prop}  : zR 38 160 [l0, l1, l2, l3] (.inl y :: .inl x :: st) w Q = zR 38 161 [l0, l1, l2, l3] (.inl (zo_and x y) :: st) w Q := zR_go (zst zT_38_160 rfl)
theorem zT_38_161 : zT 38 161 = some (.iastore, 1, 0, []) := by decide +kernel
theorem zr_38_161 {l0 l1 l2 l3 : Option zV} {j x : Int} {h : Nat} {st : List zV} {w : zW} {Q : Option zV → zW → Prop} (hk : zk w h = zNC ∧ 0 ≤ zN j ∧ zN j < zl w h) : zR 38 161 [l0, l1, l2, l3] (.inl x :: .inl j :: .inr (some h) :: st) w Q = zR 38 162 [l0, l1, l2, l3] st (zsa w h (zN j).toNat x) Q := zR_go (zst zT_38_161 (if_pos hk))
theorem zT_38_162 : zT 38 162 = some (.aload_n 0, 1, 0, []) := by decide +kernel
theorem zr_38_162 {l1 l2 l3 : Option zV} {x : Option Nat} {st : List zV} {w : zW} {Q : Option zV → zW → Prop}  : zR 38 162 [some (.inr x), l1, l2, l3] st w Q = zR 38 163 [some (.inr x), l1, l2, l3] (.inr x :: st) w Q := zR_go (zst zT_38_162 rfl)
theorem zT_38_163 : zT 38 163 = some (.iload_n 1, 1, 0, []) := by decide +kernel
theorem zr_38_163 {l0 l2 l3 : Option zV} {x : Int} {st : List zV} {w : zW} {Q : Option zV → zW → Prop}  : zR 38 163 [l0, some (.inl x), l2, l3] st w Q = zR 38 164 [l0, some (.inl x), l2, l3] (.inl x :: st) w Q := zR_go (zst zT_38_163 rfl)
theorem zT_38_164 : zT 38 164 = some (.aload_n 0, 1, 0, []) := by decide +kernel
theorem zr_38_164 {l1 l2 l3 : Option zV} {x : Option Nat} {st : List zV} {w : zW} {Q : Option zV → zW → Prop}  : zR 38 164 [some (.inr x), l1, l2, l3] st w Q = zR 38 165 [some (.inr x), l1, l2, l3] (.inr x :: st) w Q := zR_go (zst zT_38_164 rfl)
theorem zT_38_165 : zT 38 165 = some (.getfield 62, 3, 0, [(11, 18)]) := by decide +kernel
theorem zr_38_165 {l0 l1 l2 l3 : Option zV} {h : Nat} {st : List zV} {w : zW} {Q : Option zV → zW → Prop} (hk : zk w h = 11) : zR 38 165 [l0, l1, l2, l3] (.inr (some h) :: st) w Q = zR 38 168 [l0, l1, l2, l3] (.inr (zp w 90 h) :: st) w Q := zR_go (zst zT_38_165 (zget_r hk rfl))
theorem zT_38_168 : zT 38 168 = some (.iload_n 1, 1, 0, []) := by decide +kernel
theorem zr_38_168 {l0 l2 l3 : Option zV} {x : Int} {st : List zV} {w : zW} {Q : Option zV → zW → Prop}  : zR 38 168 [l0, some (.inl x), l2, l3] st w Q = zR 38 169 [l0, some (.inl x), l2, l3] (.inl x :: st) w Q := zR_go (zst zT_38_168 rfl)
theorem zT_38_169 : zT 38 169 = some (.iaload, 1, 0, []) := by decide +kernel
theorem zr_38_169 {l0 l1 l2 l3 : Option zV} {j : Int} {h : Nat} {st : List zV} {w : zW} {Q : Option zV → zW → Prop} (hk : (zk w h = zNC ∨ zk w h = zNC + 2) ∧ 0 ≤ zN j ∧ zN j < zl w h) : zR 38 169 [l0, l1, l2, l3] (.inl j :: .inr (some h) :: st) w Q = zR 38 170 [l0, l1, l2, l3] (.inl (za w h (zN j).toNat) :: st) w Q := zR_go (zst zT_38_169 (if_pos hk))
theorem zT_38_170 : zT 38 170 = some (.bipush 8, 2, 0, []) := by decide +kernel
theorem zr_38_170 {l0 l1 l2 l3 : Option zV} {st : List zV} {w : zW} {Q : Option zV → zW → Prop}  : zR 38 170 [l0, l1, l2, l3] st w Q = zR 38 172 [l0, l1, l2, l3] (.inl 8 :: st) w Q := zR_go (zst zT_38_170 rfl)
theorem zT_38_172 : zT 38 172 = some (.aload_n 0, 1, 0, []) := by decide +kernel
theorem zr_38_172 {l1 l2 l3 : Option zV} {x : Option Nat} {st : List zV} {w : zW} {Q : Option zV → zW → Prop}  : zR 38 172 [some (.inr x), l1, l2, l3] st w Q = zR 38 173 [some (.inr x), l1, l2, l3] (.inr x :: st) w Q := zR_go (zst zT_38_172 rfl)
theorem zT_38_173 : zT 38 173 = some (.getfield 65, 3, 0, [(11, 19)]) := by decide +kernel
theorem zr_38_173 {l0 l1 l2 l3 : Option zV} {h : Nat} {st : List zV} {w : zW} {Q : Option zV → zW → Prop} (hk : zk w h = 11) : zR 38 173 [l0, l1, l2, l3] (.inr (some h) :: st) w Q = zR 38 176 [l0, l1, l2, l3] (.inr (zp w 91 h) :: st) w Q := zR_go (zst zT_38_173 (zget_r hk rfl))
theorem zT_38_176 : zT 38 176 = some (.iload_n 1, 1, 0, []) := by decide +kernel
theorem zr_38_176 {l0 l2 l3 : Option zV} {x : Int} {st : List zV} {w : zW} {Q : Option zV → zW → Prop}  : zR 38 176 [l0, some (.inl x), l2, l3] st w Q = zR 38 177 [l0, some (.inl x), l2, l3] (.inl x :: st) w Q := zR_go (zst zT_38_176 rfl)
theorem zT_38_177 : zT 38 177 = some (.iaload, 1, 0, []) := by decide +kernel
theorem zr_38_177 {l0 l1 l2 l3 : Option zV} {j : Int} {h : Nat} {st : List zV} {w : zW} {Q : Option zV → zW → Prop} (hk : (zk w h = zNC ∨ zk w h = zNC + 2) ∧ 0 ≤ zN j ∧ zN j < zl w h) : zR 38 177 [l0, l1, l2, l3] (.inl j :: .inr (some h) :: st) w Q = zR 38 178 [l0, l1, l2, l3] (.inl (za w h (zN j).toNat) :: st) w Q := zR_go (zst zT_38_177 (if_pos hk))
theorem zT_38_178 : zT 38 178 = some (.bipush 8, 2, 0, []) := by decide +kernel
theorem zr_38_178 {l0 l1 l2 l3 : Option zV} {st : List zV} {w : zW} {Q : Option zV → zW → Prop}  : zR 38 178 [l0, l1, l2, l3] st w Q = zR 38 180 [l0, l1, l2, l3] (.inl 8 :: st) w Q := zR_go (zst zT_38_178 rfl)
theorem zT_38_180 : zT 38 180 = some (.irem, 1, 0, []) := by decide +kernel
theorem zr_38_180 {l0 l1 l2 l3 : Option zV} {x y : Int} {st : List zV} {w : zW} {Q : Option zV → zW → Prop} (hy : ¬ zN y = 0) : zR 38 180 [l0, l1, l2, l3] (.inl y :: .inl x :: st) w Q = zR 38 181 [l0, l1, l2, l3] (.inl (zo_rem x y) :: st) w Q := zR_go (zst zT_38_180 (if_neg hy))
theorem zT_38_181 : zT 38 181 = some (.iadd, 1, 0, []) := by decide +kernel
theorem zr_38_181 {l0 l1 l2 l3 : Option zV} {x y : Int} {st : List zV} {w : zW} {Q : Option zV → zW → Prop}  : zR 38 181 [l0, l1, l2, l3] (.inl y :: .inl x :: st) w Q = zR 38 182 [l0, l1, l2, l3] (.inl (x + y) :: st) w Q := zR_go (zst zT_38_181 rfl)
theorem zT_38_182 : zT 38 182 = some (.invokevirtual 166, 3, 3, [(11, 37)]) := by decide +kernel
theorem zr_38_182 {l0 l1 l2 l3 : Option zV} {a0 a1 a2 : zV} {h : Nat} {st : List zV} {w : zW} {Q : Option zV → zW → Prop} (hs : st.length ≤ 8) (hk : zk w h = 11) : zR 38 182 [l0, l1, l2, l3] (a2 :: a1 :: a0 :: .inr (some h) :: st) w Q = zR 37 0 [some (.inr (some h)), some a0, some a1, some a2, none, none, none, none, none] [] w (fun r w2 => zR 38 185 [l0, l1, l2, l3] (r.toList ++ st) w2 Q) := zR_call (zst zT_38_182 (zcall_v [a2, a1, a0] rfl hs hk rfl))
theorem zT_38_185 : zT 38 185 = some (.aload_n 0, 1, 0, []) := by decide +kernel
theorem zr_38_185 {l1 l2 l3 : Option zV} {x : Option Nat} {st : List zV} {w : zW} {Q : Option zV → zW → Prop}  : zR 38 185 [some (.inr x), l1, l2, l3] st w Q = zR 38 186 [some (.inr x), l1, l2, l3] (.inr x :: st) w Q := zR_go (zst zT_38_185 rfl)
theorem zT_38_186 : zT 38 186 = some (.getfield 65, 3, 0, [(11, 19)]) := by decide +kernel
theorem zr_38_186 {l0 l1 l2 l3 : Option zV} {h : Nat} {st : List zV} {w : zW} {Q : Option zV → zW → Prop} (hk : zk w h = 11) : zR 38 186 [l0, l1, l2, l3] (.inr (some h) :: st) w Q = zR 38 189 [l0, l1, l2, l3] (.inr (zp w 91 h) :: st) w Q := zR_go (zst zT_38_186 (zget_r hk rfl))
theorem zT_38_189 : zT 38 189 = some (.iload_n 1, 1, 0, []) := by decide +kernel
theorem zr_38_189 {l0 l2 l3 : Option zV} {x : Int} {st : List zV} {w : zW} {Q : Option zV → zW → Prop}  : zR 38 189 [l0, some (.inl x), l2, l3] st w Q = zR 38 190 [l0, some (.inl x), l2, l3] (.inl x :: st) w Q := zR_go (zst zT_38_189 rfl)
theorem zT_38_190 : zT 38 190 = some (.dup2, 1, 0, []) := by decide +kernel
theorem zr_38_190 {l0 l1 l2 l3 : Option zV} {u v : zV} {st : List zV} {w : zW} {Q : Option zV → zW → Prop}  : zR 38 190 [l0, l1, l2, l3] (v :: u :: st) w Q = zR 38 191 [l0, l1, l2, l3] (v :: u :: v :: u :: st) w Q := zR_go (zst zT_38_190 rfl)
theorem zT_38_191 : zT 38 191 = some (.iaload, 1, 0, []) := by decide +kernel
theorem zr_38_191 {l0 l1 l2 l3 : Option zV} {j : Int} {h : Nat} {st : List zV} {w : zW} {Q : Option zV → zW → Prop} (hk : (zk w h = zNC ∨ zk w h = zNC + 2) ∧ 0 ≤ zN j ∧ zN j < zl w h) : zR 38 191 [l0, l1, l2, l3] (.inl j :: .inr (some h) :: st) w Q = zR 38 192 [l0, l1, l2, l3] (.inl (za w h (zN j).toNat) :: st) w Q := zR_go (zst zT_38_191 (if_pos hk))
theorem zT_38_192 : zT 38 192 = some (.iconst 1, 1, 0, []) := by decide +kernel
theorem zr_38_192 {l0 l1 l2 l3 : Option zV} {st : List zV} {w : zW} {Q : Option zV → zW → Prop}  : zR 38 192 [l0, l1, l2, l3] st w Q = zR 38 193 [l0, l1, l2, l3] (.inl 1 :: st) w Q := zR_go (zst zT_38_192 rfl)
theorem zT_38_193 : zT 38 193 = some (.iadd, 1, 0, []) := by decide +kernel
theorem zr_38_193 {l0 l1 l2 l3 : Option zV} {x y : Int} {st : List zV} {w : zW} {Q : Option zV → zW → Prop}  : zR 38 193 [l0, l1, l2, l3] (.inl y :: .inl x :: st) w Q = zR 38 194 [l0, l1, l2, l3] (.inl (x + y) :: st) w Q := zR_go (zst zT_38_193 rfl)
theorem zT_38_194 : zT 38 194 = some (.iastore, 1, 0, []) := by decide +kernel
theorem zr_38_194 {l0 l1 l2 l3 : Option zV} {j x : Int} {h : Nat} {st : List zV} {w : zW} {Q : Option zV → zW → Prop} (hk : zk w h = zNC ∧ 0 ≤ zN j ∧ zN j < zl w h) : zR 38 194 [l0, l1, l2, l3] (.inl x :: .inl j :: .inr (some h) :: st) w Q = zR 38 195 [l0, l1, l2, l3] st (zsa w h (zN j).toNat x) Q := zR_go (zst zT_38_194 (if_pos hk))
theorem zT_38_195 : zT 38 195 = some (.return_, 1, 0, []) := by decide +kernel
theorem zr_38_195 {l0 l1 l2 l3 : Option zV} {w : zW} {Q : Option zV → zW → Prop} : zR 38 195 [l0, l1, l2, l3] [] w Q = Q none w := zR_ret (zst zT_38_195 rfl)
theorem zT_39_0 : zT 39 0 = some (.sipush 256, 3, 0, []) := by decide +kernel
theorem zr_39_0 {l0 l1 l2 : Option zV} {st : List zV} {w : zW} {Q : Option zV → zW → Prop}  : zR 39 0 [l0, l1, l2] st w Q = zR 39 3 [l0, l1, l2] (.inl 256 :: st) w Q := zR_go (zst zT_39_0 rfl)
theorem zT_39_3 : zT 39 3 = some (.aload_n 0, 1, 0, []) := by decide +kernel
theorem zr_39_3 {l1 l2 : Option zV} {x : Option Nat} {st : List zV} {w : zW} {Q : Option zV → zW → Prop}  : zR 39 3 [some (.inr x), l1, l2] st w Q = zR 39 4 [some (.inr x), l1, l2] (.inr x :: st) w Q := zR_go (zst zT_39_3 rfl)
theorem zT_39_4 : zT 39 4 = some (.getfield 113, 3, 0, [(11, 38)]) := by decide +kernel
theorem zr_39_4 {l0 l1 l2 : Option zV} {h : Nat} {st : List zV} {w : zW} {Q : Option zV → zW → Prop} (hk : zk w h = 11) : zR 39 4 [l0, l1, l2] (.inr (some h) :: st) w Q = zR 39 7 [l0, l1, l2] (.inr (zp w 110 h) :: st) w Q := zR_go (zst zT_39_4 (zget_r hk rfl))
theorem zT_39_7 : zT 39 7 = some (.iload_n 1, 1, 0, []) := by decide +kernel
theorem zr_39_7 {l0 l2 : Option zV} {x : Int} {st : List zV} {w : zW} {Q : Option zV → zW → Prop}  : zR 39 7 [l0, some (.inl x), l2] st w Q = zR 39 8 [l0, some (.inl x), l2] (.inl x :: st) w Q := zR_go (zst zT_39_7 rfl)
theorem zT_39_8 : zT 39 8 = some (.iaload, 1, 0, []) := by decide +kernel
theorem zr_39_8 {l0 l1 l2 : Option zV} {j : Int} {h : Nat} {st : List zV} {w : zW} {Q : Option zV → zW → Prop} (hk : (zk w h = zNC ∨ zk w h = zNC + 2) ∧ 0 ≤ zN j ∧ zN j < zl w h) : zR 39 8 [l0, l1, l2] (.inl j :: .inr (some h) :: st) w Q = zR 39 9 [l0, l1, l2] (.inl (za w h (zN j).toNat) :: st) w Q := zR_go (zst zT_39_8 (if_pos hk))
theorem zT_39_9 : zT 39 9 = some (.imul, 1, 0, []) := by decide +kernel
theorem zr_39_9 {l0 l1 l2 : Option zV} {x y : Int} {st : List zV} {w : zW} {Q : Option zV → zW → Prop}  : zR 39 9 [l0, l1, l2] (.inl y :: .inl x :: st) w Q = zR 39 10 [l0, l1, l2] (.inl (x * y) :: st) w Q := zR_go (zst zT_39_9 rfl)
theorem zT_39_10 : zT 39 10 = some (.aload_n 0, 1, 0, []) := by decide +kernel
theorem zr_39_10 {l1 l2 : Option zV} {x : Option Nat} {st : List zV} {w : zW} {Q : Option zV → zW → Prop}  : zR 39 10 [some (.inr x), l1, l2] st w Q = zR 39 11 [some (.inr x), l1, l2] (.inr x :: st) w Q := zR_go (zst zT_39_10 rfl)
theorem zT_39_11 : zT 39 11 = some (.getfield 113, 3, 0, [(11, 38)]) := by decide +kernel
theorem zr_39_11 {l0 l1 l2 : Option zV} {h : Nat} {st : List zV} {w : zW} {Q : Option zV → zW → Prop} (hk : zk w h = 11) : zR 39 11 [l0, l1, l2] (.inr (some h) :: st) w Q = zR 39 14 [l0, l1, l2] (.inr (zp w 110 h) :: st) w Q := zR_go (zst zT_39_11 (zget_r hk rfl))
theorem zT_39_14 : zT 39 14 = some (.iload_n 1, 1, 0, []) := by decide +kernel
theorem zr_39_14 {l0 l2 : Option zV} {x : Int} {st : List zV} {w : zW} {Q : Option zV → zW → Prop}  : zR 39 14 [l0, some (.inl x), l2] st w Q = zR 39 15 [l0, some (.inl x), l2] (.inl x :: st) w Q := zR_go (zst zT_39_14 rfl)
theorem zT_39_15 : zT 39 15 = some (.iconst 1, 1, 0, []) := by decide +kernel
theorem zr_39_15 {l0 l1 l2 : Option zV} {st : List zV} {w : zW} {Q : Option zV → zW → Prop}  : zR 39 15 [l0, l1, l2] st w Q = zR 39 16 [l0, l1, l2] (.inl 1 :: st) w Q := zR_go (zst zT_39_15 rfl)
theorem zT_39_16 : zT 39 16 = some (.iadd, 1, 0, []) := by decide +kernel
theorem zr_39_16 {l0 l1 l2 : Option zV} {x y : Int} {st : List zV} {w : zW} {Q : Option zV → zW → Prop}  : zR 39 16 [l0, l1, l2] (.inl y :: .inl x :: st) w Q = zR 39 17 [l0, l1, l2] (.inl (x + y) :: st) w Q := zR_go (zst zT_39_16 rfl)
theorem zT_39_17 : zT 39 17 = some (.iaload, 1, 0, []) := by decide +kernel
theorem zr_39_17 {l0 l1 l2 : Option zV} {j : Int} {h : Nat} {st : List zV} {w : zW} {Q : Option zV → zW → Prop} (hk : (zk w h = zNC ∨ zk w h = zNC + 2) ∧ 0 ≤ zN j ∧ zN j < zl w h) : zR 39 17 [l0, l1, l2] (.inl j :: .inr (some h) :: st) w Q = zR 39 18 [l0, l1, l2] (.inl (za w h (zN j).toNat) :: st) w Q := zR_go (zst zT_39_17 (if_pos hk))
theorem zT_39_18 : zT 39 18 = some (.iadd, 1, 0, []) := by decide +kernel
theorem zr_39_18 {l0 l1 l2 : Option zV} {x y : Int} {st : List zV} {w : zW} {Q : Option zV → zW → Prop}  : zR 39 18 [l0, l1, l2] (.inl y :: .inl x :: st) w Q = zR 39 19 [l0, l1, l2] (.inl (x + y) :: st) w Q := zR_go (zst zT_39_18 rfl)
theorem zT_39_19 : zT 39 19 = some (.istore_n 2, 1, 0, []) := by decide +kernel
theorem zr_39_19 {l0 l1 l2 : Option zV} {x : Int} {st : List zV} {w : zW} {Q : Option zV → zW → Prop}  : zR 39 19 [l0, l1, l2] (.inl x :: st) w Q = zR 39 20 [l0, l1, some (.inl x)] st w Q := zR_go (zst zT_39_19 rfl)
theorem zT_39_20 : zT 39 20 = some (.iload_n 2, 1, 0, []) := by decide +kernel
theorem zr_39_20 {l0 l1 : Option zV} {x : Int} {st : List zV} {w : zW} {Q : Option zV → zW → Prop}  : zR 39 20 [l0, l1, some (.inl x)] st w Q = zR 39 21 [l0, l1, some (.inl x)] (.inl x :: st) w Q := zR_go (zst zT_39_20 rfl)
theorem zT_39_21 : zT 39 21 = some (.sipush 32767, 3, 0, []) := by decide +kernel
theorem zr_39_21 {l0 l1 l2 : Option zV} {st : List zV} {w : zW} {Q : Option zV → zW → Prop}  : zR 39 21 [l0, l1, l2] st w Q = zR 39 24 [l0, l1, l2] (.inl 32767 :: st) w Q := zR_go (zst zT_39_21 rfl)
theorem zT_39_24 : zT 39 24 = some (.if_icmp .le 10, 3, 0, []) := by decide +kernel
theorem zr_39_24 {l0 l1 l2 : Option zV} {x y : Int} {st : List zV} {w : zW} {Q : Option zV → zW → Prop}  : zR 39 24 [l0, l1, l2] (.inl y :: .inl x :: st) w Q = (if zN x ≤ zN y then zR 39 34 [l0, l1, l2] st w Q else zR 39 27 [l0, l1, l2] st w Q) := zR_if (zstB zT_39_24 rfl) (by simp [zcmp])
theorem zT_39_27 : zT 39 27 = some (.iload_n 2, 1, 0, []) := by decide +kernel
theorem zr_39_27 {l0 l1 : Option zV} {x : Int} {st : List zV} {w : zW} {Q : Option zV → zW → Prop}  : zR 39 27 [l0, l1, some (.inl x)] st w Q = zR 39 28 [l0, l1, some (.inl x)] (.inl x :: st) w Q := zR_go (zst zT_39_27 rfl)
theorem zT_39_28 : zT 39 28 = some (.ldc 176, 2, 65536, []) := by decide +kernel
theorem zr_39_28 {l0 l1 l2 : Option zV} {st : List zV} {w : zW} {Q : Option zV → zW → Prop}  : zR 39 28 [l0, l1, l2] st w Q = zR 39 30 [l0, l1, l2] (.inl 65536 :: st) w Q := zR_go (zst zT_39_28 rfl)
theorem zT_39_30 : zT 39 30 = some (.isub, 1, 0, []) := by decide +kernel
theorem zr_39_30 {l0 l1 l2 : Option zV} {x y : Int} {st : List zV} {w : zW} {Q : Option zV → zW → Prop}  : zR 39 30 [l0, l1, l2] (.inl y :: .inl x :: st) w Q = zR 39 31 [l0, l1, l2] (.inl (x - y) :: st) w Q := zR_go (zst zT_39_30 rfl)
theorem zT_39_31 : zT 39 31 = some (.goto 4, 3, 0, []) := by decide +kernel
theorem zr_39_31 {l0 l1 l2 : Option zV} {st : List zV} {w : zW} {Q : Option zV → zW → Prop}  : zR 39 31 [l0, l1, l2] st w Q = zR 39 35 [l0, l1, l2] st w Q := zR_go (zst zT_39_31 rfl)
theorem zT_39_34 : zT 39 34 = some (.iload_n 2, 1, 0, []) := by decide +kernel
theorem zr_39_34 {l0 l1 : Option zV} {x : Int} {st : List zV} {w : zW} {Q : Option zV → zW → Prop}  : zR 39 34 [l0, l1, some (.inl x)] st w Q = zR 39 35 [l0, l1, some (.inl x)] (.inl x :: st) w Q := zR_go (zst zT_39_34 rfl)
theorem zT_39_35 : zT 39 35 = some (.ireturn, 1, 0, []) := by decide +kernel
theorem zr_39_35 {l0 l1 l2 : Option zV} {x : Int} {w : zW} {Q : Option zV → zW → Prop}  : zR 39 35 [l0, l1, l2] [.inl x] w Q = Q (some (.inl x)) w := zR_ret (zst zT_39_35 rfl)
theorem zT_40_0 : zT 40 0 = some (.aload_n 0, 1, 0, []) := by decide +kernel
theorem zr_40_0 {l1 l2 l3 l4 l5 l6 l7 l8 : Option zV} {x : Option Nat} {st : List zV} {w : zW} {Q : Option zV → zW → Prop}  : zR 40 0 [some (.inr x), l1, l2, l3, l4, l5, l6, l7, l8] st w Q = zR 40 1 [some (.inr x), l1, l2, l3, l4, l5, l6, l7, l8] (.inr x :: st) w Q := zR_go (zst zT_40_0 rfl)
theorem zT_40_1 : zT 40 1 = some (.getfield 113, 3, 0, [(11, 38)]) := by decide +kernel
theorem zr_40_1 {l0 l1 l2 l3 l4 l5 l6 l7 l8 : Option zV} {h : Nat} {st : List zV} {w : zW} {Q : Option zV → zW → Prop} (hk : zk w h = 11) : zR 40 1 [l0, l1, l2, l3, l4, l5, l6, l7, l8] (.inr (some h) :: st) w Q = zR 40 4 [l0, l1, l2, l3, l4, l5, l6, l7, l8] (.inr (zp w 110 h) :: st) w Q := zR_go (zst zT_40_1 (zget_r hk rfl))
theorem zT_40_4 : zT 40 4 = some (.iconst 0, 1, 0, []) := by decide +kernel
theorem zr_40_4 {l0 l1 l2 l3 l4 l5 l6 l7 l8 : Option zV} {st : List zV} {w : zW} {Q : Option zV → zW → Prop}  : zR 40 4 [l0, l1, l2, l3, l4, l5, l6, l7, l8] st w Q = zR 40 5 [l0, l1, l2, l3, l4, l5, l6, l7, l8] (.inl 0 :: st) w Q := zR_go (zst zT_40_4 rfl)
theorem zT_40_5 : zT 40 5 = some (.iaload, 1, 0, []) := by decide +kernel
theorem zr_40_5 {l0 l1 l2 l3 l4 l5 l6 l7 l8 : Option zV} {j : Int} {h : Nat} {st : List zV} {w : zW} {Q : Option zV → zW → Prop} (hk : (zk w h = zNC ∨ zk w h = zNC + 2) ∧ 0 ≤ zN j ∧ zN j < zl w h) : zR 40 5 [l0, l1, l2, l3, l4, l5, l6, l7, l8] (.inl j :: .inr (some h) :: st) w Q = zR 40 6 [l0, l1, l2, l3, l4, l5, l6, l7, l8] (.inl (za w h (zN j).toNat) :: st) w Q := zR_go (zst zT_40_5 (if_pos hk))
theorem zT_40_6 : zT 40 6 = some (.istore 4, 2, 0, []) := by decide +kernel
theorem zr_40_6 {l0 l1 l2 l3 l4 l5 l6 l7 l8 : Option zV} {x : Int} {st : List zV} {w : zW} {Q : Option zV → zW → Prop}  : zR 40 6 [l0, l1, l2, l3, l4, l5, l6, l7, l8] (.inl x :: st) w Q = zR 40 8 [l0, l1, l2, l3, some (.inl x), l5, l6, l7, l8] st w Q := zR_go (zst zT_40_6 rfl)
theorem zT_40_8 : zT 40 8 = some (.aload_n 0, 1, 0, []) := by decide +kernel
theorem zr_40_8 {l1 l2 l3 l4 l5 l6 l7 l8 : Option zV} {x : Option Nat} {st : List zV} {w : zW} {Q : Option zV → zW → Prop}  : zR 40 8 [some (.inr x), l1, l2, l3, l4, l5, l6, l7, l8] st w Q = zR 40 9 [some (.inr x), l1, l2, l3, l4, l5, l6, l7, l8] (.inr x :: st) w Q := zR_go (zst zT_40_8 rfl)
theorem zT_40_9 : zT 40 9 = some (.getfield 163, 3, 0, [(11, 39)]) := by decide +kernel
theorem zr_40_9 {l0 l1 l2 l3 l4 l5 l6 l7 l8 : Option zV} {h : Nat} {st : List zV} {w : zW} {Q : Option zV → zW → Prop} (hk : zk w h = 11) : zR 40 9 [l0, l1, l2, l3, l4, l5, l6, l7, l8] (.inr (some h) :: st) w Q = zR 40 12 [l0, l1, l2, l3, l4, l5, l6, l7, l8] (.inl (zf w 111 h) :: st) w Q := zR_go (zst zT_40_9 (zget_i hk (Or.inl rfl)))
theorem zT_40_12 : zT 40 12 = some (.istore 5, 2, 0, []) := by decide +kernel
theorem zr_40_12 {l0 l1 l2 l3 l4 l5 l6 l7 l8 : Option zV} {x : Int} {st : List zV} {w : zW} {Q : Option zV → zW → Prop}  : zR 40 12 [l0, l1, l2, l3, l4, l5, l6, l7, l8] (.inl x :: st) w Q = zR 40 14 [l0, l1, l2, l3, l4, some (.inl x), l6, l7, l8] st w Q := zR_go (zst zT_40_12 rfl)
theorem zT_40_14 : zT 40 14 = some (.iload 5, 2, 0, []) := by decide +kernel
theorem zr_40_14 {l0 l1 l2 l3 l4 l6 l7 l8 : Option zV} {x : Int} {st : List zV} {w : zW} {Q : Option zV → zW → Prop}  : zR 40 14 [l0, l1, l2, l3, l4, some (.inl x), l6, l7, l8] st w Q = zR 40 16 [l0, l1, l2, l3, l4, some (.inl x), l6, l7, l8] (.inl x :: st) w Q := zR_go (zst zT_40_14 rfl)
theorem zT_40_16 : zT 40 16 = some (.iconst 1, 1, 0, []) := by decide +kernel
theorem zr_40_16 {l0 l1 l2 l3 l4 l5 l6 l7 l8 : Option zV} {st : List zV} {w : zW} {Q : Option zV → zW → Prop}  : zR 40 16 [l0, l1, l2, l3, l4, l5, l6, l7, l8] st w Q = zR 40 17 [l0, l1, l2, l3, l4, l5, l6, l7, l8] (.inl 1 :: st) w Q := zR_go (zst zT_40_16 rfl)
theorem zT_40_17 : zT 40 17 = some (.if_icmp .le 12, 3, 0, []) := by decide +kernel
theorem zr_40_17 {l0 l1 l2 l3 l4 l5 l6 l7 l8 : Option zV} {x y : Int} {st : List zV} {w : zW} {Q : Option zV → zW → Prop}  : zR 40 17 [l0, l1, l2, l3, l4, l5, l6, l7, l8] (.inl y :: .inl x :: st) w Q = (if zN x ≤ zN y then zR 40 29 [l0, l1, l2, l3, l4, l5, l6, l7, l8] st w Q else zR 40 20 [l0, l1, l2, l3, l4, l5, l6, l7, l8] st w Q) := zR_if (zstB zT_40_17 rfl) (by simp [zcmp])
theorem zT_40_20 : zT 40 20 = some (.aload_n 0, 1, 0, []) := by decide +kernel
theorem zr_40_20 {l1 l2 l3 l4 l5 l6 l7 l8 : Option zV} {x : Option Nat} {st : List zV} {w : zW} {Q : Option zV → zW → Prop}  : zR 40 20 [some (.inr x), l1, l2, l3, l4, l5, l6, l7, l8] st w Q = zR 40 21 [some (.inr x), l1, l2, l3, l4, l5, l6, l7, l8] (.inr x :: st) w Q := zR_go (zst zT_40_20 rfl)
theorem zT_40_21 : zT 40 21 = some (.getfield 113, 3, 0, [(11, 38)]) := by decide +kernel
theorem zr_40_21 {l0 l1 l2 l3 l4 l5 l6 l7 l8 : Option zV} {h : Nat} {st : List zV} {w : zW} {Q : Option zV → zW → Prop} (hk : zk w h = 11) : zR 40 21 [l0, l1, l2, l3, l4, l5, l6, l7, l8] (.inr (some h) :: st) w Q = zR 40 24 [l0, l1, l2, l3, l4, l5, l6, l7, l8] (.inr (zp w 110 h) :: st) w Q := zR_go (zst zT_40_21 (zget_r hk rfl))
theorem zT_40_24 : zT 40 24 = some (.iconst 1, 1, 0, []) := by decide +kernel
theorem zr_40_24 {l0 l1 l2 l3 l4 l5 l6 l7 l8 : Option zV} {st : List zV} {w : zW} {Q : Option zV → zW → Prop}  : zR 40 24 [l0, l1, l2, l3, l4, l5, l6, l7, l8] st w Q = zR 40 25 [l0, l1, l2, l3, l4, l5, l6, l7, l8] (.inl 1 :: st) w Q := zR_go (zst zT_40_24 rfl)
theorem zT_40_25 : zT 40 25 = some (.iaload, 1, 0, []) := by decide +kernel
theorem zr_40_25 {l0 l1 l2 l3 l4 l5 l6 l7 l8 : Option zV} {j : Int} {h : Nat} {st : List zV} {w : zW} {Q : Option zV → zW → Prop} (hk : (zk w h = zNC ∨ zk w h = zNC + 2) ∧ 0 ≤ zN j ∧ zN j < zl w h) : zR 40 25 [l0, l1, l2, l3, l4, l5, l6, l7, l8] (.inl j :: .inr (some h) :: st) w Q = zR 40 26 [l0, l1, l2, l3, l4, l5, l6, l7, l8] (.inl (za w h (zN j).toNat) :: st) w Q := zR_go (zst zT_40_25 (if_pos hk))
theorem zT_40_26 : zT 40 26 = some (.goto 4, 3, 0, []) := by decide +kernel
theorem zr_40_26 {l0 l1 l2 l3 l4 l5 l6 l7 l8 : Option zV} {st : List zV} {w : zW} {Q : Option zV → zW → Prop}  : zR 40 26 [l0, l1, l2, l3, l4, l5, l6, l7, l8] st w Q = zR 40 30 [l0, l1, l2, l3, l4, l5, l6, l7, l8] st w Q := zR_go (zst zT_40_26 rfl)
theorem zT_40_29 : zT 40 29 = some (.iconst 0, 1, 0, []) := by decide +kernel
theorem zr_40_29 {l0 l1 l2 l3 l4 l5 l6 l7 l8 : Option zV} {st : List zV} {w : zW} {Q : Option zV → zW → Prop}  : zR 40 29 [l0, l1, l2, l3, l4, l5, l6, l7, l8] st w Q = zR 40 30 [l0, l1, l2, l3, l4, l5, l6, l7, l8] (.inl 0 :: st) w Q := zR_go (zst zT_40_29 rfl)
theorem zT_40_30 : zT 40 30 = some (.istore 6, 2, 0, []) := by decide +kernel
theorem zr_40_30 {l0 l1 l2 l3 l4 l5 l6 l7 l8 : Option zV} {x : Int} {st : List zV} {w : zW} {Q : Option zV → zW → Prop}  : zR 40 30 [l0, l1, l2, l3, l4, l5, l6, l7, l8] (.inl x :: st) w Q = zR 40 32 [l0, l1, l2, l3, l4, l5, some (.inl x), l7, l8] st w Q := zR_go (zst zT_40_30 rfl)
theorem zT_40_32 : zT 40 32 = some (.aload_n 0, 1, 0, []) := by decide +kernel
theorem zr_40_32 {l1 l2 l3 l4 l5 l6 l7 l8 : Option zV} {x : Option Nat} {st : List zV} {w : zW} {Q : Option zV → zW → Prop}  : zR 40 32 [some (.inr x), l1, l2, l3, l4, l5, l6, l7, l8] st w Q = zR 40 33 [some (.inr x), l1, l2, l3, l4, l5, l6, l7, l8] (.inr x :: st) w Q := zR_go (zst zT_40_32 rfl)
theorem zT_40_33 : zT 40 33 = some (.iconst 1, 1, 0, []) := by decide +kernel
theorem zr_40_33 {l0 l1 l2 l3 l4 l5 l6 l7 l8 : Option zV} {st : List zV} {w : zW} {Q : Option zV → zW → Prop}  : zR 40 33 [l0, l1, l2, l3, l4, l5, l6, l7, l8] st w Q = zR 40 34 [l0, l1, l2, l3, l4, l5, l6, l7, l8] (.inl 1 :: st) w Q := zR_go (zst zT_40_33 rfl)
theorem zT_40_34 : zT 40 34 = some (.putfield 163, 3, 0, [(11, 39)]) := by decide +kernel
theorem zr_40_34 {l0 l1 l2 l3 l4 l5 l6 l7 l8 : Option zV} {h : Nat} {x : Int} {st : List zV} {w : zW} {Q : Option zV → zW → Prop} (hk : zk w h = 11) : zR 40 34 [l0, l1, l2, l3, l4, l5, l6, l7, l8] (.inl x :: .inr (some h) :: st) w Q = zR 40 37 [l0, l1, l2, l3, l4, l5, l6, l7, l8] st (zsf w 111 h x) Q := zR_go (zst zT_40_34 (zput_i hk rfl))
theorem zT_40_37 : zT 40 37 = some (.iload 4, 2, 0, []) := by decide +kernel
theorem zr_40_37 {l0 l1 l2 l3 l5 l6 l7 l8 : Option zV} {x : Int} {st : List zV} {w : zW} {Q : Option zV → zW → Prop}  : zR 40 37 [l0, l1, l2, l3, some (.inl x), l5, l6, l7, l8] st w Q = zR 40 39 [l0, l1, l2, l3, some (.inl x), l5, l6, l7, l8] (.inl x :: st) w Q := zR_go (zst zT_40_37 rfl)
theorem zT_40_39 : zT 40 39 = some (.iconst 1, 1, 0, []) := by decide +kernel
theorem zr_40_39 {l0 l1 l2 l3 l4 l5 l6 l7 l8 : Option zV} {st : List zV} {w : zW} {Q : Option zV → zW → Prop}  : zR 40 39 [l0, l1, l2, l3, l4, l5, l6, l7, l8] st w Q = zR 40 40 [l0, l1, l2, l3, l4, l5, l6, l7, l8] (.inl 1 :: st) w Q := zR_go (zst zT_40_39 rfl)
theorem zT_40_40 : zT 40 40 = some (.if_icmp .ne 73, 3, 0, []) := by decide +kernel
theorem zr_40_40 {l0 l1 l2 l3 l4 l5 l6 l7 l8 : Option zV} {x y : Int} {st : List zV} {w : zW} {Q : Option zV → zW → Prop}  : zR 40 40 [l0, l1, l2, l3, l4, l5, l6, l7, l8] (.inl y :: .inl x :: st) w Q = (if zN x ≠ zN y then zR 40 113 [l0, l1, l2, l3, l4, l5, l6, l7, l8] st w Q else zR 40 43 [l0, l1, l2, l3, l4, l5, l6, l7, l8] st w Q) := zR_if (zstB zT_40_40 rfl) (by simp [zcmp])
theorem zT_40_43 : zT 40 43 = some (.iload 5, 2, 0, []) := by decide +kernel
theorem zr_40_43 {l0 l1 l2 l3 l4 l6 l7 l8 : Option zV} {x : Int} {st : List zV} {w : zW} {Q : Option zV → zW → Prop}  : zR 40 43 [l0, l1, l2, l3, l4, some (.inl x), l6, l7, l8] st w Q = zR 40 45 [l0, l1, l2, l3, l4, some (.inl x), l6, l7, l8] (.inl x :: st) w Q := zR_go (zst zT_40_43 rfl)
theorem zT_40_45 : zT 40 45 = some (.iconst 1, 1, 0, []) := by decide +kernel
theorem zr_40_45 {l0 l1 l2 l3 l4 l5 l6 l7 l8 : Option zV} {st : List zV} {w : zW} {Q : Option zV → zW → Prop}  : zR 40 45 [l0, l1, l2, l3, l4, l5, l6, l7, l8] st w Q = zR 40 46 [l0, l1, l2, l3, l4, l5, l6, l7, l8] (.inl 1 :: st) w Q := zR_go (zst zT_40_45 rfl)
theorem zT_40_46 : zT 40 46 = some (.if_icmp .ne 67, 3, 0, []) := by decide +kernel
theorem zr_40_46 {l0 l1 l2 l3 l4 l5 l6 l7 l8 : Option zV} {x y : Int} {st : List zV} {w : zW} {Q : Option zV → zW → Prop}  : zR 40 46 [l0, l1, l2, l3, l4, l5, l6, l7, l8] (.inl y :: .inl x :: st) w Q = (if zN x ≠ zN y then zR 40 113 [l0, l1, l2, l3, l4, l5, l6, l7, l8] st w Q else zR 40 49 [l0, l1, l2, l3, l4, l5, l6, l7, l8] st w Q) := zR_if (zstB zT_40_46 rfl) (by simp [zcmp])
theorem zT_40_49 : zT 40 49 = some (.aload_n 0, 1, 0, []) := by decide +kernel
theorem zr_40_49 {l1 l2 l3 l4 l5 l6 l7 l8 : Option zV} {x : Option Nat} {st : List zV} {w : zW} {Q : Option zV → zW → Prop}  : zR 40 49 [some (.inr x), l1, l2, l3, l4, l5, l6, l7, l8] st w Q = zR 40 50 [some (.inr x), l1, l2, l3, l4, l5, l6, l7, l8] (.inr x :: st) w Q := zR_go (zst zT_40_49 rfl)
theorem zT_40_50 : zT 40 50 = some (.iconst 4, 1, 0, []) := by decide +kernel
theorem zr_40_50 {l0 l1 l2 l3 l4 l5 l6 l7 l8 : Option zV} {st : List zV} {w : zW} {Q : Option zV → zW → Prop}  : zR 40 50 [l0, l1, l2, l3, l4, l5, l6, l7, l8] st w Q = zR 40 51 [l0, l1, l2, l3, l4, l5, l6, l7, l8] (.inl 4 :: st) w Q := zR_go (zst zT_40_50 rfl)
theorem zT_40_51 : zT 40 51 = some (.putfield 163, 3, 0, [(11, 39)]) := by decide +kernel
theorem zr_40_51 {l0 l1 l2 l3 l4 l5 l6 l7 l8 : Option zV} {h : Nat} {x : Int} {st : List zV} {w : zW} {Q : Option zV → zW → Prop} (hk : zk w h = 11) : zR 40 51 [l0, l1, l2, l3, l4, l5, l6, l7, l8] (.inl x :: .inr (some h) :: st) w Q = zR 40 54 [l0, l1, l2, l3, l4, l5, l6, l7, l8] st (zsf w 111 h x) Q := zR_go (zst zT_40_51 (zput_i hk rfl))
theorem zT_40_54 : zT 40 54 = some (.aload_n 0, 1, 0, []) := by decide +kernel
theorem zr_40_54 {l1 l2 l3 l4 l5 l6 l7 l8 : Option zV} {x : Option Nat} {st : List zV} {w : zW} {Q : Option zV → zW → Prop}  : zR 40 54 [some (.inr x), l1, l2, l3, l4, l5, l6, l7, l8] st w Q = zR 40 55 [some (.inr x), l1, l2, l3, l4, l5, l6, l7, l8] (.inr x :: st) w Q := zR_go (zst zT_40_54 rfl)
theorem zT_40_55 : zT 40 55 = some (.getfield 113, 3, 0, [(11, 38)]) := by decide +kernel
theorem zr_40_55 {l0 l1 l2 l3 l4 l5 l6 l7 l8 : Option zV} {h : Nat} {st : List zV} {w : zW} {Q : Option zV → zW → Prop} (hk : zk w h = 11) : zR 40 55 [l0, l1, l2, l3, l4, l5, l6, l7, l8] (.inr (some h) :: st) w Q = zR 40 58 [l0, l1, l2, l3, l4, l5, l6, l7, l8] (.inr (zp w 110 h) :: st) w Q := zR_go (zst zT_40_55 (zget_r hk rfl))
theorem zT_40_58 : zT 40 58 = some (.iconst 0, 1, 0, []) := by decide +kernel
theorem zr_40_58 {l0 l1 l2 l3 l4 l5 l6 l7 l8 : Option zV} {st : List zV} {w : zW} {Q : Option zV → zW → Prop}  : zR 40 58 [l0, l1, l2, l3, l4, l5, l6, l7, l8] st w Q = zR 40 59 [l0, l1, l2, l3, l4, l5, l6, l7, l8] (.inl 0 :: st) w Q := zR_go (zst zT_40_58 rfl)
theorem zT_40_59 : zT 40 59 = some (.sipush 129, 3, 0, []) := by decide +kernel
theorem zr_40_59 {l0 l1 l2 l3 l4 l5 l6 l7 l8 : Option zV} {st : List zV} {w : zW} {Q : Option zV → zW → Prop}  : zR 40 59 [l0, l1, l2, l3, l4, l5, l6, l7, l8] st w Q = zR 40 62 [l0, l1, l2, l3, l4, l5, l6, l7, l8] (.inl 129 :: st) w Q := zR_go (zst zT_40_59 rfl)
theorem zT_40_62 : zT 40 62 = some (.iastore, 1, 0, []) := by decide +kernel
theorem zr_40_62 {l0 l1 l2 l3 l4 l5 l6 l7 l8 : Option zV} {j x : Int} {h : Nat} {st : List zV} {w : zW} {Q : Option zV → zW → Prop} (hk : zk w h = zNC ∧ 0 ≤ zN j ∧ zN j < zl w h) : zR 40 62 [l0, l1, l2, l3, l4, l5, l6, l7, l8] (.inl x :: .inl j :: .inr (some h) :: st) w Q = zR 40 63 [l0, l1, l2, l3, l4, l5, l6, l7, l8] st (zsa w h (zN j).toNat x) Q := zR_go (zst zT_40_62 (if_pos hk))
theorem zT_40_63 : zT 40 63 = some (.aload_n 0, 1, 0, []) := by decide +kernel
theorem zr_40_63 {l1 l2 l3 l4 l5 l6 l7 l8 : Option zV} {x : Option Nat} {st : List zV} {w : zW} {Q : Option zV → zW → Prop}  : zR 40 63 [some (.inr x), l1, l2, l3, l4, l5, l6, l7, l8] st w Q = zR 40 64 [some (.inr x), l1, l2, l3, l4, l5, l6, l7, l8] (.inr x :: st) w Q := zR_go (zst zT_40_63 rfl)
theorem zT_40_64 : zT 40 64 = some (.getfield 113, 3, 0, [(11, 38)]) := by decide +kernel
theorem zr_40_64 {l0 l1 l2 l3 l4 l5 l6 l7 l8 : Option zV} {h : Nat} {st : List zV} {w : zW} {Q : Option zV → zW → Prop} (hk : zk w h = 11) : zR 40 64 [l0, l1, l2, l3, l4, l5, l6, l7, l8] (.inr (some h) :: st) w Q = zR 40 67 [l0, l1, l2, l3, l4, l5, l6, l7, l8] (.inr (zp w 110 h) :: st) w Q := zR_go (zst zT_40_64 (zget_r hk rfl))
theorem zT_40_67 : zT 40 67 = some (.iconst 1, 1, 0, []) := by decide +kernel
theorem zr_40_67 {l0 l1 l2 l3 l4 l5 l6 l7 l8 : Option zV} {st : List zV} {w : zW} {Q : Option zV → zW → Prop}  : zR 40 67 [l0, l1, l2, l3, l4, l5, l6, l7, l8] st w Q = zR 40 68 [l0, l1, l2, l3, l4, l5, l6, l7, l8] (.inl 1 :: st) w Q := zR_go (zst zT_40_67 rfl)
theorem zT_40_68 : zT 40 68 = some (.aload_n 0, 1, 0, []) := by decide +kernel
theorem zr_40_68 {l1 l2 l3 l4 l5 l6 l7 l8 : Option zV} {x : Option Nat} {st : List zV} {w : zW} {Q : Option zV → zW → Prop}  : zR 40 68 [some (.inr x), l1, l2, l3, l4, l5, l6, l7, l8] st w Q = zR 40 69 [some (.inr x), l1, l2, l3, l4, l5, l6, l7, l8] (.inr x :: st) w Q := zR_go (zst zT_40_68 rfl)
theorem zT_40_69 : zT 40 69 = some (.getfield 59, 3, 0, [(11, 17)]) := by decide +kernel
theorem zr_40_69 {l0 l1 l2 l3 l4 l5 l6 l7 l8 : Option zV} {h : Nat} {st : List zV} {w : zW} {Q : Option zV → zW → Prop} (hk : zk w h = 11) : zR 40 69 [l0, l1, l2, l3, l4, l5, l6, l7, l8] (.inr (some h) :: st) w Q = zR 40 72 [l0, l1, l2, l3, l4, l5, l6, l7, l8] (.inr (zp w 89 h) :: st) w Q := zR_go (zst zT_40_69 (zget_r hk rfl))
theorem zT_40_72 : zT 40 72 = some (.iload_n 1, 1, 0, []) := by decide +kernel
theorem zr_40_72 {l0 l2 l3 l4 l5 l6 l7 l8 : Option zV} {x : Int} {st : List zV} {w : zW} {Q : Option zV → zW → Prop}  : zR 40 72 [l0, some (.inl x), l2, l3, l4, l5, l6, l7, l8] st w Q = zR 40 73 [l0, some (.inl x), l2, l3, l4, l5, l6, l7, l8] (.inl x :: st) w Q := zR_go (zst zT_40_72 rfl)
theorem zT_40_73 : zT 40 73 = some (.iaload, 1, 0, []) := by decide +kernel
theorem zr_40_73 {l0 l1 l2 l3 l4 l5 l6 l7 l8 : Option zV} {j : Int} {h : Nat} {st : List zV} {w : zW} {Q : Option zV → zW → Prop} (hk : (zk w h = zNC ∨ zk w h = zNC + 2) ∧ 0 ≤ zN j ∧ zN j < zl w h) : zR 40 73 [l0, l1, l2, l3, l4, l5, l6, l7, l8] (.inl j :: .inr (some h) :: st) w Q = zR 40 74 [l0, l1, l2, l3, l4, l5, l6, l7, l8] (.inl (za w h (zN j).toNat) :: st) w Q := zR_go (zst zT_40_73 (if_pos hk))
theorem zT_40_74 : zT 40 74 = some (.iastore, 1, 0, []) := by decide +kernel
theorem zr_40_74 {l0 l1 l2 l3 l4 l5 l6 l7 l8 : Option zV} {j x : Int} {h : Nat} {st : List zV} {w : zW} {Q : Option zV → zW → Prop} (hk : zk w h = zNC ∧ 0 ≤ zN j ∧ zN j < zl w h) : zR 40 74 [l0, l1, l2, l3, l4, l5, l6, l7, l8] (.inl x :: .inl j :: .inr (some h) :: st) w Q = zR 40 75 [l0, l1, l2, l3, l4, l5, l6, l7, l8] st (zsa w h (zN j).toNat x) Q := zR_go (zst zT_40_74 (if_pos hk))
theorem zT_40_75 : zT 40 75 = some (.aload_n 0, 1, 0, []) := by decide +kernel
theorem zr_40_75 {l1 l2 l3 l4 l5 l6 l7 l8 : Option zV} {x : Option Nat} {st : List zV} {w : zW} {Q : Option zV → zW → Prop}  : zR 40 75 [some (.inr x), l1, l2, l3, l4, l5, l6, l7, l8] st w Q = zR 40 76 [some (.inr x), l1, l2, l3, l4, l5, l6, l7, l8] (.inr x :: st) w Q := zR_go (zst zT_40_75 rfl)
theorem zT_40_76 : zT 40 76 = some (.getfield 113, 3, 0, [(11, 38)]) := by decide +kernel
theorem zr_40_76 {l0 l1 l2 l3 l4 l5 l6 l7 l8 : Option zV} {h : Nat} {st : List zV} {w : zW} {Q : Option zV → zW → Prop} (hk : zk w h = 11) : zR 40 76 [l0, l1, l2, l3, l4, l5, l6, l7, l8] (.inr (some h) :: st) w Q = zR 40 79 [l0, l1, l2, l3, l4, l5, l6, l7, l8] (.inr (zp w 110 h) :: st) w Q := zR_go (zst zT_40_76 (zget_r hk rfl))
theorem zT_40_79 : zT 40 79 = some (.iconst 2, 1, 0, []) := by decide +kernel
theorem zr_40_79 {l0 l1 l2 l3 l4 l5 l6 l7 l8 : Option zV} {st : List zV} {w : zW} {Q : Option zV → zW → Prop}  : zR 40 79 [l0, l1, l2, l3, l4, l5, l6, l7, l8] st w Q = zR 40 80 [l0, l1, l2, l3, l4, l5, l6, l7, l8] (.inl 2 :: st) w Q := zR_go (zst zT_40_79 rfl)
theorem zT_40_80 : zT 40 80 = some (.aload_n 0, 1, 0, []) := by decide +kernel
theorem zr_40_80 {l1 l2 l3 l4 l5 l6 l7 l8 : Option zV} {x : Option Nat} {st : List zV} {w : zW} {Q : Option zV → zW → Prop}  : zR 40 80 [some (.inr x), l1, l2, l3, l4, l5, l6, l7, l8] st w Q = zR 40 81 [some (.inr x), l1, l2, l3, l4, l5, l6, l7, l8] (.inr x :: st) w Q := zR_go (zst zT_40_80 rfl)
theorem zT_40_81 : zT 40 81 = some (.getfield 47, 3, 0, [(11, 13)]) := by decide +kernel
theorem zr_40_81 {l0 l1 l2 l3 l4 l5 l6 l7 l8 : Option zV} {h : Nat} {st : List zV} {w : zW} {Q : Option zV → zW → Prop} (hk : zk w h = 11) : zR 40 81 [l0, l1, l2, l3, l4, l5, l6, l7, l8] (.inr (some h) :: st) w Q = zR 40 84 [l0, l1, l2, l3, l4, l5, l6, l7, l8] (.inr (zp w 85 h) :: st) w Q := zR_go (zst zT_40_81 (zget_r hk rfl))
theorem zT_40_84 : zT 40 84 = some (.iload_n 1, 1, 0, []) := by decide +kernel
theorem zr_40_84 {l0 l2 l3 l4 l5 l6 l7 l8 : Option zV} {x : Int} {st : List zV} {w : zW} {Q : Option zV → zW → Prop}  : zR 40 84 [l0, some (.inl x), l2, l3, l4, l5, l6, l7, l8] st w Q = zR 40 85 [l0, some (.inl x), l2, l3, l4, l5, l6, l7, l8] (.inl x :: st) w Q := zR_go (zst zT_40_84 rfl)
theorem zT_40_85 : zT 40 85 = some (.iaload, 1, 0, []) := by decide +kernel
theorem zr_40_85 {l0 l1 l2 l3 l4 l5 l6 l7 l8 : Option zV} {j : Int} {h : Nat} {st : List zV} {w : zW} {Q : Option zV → zW → Prop} (hk : (zk w h = zNC ∨ zk w h = zNC + 2) ∧ 0 ≤ zN j ∧ zN j < zl w h) : zR 40 85 [l0, l1, l2, l3, l4, l5, l6, l7, l8] (.inl j :: .inr (some h) :: st) w Q = zR 40 86 [l0, l1, l2, l3, l4, l5, l6, l7, l8] (.inl (za w h (zN j).toNat) :: st) w Q := zR_go (zst zT_40_85 (if_pos hk))
theorem zT_40_86 : zT 40 86 = some (.bipush 8, 2, 0, []) := by decide +kernel
theorem zr_40_86 {l0 l1 l2 l3 l4 l5 l6 l7 l8 : Option zV} {st : List zV} {w : zW} {Q : Option zV → zW → Prop}  : zR 40 86 [l0, l1, l2, l3, l4, l5, l6, l7, l8] st w Q = zR 40 88 [l0, l1, l2, l3, l4, l5, l6, l7, l8] (.inl 8 :: st) w Q := zR_go (zst zT_40_86 rfl)
theorem zT_40_88 : zT 40 88 = some (.ishr, 1, 0, []) := by decide +kernel
theorem zr_40_88 {l0 l1 l2 l3 l4 l5 l6 l7 l8 : Option zV} {x y : Int} {st : List zV} {w : zW} {Q : Option zV → zW → Prop}  : zR 40 88 [l0, l1, l2, l3, l4, l5, l6, l7, l8] (.inl y :: .inl x :: st) w Q = zR 40 89 [l0, l1, l2, l3, l4, l5, l6, l7, l8] (.inl (zo_shr x y) :: st) w Q := zR_go (zst zT_40_88 rfl)
theorem zT_40_89 : zT 40 89 = some (.sipush 255, 3, 0, []) := by decide +kernel
theorem zr_40_89 {l0 l1 l2 l3 l4 l5 l6 l7 l8 : Option zV} {st : List zV} {w : zW} {Q : Option zV → zW → Prop}  : zR 40 89 [l0, l1, l2, l3, l4, l5, l6, l7, l8] st w Q = zR 40 92 [l0, l1, l2, l3, l4, l5, l6, l7, l8] (.inl 255 :: st) w Q := zR_go (zst zT_40_89 rfl)
theorem zT_40_92 : zT 40 92 = some (.iand, 1, 0, []) := by decide +kernel
theorem zr_40_92 {l0 l1 l2 l3 l4 l5 l6 l7 l8 : Option zV} {x y : Int} {st : List zV} {w : zW} {Q : Option zV → zW → Prop}  : zR 40 92 [l0, l1, l2, l3, l4, l5, l6, l7, l8] (.inl y :: .inl x :: st) w Q = zR 40 93 [l0, l1, l2, l3, l4, l5, l6, l7, l8] (.inl (zo_and x y) :: st) w Q := zR_go (zst zT_40_92 rfl)
theorem zT_40_93 : zT 40 93 = some (.iastore, 1, 0, []) := by decide +kernel
theorem zr_40_93 {l0 l1 l2 l3 l4 l5 l6 l7 l8 : Option zV} {j x : Int} {h : Nat} {st : List zV} {w : zW} {Q : Option zV → zW → Prop} (hk : zk w h = zNC ∧ 0 ≤ zN j ∧ zN j < zl w h) : zR 40 93 [l0, l1, l2, l3, l4, l5, l6, l7, l8] (.inl x :: .inl j :: .inr (some h) :: st) w Q = zR 40 94 [l0, l1, l2, l3, l4, l5, l6, l7, l8] st (zsa w h (zN j).toNat x) Q := zR_go (zst zT_40_93 (if_pos hk))
theorem zT_40_94 : zT 40 94 = some (.aload_n 0, 1, 0, []) := by decide +kernel
theorem zr_40_94 {l1 l2 l3 l4 l5 l6 l7 l8 : Option zV} {x : Option Nat} {st : List zV} {w : zW} {Q : Option zV → zW → Prop}  : zR 40 94 [some (.inr x), l1, l2, l3, l4, l5, l6, l7, l8] st w Q = zR 40 95 [some (.inr x), l1, l2, l3, l4, l5, l6, l7, l8] (.inr x :: st) w Q := zR_go (zst zT_40_94 rfl)
theorem zT_40_95 : zT 40 95 = some (.getfield 113, 3, 0, [(11, 38)]) := by decide +kernel
theorem zr_40_95 {l0 l1 l2 l3 l4 l5 l6 l7 l8 : Option zV} {h : Nat} {st : List zV} {w : zW} {Q : Option zV → zW → Prop} (hk : zk w h = 11) : zR 40 95 [l0, l1, l2, l3, l4, l5, l6, l7, l8] (.inr (some h) :: st) w Q = zR 40 98 [l0, l1, l2, l3, l4, l5, l6, l7, l8] (.inr (zp w 110 h) :: st) w Q := zR_go (zst zT_40_95 (zget_r hk rfl))
theorem zT_40_98 : zT 40 98 = some (.iconst 3, 1, 0, []) := by decide +kernel
theorem zr_40_98 {l0 l1 l2 l3 l4 l5 l6 l7 l8 : Option zV} {st : List zV} {w : zW} {Q : Option zV → zW → Prop}  : zR 40 98 [l0, l1, l2, l3, l4, l5, l6, l7, l8] st w Q = zR 40 99 [l0, l1, l2, l3, l4, l5, l6, l7, l8] (.inl 3 :: st) w Q := zR_go (zst zT_40_98 rfl)
theorem zT_40_99 : zT 40 99 = some (.aload_n 0, 1, 0, []) := by decide +kernel
theorem zr_40_99 {l1 l2 l3 l4 l5 l6 l7 l8 : Option zV} {x : Option Nat} {st : List zV} {w : zW} {Q : Option zV → zW → Prop}  : zR 40 99 [some (.inr x), l1, l2, l3, l4, l5, l6, l7, l8] st w Q = zR 40 100 [some (.inr x), l1, l2, l3, l4, l5, l6, l7, l8] (.inr x :: st) w Q := zR_go (zst zT_40_99 rfl)
theorem zT_40_100 : zT 40 100 = some (.getfield 47, 3, 0, [(11, 13)]) := by decide +kernel
theorem zr_40_100 {l0 l1 l2 l3 l4 l5 l6 l7 l8 : Option zV} {h : Nat} {st : List zV} {w : zW} {Q : Option zV → zW → Prop} (hk : zk w h = 11) : zR 40 100 [l0, l1, l2, l3, l4, l5, l6, l7, l8] (.inr (some h) :: st) w Q = zR 40 103 [l0, l1, l2, l3, l4, l5, l6, l7, l8] (.inr (zp w 85 h) :: st) w Q := zR_go (zst zT_40_100 (zget_r hk rfl))
theorem zT_40_103 : zT 40 103 = some (.iload_n 1, 1, 0, []) := by decide +kernel
theorem zr_40_103 {l0 l2 l3 l4 l5 l6 l7 l8 : Option zV} {x : Int} {st : List zV} {w : zW} {Q : Option zV → zW → Prop}  : zR 40 103 [l0, some (.inl x), l2, l3, l4, l5, l6, l7, l8] st w Q = zR 40 104 [l0, some (.inl x), l2, l3, l4, l5, l6, l7, l8] (.inl x :: st) w Q := zR_go (zst zT_40_103 rfl)
theorem zT_40_104 : zT 40 104 = some (.iaload, 1, 0, []) := by decide +kernel
theorem zr_40_104 {l0 l1 l2 l3 l4 l5 l6 l7 l8 : Option zV} {j : Int} {h : Nat} {st : List zV} {w : zW} {Q : Option zV → zW → Prop} (hk : (zk w h = zNC ∨ zk w h = zNC + 2) ∧ 0 ≤ zN j ∧ zN j < zl w h) : zR 40 104 [l0, l1, l2, l3, l4, l5, l6, l7, l8] (.inl j :: .inr (some h) :: st) w Q = zR 40 105 [l0, l1, l2, l3, l4, l5, l6, l7, l8] (.inl (za w h (zN j).toNat) :: st) w Q := zR_go (zst zT_40_104 (if_pos hk))
theorem zT_40_105 : zT 40 105 = some (.sipush 255, 3, 0, []) := by decide +kernel
theorem zr_40_105 {l0 l1 l2 l3 l4 l5 l6 l7 l8 : Option zV} {st : List zV} {w : zW} {Q : Option zV → zW → Prop}  : zR 40 105 [l0, l1, l2, l3, l4, l5, l6, l7, l8] st w Q = zR 40 108 [l0, l1, l2, l3, l4, l5, l6, l7, l8] (.inl 255 :: st) w Q := zR_go (zst zT_40_105 rfl)
theorem zT_40_108 : zT 40 108 = some (.iand, 1, 0, []) := by decide +kernel
theorem zr_40_108 {l0 l1 l2 l3 l4 l5 l6 l7 l8 : Option zV} {x y : Int} {st : List zV} {w : zW} {Q : Option zV → zW → Prop}  : zR 40 108 [l0, l1, l2, l3, l4, l5, l6, l7, l8] (.inl y :: .inl x :: st) w Q = zR 40 109 [l0, l1, l2, l3, l4, l5, l6, l7, l8] (.inl (zo_and x y) :: st) w Q := zR_go (zst zT_40_108 rfl)
theorem zT_40_109 : zT 40 109 = some (.iastore, 1, 0, []) := by decide +kernel
theorem zr_40_109 {l0 l1 l2 l3 l4 l5 l6 l7 l8 : Option zV} {j x : Int} {h : Nat} {st : List zV} {w : zW} {Q : Option zV → zW → Prop} (hk : zk w h = zNC ∧ 0 ≤ zN j ∧ zN j < zl w h) : zR 40 109 [l0, l1, l2, l3, l4, l5, l6, l7, l8] (.inl x :: .inl j :: .inr (some h) :: st) w Q = zR 40 110 [l0, l1, l2, l3, l4, l5, l6, l7, l8] st (zsa w h (zN j).toNat x) Q := zR_go (zst zT_40_109 (if_pos hk))
theorem zT_40_110 : zT 40 110 = some (.goto 303, 3, 0, []) := by decide +kernel
theorem zr_40_110 {l0 l1 l2 l3 l4 l5 l6 l7 l8 : Option zV} {st : List zV} {w : zW} {Q : Option zV → zW → Prop}  : zR 40 110 [l0, l1, l2, l3, l4, l5, l6, l7, l8] st w Q = zR 40 413 [l0, l1, l2, l3, l4, l5, l6, l7, l8] st w Q := zR_go (zst zT_40_110 rfl)
theorem zT_40_113 : zT 40 113 = some (.iload 4, 2, 0, []) := by decide +kernel
theorem zr_40_113 {l0 l1 l2 l3 l5 l6 l7 l8 : Option zV} {x : Int} {st : List zV} {w : zW} {Q : Option zV → zW → Prop}  : zR 40 113 [l0, l1, l2, l3, some (.inl x), l5, l6, l7, l8] st w Q = zR 40 115 [l0, l1, l2, l3, some (.inl x), l5, l6, l7, l8] (.inl x :: st) w Q := zR_go (zst zT_40_113 rfl)
theorem zT_40_115 : zT 40 115 = some (.iconst 2, 1, 0, []) := by decide +kernel
theorem zr_40_115 {l0 l1 l2 l3 l4 l5 l6 l7 l8 : Option zV} {st : List zV} {w : zW} {Q : Option zV → zW → Prop}  : zR 40 115 [l0, l1, l2, l3, l4, l5, l6, l7, l8] st w Q = zR 40 116 [l0, l1, l2, l3, l4, l5, l6, l7, l8] (.inl 2 :: st) w Q := zR_go (zst zT_40_115 rfl)
theorem zT_40_116 : zT 40 116 = some (.if_icmp .ne 66, 3, 0, []) := by decide +kernel
theorem zr_40_116 {l0 l1 l2 l3 l4 l5 l6 l7 l8 : Option zV} {x y : Int} {st : List zV} {w : zW} {Q : Option zV → zW → Prop}  : zR 40 116 [l0, l1, l2, l3, l4, l5, l6, l7, l8] (.inl y :: .inl x :: st) w Q = (if zN x ≠ zN y then zR 40 182 [l0, l1, l2, l3, l4, l5, l6, l7, l8] st w Q else zR 40 119 [l0, l1, l2, l3, l4, l5, l6, l7, l8] st w Q) := zR_if (zstB zT_40_116 rfl) (by simp [zcmp])
theorem zT_40_119 : zT 40 119 = some (.iload 5, 2, 0, []) := by decide +kernel
theorem zr_40_119 {l0 l1 l2 l3 l4 l6 l7 l8 : Option zV} {x : Int} {st : List zV} {w : zW} {Q : Option zV → zW → Prop}  : zR 40 119 [l0, l1, l2, l3, l4, some (.inl x), l6, l7, l8] st w Q = zR 40 121 [l0, l1, l2, l3, l4, some (.inl x), l6, l7, l8] (.inl x :: st) w Q := zR_go (zst zT_40_119 rfl)
theorem zT_40_121 : zT 40 121 = some (.bipush 6, 2, 0, []) := by decide +kernel
theorem zr_40_121 {l0 l1 l2 l3 l4 l5 l6 l7 l8 : Option zV} {st : List zV} {w : zW} {Q : Option zV → zW → Prop}  : zR 40 121 [l0, l1, l2, l3, l4, l5, l6, l7, l8] st w Q = zR 40 123 [l0, l1, l2, l3, l4, l5, l6, l7, l8] (.inl 6 :: st) w Q := zR_go (zst zT_40_121 rfl)
theorem zT_40_123 : zT 40 123 = some (.if_icmp .ne 59, 3, 0, []) := by decide +kernel
theorem zr_40_123 {l0 l1 l2 l3 l4 l5 l6 l7 l8 : Option zV} {x y : Int} {st : List zV} {w : zW} {Q : Option zV → zW → Prop}  : zR 40 123 [l0, l1, l2, l3, l4, l5, l6, l7, l8] (.inl y :: .inl x :: st) w Q = (if zN x ≠ zN y then zR 40 182 [l0, l1, l2, l3, l4, l5, l6, l7, l8] st w Q else zR 40 126 [l0, l1, l2, l3, l4, l5, l6, l7, l8] st w Q) := zR_if (zstB zT_40_123 rfl) (by simp [zcmp])
theorem zT_40_126 : zT 40 126 = some (.aload_n 0, 1, 0, []) := by decide +kernel
theorem zr_40_126 {l1 l2 l3 l4 l5 l6 l7 l8 : Option zV} {x : Option Nat} {st : List zV} {w : zW} {Q : Option zV → zW → Prop}  : zR 40 126 [some (.inr x), l1, l2, l3, l4, l5, l6, l7, l8] st w Q = zR 40 127 [some (.inr x), l1, l2, l3, l4, l5, l6, l7, l8] (.inr x :: st) w Q := zR_go (zst zT_40_126 rfl)
theorem zT_40_127 : zT 40 127 = some (.getfield 50, 3, 0, [(11, 14)]) := by decide +kernel
theorem zr_40_127 {l0 l1 l2 l3 l4 l5 l6 l7 l8 : Option zV} {h : Nat} {st : List zV} {w : zW} {Q : Option zV → zW → Prop} (hk : zk w h = 11) : zR 40 127 [l0, l1, l2, l3, l4, l5, l6, l7, l8] (.inr (some h) :: st) w Q = zR 40 130 [l0, l1, l2, l3, l4, l5, l6, l7, l8] (.inr (zp w 86 h) :: st) w Q := zR_go (zst zT_40_127 (zget_r hk rfl))
theorem zT_40_130 : zT 40 130 = some (.iload_n 1, 1, 0, []) := by decide +kernel
theorem zr_40_130 {l0 l2 l3 l4 l5 l6 l7 l8 : Option zV} {x : Int} {st : List zV} {w : zW} {Q : Option zV → zW → Prop}  : zR 40 130 [l0, some (.inl x), l2, l3, l4, l5, l6, l7, l8] st w Q = zR 40 131 [l0, some (.inl x), l2, l3, l4, l5, l6, l7, l8] (.inl x :: st) w Q := zR_go (zst zT_40_130 rfl)
theorem zT_40_131 : zT 40 131 = some (.aload_n 0, 1, 0, []) := by decide +kernel
theorem zr_40_131 {l1 l2 l3 l4 l5 l6 l7 l8 : Option zV} {x : Option Nat} {st : List zV} {w : zW} {Q : Option zV → zW → Prop}  : zR 40 131 [some (.inr x), l1, l2, l3, l4, l5, l6, l7, l8] st w Q = zR 40 132 [some (.inr x), l1, l2, l3, l4, l5, l6, l7, l8] (.inr x :: st) w Q := zR_go (zst zT_40_131 rfl)
theorem zT_40_132 : zT 40 132 = some (.iconst 1, 1, 0, []) := by decide +kernel
theorem zr_40_132 {l0 l1 l2 l3 l4 l5 l6 l7 l8 : Option zV} {st : List zV} {w : zW} {Q : Option zV → zW → Prop}  : zR 40 132 [l0, l1, l2, l3, l4, l5, l6, l7, l8] st w Q = zR 40 133 [l0, l1, l2, l3, l4, l5, l6, l7, l8] (.inl 1 :: st) w Q := zR_go (zst zT_40_132 rfl)
theorem zT_40_133 : zT 40 133 = some (.invokevirtual 177, 3, 1, [(11, 39)]) := by decide +kernel
theorem zr_40_133 {l0 l1 l2 l3 l4 l5 l6 l7 l8 : Option zV} {a0 : zV} {h : Nat} {st : List zV} {w : zW} {Q : Option zV → zW → Prop} (hs : st.length ≤ 8) (hk : zk w h = 11) : zR 40 133 [l0, l1, l2, l3, l4, l5, l6, l7, l8] (a0 :: .inr (some h) :: st) w Q = zR 39 0 [some (.inr (some h)), some a0, none] [] w (fun r w2 => zR 40 136 [l0, l1, l2, l3, l4, l5, l6, l7, l8] (r.toList ++ st) w2 Q) := zR_call (zst zT_40_133 (zcall_v [a0] rfl hs hk rfl))
theorem zT_40_136 : zT 40 136 = some (.iastore, 1, 0, []) := by decide +kernel
theorem zr_40_136 {l0 l1 l2 l3 l4 l5 l6 l7 l8 : Option zV} {j x : Int} {h : Nat} {st : List zV} {w : zW} {Q : Option zV → zW → Prop} (hk : zk w h = zNC ∧ 0 ≤ zN j ∧ zN j < zl w h) : zR 40 136 [l0, l1, l2, l3, l4, l5, l6, l7, l8] (.inl x :: .inl j :: .inr (some h) :: st) w Q = zR 40 137 [l0, l1, l2, l3, l4, l5, l6, l7, l8] st (zsa w h (zN j).toNat x) Q := zR_go (zst zT_40_136 (if_pos hk))
theorem zT_40_137 : zT 40 137 = some (.aload_n 0, 1, 0, []) := by decide +kernel
theorem zr_40_137 {l1 l2 l3 l4 l5 l6 l7 l8 : Option zV} {x : Option Nat} {st : List zV} {w : zW} {Q : Option zV → zW → Prop}  : zR 40 137 [some (.inr x), l1, l2, l3, l4, l5, l6, l7, l8] st w Q = zR 40 138 [some (.inr x), l1, l2, l3, l4, l5, l6, l7, l8] (.inr x :: st) w Q := zR_go (zst zT_40_137 rfl)
theorem zT_40_138 : zT 40 138 = some (.getfield 53, 3, 0, [(11, 15)]) := by decide +kernel
theorem zr_40_138 {l0 l1 l2 l3 l4 l5 l6 l7 l8 : Option zV} {h : Nat} {st : List zV} {w : zW} {Q : Option zV → zW → Prop} (hk : zk w h = 11) : zR 40 138 [l0, l1, l2, l3, l4, l5, l6, l7, l8] (.inr (some h) :: st) w Q = zR 40 141 [l0, l1, l2, l3, l4, l5, l6, l7, l8] (.inr (zp w 87 h) :: st) w Q := zR_go (zst zT_40_138 (zget_r hk rfl))
theorem zT_40_141 : zT 40 141 = some (.iload_n 1, 1, 0, []) := by decide +kernel
theorem zr_40_141 {l0 l2 l3 l4 l5 l6 l7 l8 : Option zV} {x : Int} {st : List zV} {w : zW} {Q : Option zV → zW → Prop}  : zR 40 141 [l0, some (.inl x), l2, l3, l4, l5, l6, l7, l8] st w Q = zR 40 142 [l0, some (.inl x), l2, l3, l4, l5, l6, l7, l8] (.inl x :: st) w Q := zR_go (zst zT_40_141 rfl)
theorem zT_40_142 : zT 40 142 = some (.aload_n 0, 1, 0, []) := by decide +kernel
theorem zr_40_142 {l1 l2 l3 l4 l5 l6 l7 l8 : Option zV} {x : Option Nat} {st : List zV} {w : zW} {Q : Option zV → zW → Prop}  : zR 40 142 [some (.inr x), l1, l2, l3, l4, l5, l6, l7, l8] st w Q = zR 40 143 [some (.inr x), l1, l2, l3, l4, l5, l6, l7, l8] (.inr x :: st) w Q := zR_go (zst zT_40_142 rfl)
theorem zT_40_143 : zT 40 143 = some (.iconst 3, 1, 0, []) := by decide +kernel
theorem zr_40_143 {l0 l1 l2 l3 l4 l5 l6 l7 l8 : Option zV} {st : List zV} {w : zW} {Q : Option zV → zW → Prop}  : zR 40 143 [l0, l1, l2, l3, l4, l5, l6, l7, l8] st w Q = zR 40 144 [l0, l1, l2, l3, l4, l5, l6, l7, l8] (.inl 3 :: st) w Q := zR_go (zst zT_40_143 rfl)
theorem zT_40_144 : zT 40 144 = some (.invokevirtual 177, 3, 1, [(11, 39)]) := by decide +kernel
theorem zr_40_144 {l0 l1 l2 l3 l4 l5 l6 l7 l8 : Option zV} {a0 : zV} {h : Nat} {st : List zV} {w : zW} {Q : Option zV → zW → Prop} (hs : st.length ≤ 8) (hk : zk w h = 11) : zR 40 144 [l0, l1, l2, l3, l4, l5, l6, l7, l8] (a0 :: .inr (some h) :: st) w Q = zR 39 0 [some (.inr (some h)), some a0, none] [] w (fun r w2 => zR 40 147 [l0, l1, l2, l3, l4, l5, l6, l7, l8] (r.toList ++ st) w2 Q) := zR_call (zst zT_40_144 (zcall_v [a0] rfl hs hk rfl))
theorem zT_40_147 : zT 40 147 = some (.iastore, 1, 0, []) := by decide +kernel
theorem zr_40_147 {l0 l1 l2 l3 l4 l5 l6 l7 l8 : Option zV} {j x : Int} {h : Nat} {st : List zV} {w : zW} {Q : Option zV → zW → Prop} (hk : zk w h = zNC ∧ 0 ≤ zN j ∧ zN j < zl w h) : zR 40 147 [l0, l1, l2, l3, l4, l5, l6, l7, l8] (.inl x :: .inl j :: .inr (some h) :: st) w Q = zR 40 148 [l0, l1, l2, l3, l4, l5, l6, l7, l8] st (zsa w h (zN j).toNat x) Q := zR_go (zst zT_40_147 (if_pos hk))
theorem zT_40_148 : zT 40 148 = some (.aload_n 0, 1, 0, []) := by decide +kernel
theorem zr_40_148 {l1 l2 l3 l4 l5 l6 l7 l8 : Option zV} {x : Option Nat} {st : List zV} {w : zW} {Q : Option zV → zW → Prop}  : zR 40 148 [some (.inr x), l1, l2, l3, l4, l5, l6, l7, l8] st w Q = zR 40 149 [some (.inr x), l1, l2, l3, l4, l5, l6, l7, l8] (.inr x :: st) w Q := zR_go (zst zT_40_148 rfl)
theorem zT_40_149 : zT 40 149 = some (.getfield 56, 3, 0, [(11, 16)]) := by decide +kernel
theorem zr_40_149 {l0 l1 l2 l3 l4 l5 l6 l7 l8 : Option zV} {h : Nat} {st : List zV} {w : zW} {Q : Option zV → zW → Prop} (hk : zk w h = 11) : zR 40 149 [l0, l1, l2, l3, l4, l5, l6, l7, l8] (.inr (some h) :: st) w Q = zR 40 152 [l0, l1, l2, l3, l4, l5, l6, l7, l8] (.inr (zp w 88 h) :: st) w Q := zR_go (zst zT_40_149 (zget_r hk rfl))
theorem zT_40_152 : zT 40 152 = some (.iload_n 1, 1, 0, []) := by decide +kernel
theorem zr_40_152 {l0 l2 l3 l4 l5 l6 l7 l8 : Option zV} {x : Int} {st : List zV} {w : zW} {Q : Option zV → zW → Prop}  : zR 40 152 [l0, some (.inl x), l2, l3, l4, l5, l6, l7, l8] st w Q = zR 40 153 [l0, some (.inl x), l2, l3, l4, l5, l6, l7, l8] (.inl x :: st) w Q := zR_go (zst zT_40_152 rfl)
theorem zT_40_153 : zT 40 153 = some (.aload_n 0, 1, 0, []) := by decide +kernel
theorem zr_40_153 {l1 l2 l3 l4 l5 l6 l7 l8 : Option zV} {x : Option Nat} {st : List zV} {w : zW} {Q : Option zV → zW → Prop}  : zR 40 153 [some (.inr x), l1, l2, l3, l4, l5, l6, l7, l8] st w Q = zR 40 154 [some (.inr x), l1, l2, l3, l4, l5, l6, l7, l8] (.inr x :: st) w Q := zR_go (zst zT_40_153 rfl)
theorem zT_40_154 : zT 40 154 = some (.getfield 113, 3, 0, [(11, 38)]) := by decide +kernel
theorem zr_40_154 {l0 l1 l2 l3 l4 l5 l6 l7 l8 : Option zV} {h : Nat} {st : List zV} {w : zW} {Q : Option zV → zW → Prop} (hk : zk w h = 11) : zR 40 154 [l0, l1, l2, l3, l4, l5, l6, l7, l8] (.inr (some h) :: st) w Q = zR 40 157 [l0, l1, l2, l3, l4, l5, l6, l7, l8] (.inr (zp w 110 h) :: st) w Q := zR_go (zst zT_40_154 (zget_r hk rfl))
theorem zT_40_157 : zT 40 157 = some (.iconst 5, 1, 0, []) := by decide +kernel
theorem zr_40_157 {l0 l1 l2 l3 l4 l5 l6 l7 l8 : Option zV} {st : List zV} {w : zW} {Q : Option zV → zW → Prop}  : zR 40 157 [l0, l1, l2, l3, l4, l5, l6, l7, l8] st w Q = zR 40 158 [l0, l1, l2, l3, l4, l5, l6, l7, l8] (.inl 5 :: st) w Q := zR_go (zst zT_40_157 rfl)
theorem zT_40_158 : zT 40 158 = some (.iaload, 1, 0, []) := by decide +kernel
theorem zr_40_158 {l0 l1 l2 l3 l4 l5 l6 l7 l8 : Option zV} {j : Int} {h : Nat} {st : List zV} {w : zW} {Q : Option zV → zW → Prop} (hk : (zk w h = zNC ∨ zk w h = zNC + 2) ∧ 0 ≤ zN j ∧ zN j < zl w h) : zR 40 158 [l0, l1, l2, l3, l4, l5, l6, l7, l8] (.inl j :: .inr (some h) :: st) w Q = zR 40 159 [l0, l1, l2, l3, l4, l5, l6, l7, l8] (.inl (za w h (zN j).toNat) :: st) w Q := zR_go (zst zT_40_158 (if_pos hk))
theorem zT_40_159 : zT 40 159 = some (.iastore, 1, 0, []) := by decide +kernel
theorem zr_40_159 {l0 l1 l2 l3 l4 l5 l6 l7 l8 : Option zV} {j x : Int} {h : Nat} {st : List zV} {w : zW} {Q : Option zV → zW → Prop} (hk : zk w h = zNC ∧ 0 ≤ zN j ∧ zN j < zl w h) : zR 40 159 [l0, l1, l2, l3, l4, l5, l6, l7, l8] (.inl x :: .inl j :: .inr (some h) :: st) w Q = zR 40 160 [l0, l1, l2, l3, l4, l5, l6, l7, l8] st (zsa w h (zN j).toNat x) Q := zR_go (zst zT_40_159 (if_pos hk))
theorem zT_40_160 : zT 40 160 = some (.aload_n 0, 1, 0, []) := by decide +kernel
theorem zr_40_160 {l1 l2 l3 l4 l5 l6 l7 l8 : Option zV} {x : Option Nat} {st : List zV} {w : zW} {Q : Option zV → zW → Prop}  : zR 40 160 [some (.inr x), l1, l2, l3, l4, l5, l6, l7, l8] st w Q = zR 40 161 [some (.inr x), l1, l2, l3, l4, l5, l6, l7, l8] (.inr x :: st) w Q := zR_go (zst zT_40_160 rfl)
theorem zT_40_161 : zT 40 161 = some (.iload_n 1, 1, 0, []) := by decide +kernel
theorem zr_40_161 {l0 l2 l3 l4 l5 l6 l7 l8 : Option zV} {x : Int} {st : List zV} {w : zW} {Q : Option zV → zW → Prop}  : zR 40 161 [l0, some (.inl x), l2, l3, l4, l5, l6, l7, l8] st w Q = zR 40 162 [l0, some (.inl x), l2, l3, l4, l5, l6, l7, l8] (.inl x :: st) w Q := zR_go (zst zT_40_161 rfl)
theorem zT_40_162 : zT 40 162 = some (.invokevirtual 173, 3, 1, [(11, 38)]) := by decide +kernel
theorem zr_40_162 {l0 l1 l2 l3 l4 l5 l6 l7 l8 : Option zV} {a0 : zV} {h : Nat} {st : List zV} {w : zW} {Q : Option zV → zW → Prop} (hs : st.length ≤ 8) (hk : zk w h = 11) : zR 40 162 [l0, l1, l2, l3, l4, l5, l6, l7, l8] (a0 :: .inr (some h) :: st) w Q = zR 38 0 [some (.inr (some h)), some a0, none, none] [] w (fun r w2 => zR 40 165 [l0, l1, l2, l3, l4, l5, l6, l7, l8] (r.toList ++ st) w2 Q) := zR_call (zst zT_40_162 (zcall_v [a0] rfl hs hk rfl))
theorem zT_40_165 : zT 40 165 = some (.aload_n 0, 1, 0, []) := by decide +kernel
theorem zr_40_165 {l1 l2 l3 l4 l5 l6 l7 l8 : Option zV} {x : Option Nat} {st : List zV} {w : zW} {Q : Option zV → zW → Prop}  : zR 40 165 [some (.inr x), l1, l2, l3, l4, l5, l6, l7, l8] st w Q = zR 40 166 [some (.inr x), l1, l2, l3, l4, l5, l6, l7, l8] (.inr x :: st) w Q := zR_go (zst zT_40_165 rfl)
theorem zT_40_166 : zT 40 166 = some (.iconst 1, 1, 0, []) := by decide +kernel
theorem zr_40_166 {l0 l1 l2 l3 l4 l5 l6 l7 l8 : Option zV} {st : List zV} {w : zW} {Q : Option zV → zW → Prop}  : zR 40 166 [l0, l1, l2, l3, l4, l5, l6, l7, l8] st w Q = zR 40 167 [l0, l1, l2, l3, l4, l5, l6, l7, l8] (.inl 1 :: st) w Q := zR_go (zst zT_40_166 rfl)
theorem zT_40_167 : zT 40 167 = some (.putfield 163, 3, 0, [(11, 39)]) := by decide +kernel
theorem zr_40_167 {l0 l1 l2 l3 l4 l5 l6 l7 l8 : Option zV} {h : Nat} {x : Int} {st : List zV} {w : zW} {Q : Option zV → zW → Prop} (hk : zk w h = 11) : zR 40 167 [l0, l1, l2, l3, l4, l5, l6, l7, l8] (.inl x :: .inr (some h) :: st) w Q = zR 40 170 [l0, l1, l2, l3, l4, l5, l6, l7, l8] st (zsf w 111 h x) Q := zR_go (zst zT_40_167 (zput_i hk rfl))
theorem zT_40_170 : zT 40 170 = some (.aload_n 0, 1, 0, []) := by decide +kernel
theorem zr_40_170 {l1 l2 l3 l4 l5 l6 l7 l8 : Option zV} {x : Option Nat} {st : List zV} {w : zW} {Q : Option zV → zW → Prop}  : zR 40 170 [some (.inr x), l1, l2, l3, l4, l5, l6, l7, l8] st w Q = zR 40 171 [some (.inr x), l1, l2, l3, l4, l5, l6, l7, l8] (.inr x :: st) w Q := zR_go (zst zT_40_170 rfl)
theorem zT_40_171 : zT 40 171 = some (.getfield 113, 3, 0, [(11, 38)]) := by decide +kernel
theorem zr_40_171 {l0 l1 l2 l3 l4 l5 l6 l7 l8 : Option zV} {h : Nat} {st : List zV} {w : zW} {Q : Option zV → zW → Prop} (hk : zk w h = 11) : zR 40 171 [l0, l1, l2, l3, l4, l5, l6, l7, l8] (.inr (some h) :: st) w Q = zR 40 174 [l0, l1, l2, l3, l4, l5, l6, l7, l8] (.inr (zp w 110 h) :: st) w Q := zR_go (zst zT_40_171 (zget_r hk rfl))
theorem zT_40_174 : zT 40 174 = some (.iconst 0, 1, 0, []) := by decide +kernel
theorem zr_40_174 {l0 l1 l2 l3 l4 l5 l6 l7 l8 : Option zV} {st : List zV} {w : zW} {Q : Option zV → zW → Prop}  : zR 40 174 [l0, l1, l2, l3, l4, l5, l6, l7, l8] st w Q = zR 40 175 [l0, l1, l2, l3, l4, l5, l6, l7, l8] (.inl 0 :: st) w Q := zR_go (zst zT_40_174 rfl)
theorem zT_40_175 : zT 40 175 = some (.sipush 130, 3, 0, []) := by decide +kernel
theorem zr_40_175 {l0 l1 l2 l3 l4 l5 l6 l7 l8 : Option zV} {st : List zV} {w : zW} {Q : Option zV → zW → Prop}  : zR 40 175 [l0, l1, l2, l3, l4, l5, l6, l7, l8] st w Q = zR 40 178 [l0, l1, l2, l3, l4, l5, l6, l7, l8] (.inl 130 :: st) w Q := zR_go (zst zT_40_175 rfl)
theorem zT_40_178 : zT 40 178 = some (.iastore, 1, 0, []) := by decide +kernel
theorem zr_40_178 {l0 l1 l2 l3 l4 l5 l6 l7 l8 : Option zV} {j x : Int} {h : Nat} {st : List zV} {w : zW} {Q : Option zV → zW → Prop} (hk : zk w h = zNC ∧ 0 ≤ zN j ∧ zN j < zl w h) : zR 40 178 [l0, l1, l2, l3, l4, l5, l6, l7, l8] (.inl x :: .inl j :: .inr (some h) :: st) w Q = zR 40 179 [l0, l1, l2, l3, l4, l5, l6, l7, l8] st (zsa w h (zN j).toNat x) Q := zR_go (zst zT_40_178 (if_pos hk))
theorem zT_40_179 : zT 40 179 = some (.goto 234, 3, 0, []) := by decide +kernel
theorem zr_40_179 {l0 l1 l2 l3 l4 l5 l6 l7 l8 : Option zV} {st : List zV} {w : zW} {Q : Option zV → zW → Prop}  : zR 40 179 [l0, l1, l2, l3, l4, l5, l6, l7, l8] st w Q = zR 40 413 [l0, l1, l2, l3, l4, l5, l6, l7, l8] st w Q := zR_go (zst zT_40_179 rfl)
theorem zT_40_182 : zT 40 182 = some (.iload 4, 2, 0, []) := by decide +kernel
theorem zr_40_182 {l0 l1 l2 l3 l5 l6 l7 l8 : Option zV} {x : Int} {st : List zV} {w : zW} {Q : Option zV → zW → Prop}  : zR 40 182 [l0, l1, l2, l3, some (.inl x), l5, l6, l7, l8] st w Q = zR 40 184 [l0, l1, l2, l3, some (.inl x), l5, l6, l7, l8] (.inl x :: st) w Q := zR_go (zst zT_40_182 rfl)
theorem zT_40_184 : zT 40 184 = some (.iconst 3, 1, 0, []) := by decide +kernel
theorem zr_40_184 {l0 l1 l2 l3 l4 l5 l6 l7 l8 : Option zV} {st : List zV} {w : zW} {Q : Option zV → zW → Prop}  : zR 40 184 [l0, l1, l2, l3, l4, l5, l6, l7, l8] st w Q = zR 40 185 [l0, l1, l2, l3, l4, l5, l6, l7, l8] (.inl 3 :: st) w Q := zR_go (zst zT_40_184 rfl)
theorem zT_40_185 : zT 40 185 = some (.if_icmp .ne 29, 3, 0, []) := by decide +kernel
theorem zr_40_185 {l0 l1 l2 l3 l4 l5 l6 l7 l8 : Option zV} {x y : Int} {st : List zV} {w : zW} {Q : Option zV → zW → Prop}  : zR 40 185 [l0, l1, l2, l3, l4, l5, l6, l7, l8] (.inl y :: .inl x :: st) w Q = (if zN x ≠ zN y then zR 40 214 [l0, l1, l2, l3, l4, l5, l6, l7, l8] st w Q else zR 40 188 [l0, l1, l2, l3, l4, l5, l6, l7, l8] st w Q) := zR_if (zstB zT_40_185 rfl) (by simp [zcmp])
theorem zT_40_188 : zT 40 188 = some (.iload 5, 2, 0, []) := by decide +kernel
theorem zr_40_188 {l0 l1 l2 l3 l4 l6 l7 l8 : Option zV} {x : Int} {st : List zV} {w : zW} {Q : Option zV → zW → Prop}  : zR 40 188 [l0, l1, l2, l3, l4, some (.inl x), l6, l7, l8] st w Q = zR 40 190 [l0, l1, l2, l3, l4, some (.inl x), l6, l7, l8] (.inl x :: st) w Q := zR_go (zst zT_40_188 rfl)
theorem zT_40_190 : zT 40 190 = some (.iconst 2, 1, 0, []) := by decide +kernel
theorem zr_40_190 {l0 l1 l2 l3 l4 l5 l6 l7 l8 : Option zV} {st : List zV} {w : zW} {Q : Option zV → zW → Prop}  : zR 40 190 [l0, l1, l2, l3, l4, l5, l6, l7, l8] st w Q = zR 40 191 [l0, l1, l2, l3, l4, l5, l6, l7, l8] (.inl 2 :: st) w Q := zR_go (zst zT_40_190 rfl)
theorem zT_40_191 : zT 40 191 = some (.if_icmp .ne 23, 3, 0, []) := by decide +kernel
theorem zr_40_191 {l0 l1 l2 l3 l4 l5 l6 l7 l8 : Option zV} {x y : Int} {st : List zV} {w : zW} {Q : Option zV → zW → Prop}  : zR 40 191 [l0, l1, l2, l3, l4, l5, l6, l7, l8] (.inl y :: .inl x :: st) w Q = (if zN x ≠ zN y then zR 40 214 [l0, l1, l2, l3, l4, l5, l6, l7, l8] st w Q else zR 40 194 [l0, l1, l2, l3, l4, l5, l6, l7, l8] st w Q) := zR_if (zstB zT_40_191 rfl) (by simp [zcmp])
theorem zT_40_194 : zT 40 194 = some (.aload_n 0, 1, 0, []) := by decide +kernel
theorem zr_40_194 {l1 l2 l3 l4 l5 l6 l7 l8 : Option zV} {x : Option Nat} {st : List zV} {w : zW} {Q : Option zV → zW → Prop}  : zR 40 194 [some (.inr x), l1, l2, l3, l4, l5, l6, l7, l8] st w Q = zR 40 195 [some (.inr x), l1, l2, l3, l4, l5, l6, l7, l8] (.inr x :: st) w Q := zR_go (zst zT_40_194 rfl)
theorem zT_40_195 : zT 40 195 = some (.getfield 62, 3, 0, [(11, 18)]) := by decide +kernel
theorem zr_40_195 {l0 l1 l2 l3 l4 l5 l6 l7 l8 : Option zV} {h : Nat} {st : List zV} {w : zW} {Q : Option zV → zW → Prop} (hk : zk w h = 11) : zR 40 195 [l0, l1, l2, l3, l4, l5, l6, l7, l8] (.inr (some h) :: st) w Q = zR 40 198 [l0, l1, l2, l3, l4, l5, l6, l7, l8] (.inr (zp w 90 h) :: st) w Q := zR_go (zst zT_40_195 (zget_r hk rfl))
theorem zT_40_198 : zT 40 198 = some (.iload_n 1, 1, 0, []) := by decide +kernel
theorem zr_40_198 {l0 l2 l3 l4 l5 l6 l7 l8 : Option zV} {x : Int} {st : List zV} {w : zW} {Q : Option zV → zW → Prop}  : zR 40 198 [l0, some (.inl x), l2, l3, l4, l5, l6, l7, l8] st w Q = zR 40 199 [l0, some (.inl x), l2, l3, l4, l5, l6, l7, l8] (.inl x :: st) w Q := zR_go (zst zT_40_198 rfl)
theorem zT_40_199 : zT 40 199 = some (.iload 6, 2, 0, []) := by decide +kernel
theorem zr_40_199 {l0 l1 l2 l3 l4 l5 l7 l8 : Option zV} {x : Int} {st : List zV} {w : zW} {Q : Option zV → zW → Prop}  : zR 40 199 [l0, l1, l2, l3, l4, l5, some (.inl x), l7, l8] st w Q = zR 40 201 [l0, l1, l2, l3, l4, l5, some (.inl x), l7, l8] (.inl x :: st) w Q := zR_go (zst zT_40_199 rfl)
theorem zT_40_201 : zT 40 201 = some (.iastore, 1, 0, []) := by decide +kernel
theorem zr_40_201 {l0 l1 l2 l3 l4 l5 l6 l7 l8 : Option zV} {j x : Int} {h : Nat} {st : List zV} {w : zW} {Q : Option zV → zW → Prop} (hk : zk w h = zNC ∧ 0 ≤ zN j ∧ zN j < zl w h) : zR 40 201 [l0, l1, l2, l3, l4, l5, l6, l7, l8] (.inl x :: .inl j :: .inr (some h) :: st) w Q = zR 40 202 [l0, l1, l2, l3, l4, l5, l6, l7, l8] st (zsa w h (zN j).toNat x) Q := zR_go (zst zT_40_201 (if_pos hk))
theorem zT_40_202 : zT 40 202 = some (.aload_n 0, 1, 0, []) := by decide +kernel
theorem zr_40_202 {l1 l2 l3 l4 l5 l6 l7 l8 : Option zV} {x : Option Nat} {st : List zV} {w : zW} {Q : Option zV → zW → Prop}  : zR 40 202 [some (.inr x), l1, l2, l3, l4, l5, l6, l7, l8] st w Q = zR 40 203 [some (.inr x), l1, l2, l3, l4, l5, l6, l7, l8] (.inr x :: st) w Q := zR_go (zst zT_40_202 rfl)
theorem zT_40_203 : zT 40 203 = some (.getfield 113, 3, 0, [(11, 38)]) := by decide +kernel
theorem zr_40_203 {l0 l1 l2 l3 l4 l5 l6 l7 l8 : Option zV} {h : Nat} {st : List zV} {w : zW} {Q : Option zV → zW → Prop} (hk : zk w h = 11) : zR 40 203 [l0, l1, l2, l3, l4, l5, l6, l7, l8] (.inr (some h) :: st) w Q = zR 40 206 [l0, l1, l2, l3, l4, l5, l6, l7, l8] (.inr (zp w 110 h) :: st) w Q := zR_go (zst zT_40_203 (zget_r hk rfl))
theorem zT_40_206 : zT 40 206 = some (.iconst 0, 1, 0, []) := by decide +kernel
theorem zr_40_206 {l0 l1 l2 l3 l4 l5 l6 l7 l8 : Option zV} {st : List zV} {w : zW} {Q : Option zV → zW → Prop}  : zR 40 206 [l0, l1, l2, l3, l4, l5, l6, l7, l8] st w Q = zR 40 207 [l0, l1, l2, l3, l4, l5, l6, l7, l8] (.inl 0 :: st) w Q := zR_go (zst zT_40_206 rfl)
theorem zT_40_207 : zT 40 207 = some (.sipush 131, 3, 0, []) := by decide +kernel
theorem zr_40_207 {l0 l1 l2 l3 l4 l5 l6 l7 l8 : Option zV} {st : List zV} {w : zW} {Q : Option zV → zW → Prop}  : zR 40 207 [l0, l1, l2, l3, l4, l5, l6, l7, l8] st w Q = zR 40 210 [l0, l1, l2, l3, l4, l5, l6, l7, l8] (.inl 131 :: st) w Q := zR_go (zst zT_40_207 rfl)
theorem zT_40_210 : zT 40 210 = some (.iastore, 1, 0, []) := by decide +kernel
theorem zr_40_210 {l0 l1 l2 l3 l4 l5 l6 l7 l8 : Option zV} {j x : Int} {h : Nat} {st : List zV} {w : zW} {Q : Option zV → zW → Prop} (hk : zk w h = zNC ∧ 0 ≤ zN j ∧ zN j < zl w h) : zR 40 210 [l0, l1, l2, l3, l4, l5, l6, l7, l8] (.inl x :: .inl j :: .inr (some h) :: st) w Q = zR 40 211 [l0, l1, l2, l3, l4, l5, l6, l7, l8] st (zsa w h (zN j).toNat x) Q := zR_go (zst zT_40_210 (if_pos hk))
theorem zT_40_211 : zT 40 211 = some (.goto 202, 3, 0, []) := by decide +kernel
theorem zr_40_211 {l0 l1 l2 l3 l4 l5 l6 l7 l8 : Option zV} {st : List zV} {w : zW} {Q : Option zV → zW → Prop}  : zR 40 211 [l0, l1, l2, l3, l4, l5, l6, l7, l8] st w Q = zR 40 413 [l0, l1, l2, l3, l4, l5, l6, l7, l8] st w Q := zR_go (zst zT_40_211 rfl)
theorem zT_40_214 : zT 40 214 = some (.iload 4, 2, 0, []) := by decide +kernel
theorem zr_40_214 {l0 l1 l2 l3 l5 l6 l7 l8 : Option zV} {x : Int} {st : List zV} {w : zW} {Q : Option zV → zW → Prop}  : zR 40 214 [l0, l1, l2, l3, some (.inl x), l5, l6, l7, l8] st w Q = zR 40 216 [l0, l1, l2, l3, some (.inl x), l5, l6, l7, l8] (.inl x :: st) w Q := zR_go (zst zT_40_214 rfl)
theorem zT_40_216 : zT 40 216 = some (.iconst 4, 1, 0, []) := by decide +kernel
theorem zr_40_216 {l0 l1 l2 l3 l4 l5 l6 l7 l8 : Option zV} {st : List zV} {w : zW} {Q : Option zV → zW → Prop}  : zR 40 216 [l0, l1, l2, l3, l4, l5, l6, l7, l8] st w Q = zR 40 217 [l0, l1, l2, l3, l4, l5, l6, l7, l8] (.inl 4 :: st) w Q := zR_go (zst zT_40_216 rfl)
theorem zT_40_217 : zT 40 217 = some (.if_icmp .ne 106, 3, 0, []) := by decide +kernel
theorem zr_40_217 {l0 l1 l2 l3 l4 l5 l6 l7 l8 : Option zV} {x y : Int} {st : List zV} {w : zW} {Q : Option zV → zW → Prop}  : zR 40 217 [l0, l1, l2, l3, l4, l5, l6, l7, l8] (.inl y :: .inl x :: st) w Q = (if zN x ≠ zN y then zR 40 323 [l0, l1, l2, l3, l4, l5, l6, l7, l8] st w Q else zR 40 220 [l0, l1, l2, l3, l4, l5, l6, l7, l8] st w Q) := zR_if (zstB zT_40_217 rfl) (by simp [zcmp])
theorem zT_40_220 : zT 40 220 = some (.iload 5, 2, 0, []) := by decide +kernel
theorem zr_40_220 {l0 l1 l2 l3 l4 l6 l7 l8 : Option zV} {x : Int} {st : List zV} {w : zW} {Q : Option zV → zW → Prop}  : zR 40 220 [l0, l1, l2, l3, l4, some (.inl x), l6, l7, l8] st w Q = zR 40 222 [l0, l1, l2, l3, l4, some (.inl x), l6, l7, l8] (.inl x :: st) w Q := zR_go (zst zT_40_220 rfl)
theorem zT_40_222 : zT 40 222 = some (.iconst 3, 1, 0, []) := by decide +kernel
theorem zr_40_222 {l0 l1 l2 l3 l4 l5 l6 l7 l8 : Option zV} {st : List zV} {w : zW} {Q : Option zV → zW → Prop}  : zR 40 222 [l0, l1, l2, l3, l4, l5, l6, l7, l8] st w Q = zR 40 223 [l0, l1, l2, l3, l4, l5, l6, l7, l8] (.inl 3 :: st) w Q := zR_go (zst zT_40_222 rfl)
theorem zT_40_223 : zT 40 223 = some (.if_icmp .ne 100, 3, 0, []) := by decide +kernel
theorem zr_40_223 {l0 l1 l2 l3 l4 l5 l6 l7 l8 : Option zV} {x y : Int} {st : List zV} {w : zW} {Q : Option zV → zW → Prop}  : zR 40 223 [l0, l1, l2, l3, l4, l5, l6, l7, l8] (.inl y :: .inl x :: st) w Q = (if zN x ≠ zN y then zR 40 323 [l0, l1, l2, l3, l4, l5, l6, l7, l8] st w Q else zR 40 226 [l0, l1, l2, l3, l4, l5, l6, l7, l8] st w Q) := zR_if (zstB zT_40_223 rfl) (by simp [zcmp])
theorem zT_40_226 : zT 40 226 = some (.aload_n 0, 1, 0, []) := by decide +kernel
theorem zr_40_226 {l1 l2 l3 l4 l5 l6 l7 l8 : Option zV} {x : Option Nat} {st : List zV} {w : zW} {Q : Option zV → zW → Prop}  : zR 40 226 [some (.inr x), l1, l2, l3, l4, l5, l6, l7, l8] st w Q = zR 40 227 [some (.inr x), l1, l2, l3, l4, l5, l6, l7, l8] (.inr x :: st) w Q := zR_go (zst zT_40_226 rfl)
theorem zT_40_227 : zT 40 227 = some (.getfield 113, 3, 0, [(11, 38)]) := by decide +kernel
theorem zr_40_227 {l0 l1 l2 l3 l4 l5 l6 l7 l8 : Option zV} {h : Nat} {st : List zV} {w : zW} {Q : Option zV → zW → Prop} (hk : zk w h = 11) : zR 40 227 [l0, l1, l2, l3, l4, l5, l6, l7, l8] (.inr (some h) :: st) w Q = zR 40 230 [l0, l1, l2, l3, l4, l5, l6, l7, l8] (.inr (zp w 110 h) :: st) w Q := zR_go (zst zT_40_227 (zget_r hk rfl))
theorem zT_40_230 : zT 40 230 = some (.iconst 2, 1, 0, []) := by decide +kernel
theorem zr_40_230 {l0 l1 l2 l3 l4 l5 l6 l7 l8 : Option zV} {st : List zV} {w : zW} {Q : Option zV → zW → Prop}  : zR 40 230 [l0, l1, l2, l3, l4, l5, l6, l7, l8] st w Q = zR 40 231 [l0, l1, l2, l3, l4, l5, l6, l7, l8] (.inl 2 :: st) w Q := zR_go (zst zT_40_230 rfl)
theorem zT_40_231 : zT 40 231 = some (.iaload, 1, 0, []) := by decide +kernel
theorem zr_40_231 {l0 l1 l2 l3 l4 l5 l6 l7 l8 : Option zV} {j : Int} {h : Nat} {st : List zV} {w : zW} {Q : Option zV → zW → Prop} (hk : (zk w h = zNC ∨ zk w h = zNC + 2) ∧ 0 ≤ zN j ∧ zN j < zl w h) : zR 40 231 [l0, l1, l2, l3, l4, l5, l6, l7, l8] (.inl j :: .inr (some h) :: st) w Q = zR 40 232 [l0, l1, l2, l3, l4, l5, l6, l7, l8] (.inl (za w h (zN j).toNat) :: st) w Q := zR_go (zst zT_40_231 (if_pos hk))
theorem zT_40_232 : zT 40 232 = some (.iconst 1, 1, 0, []) := by decide +kernel
theorem zr_40_232 {l0 l1 l2 l3 l4 l5 l6 l7 l8 : Option zV} {st : List zV} {w : zW} {Q : Option zV → zW → Prop}  : zR 40 232 [l0, l1, l2, l3, l4, l5, l6, l7, l8] st w Q = zR 40 233 [l0, l1, l2, l3, l4, l5, l6, l7, l8] (.inl 1 :: st) w Q := zR_go (zst zT_40_232 rfl)
theorem zT_40_233 : zT 40 233 = some (.bipush 24, 2, 0, []) := by decide +kernel
theorem zr_40_233 {l0 l1 l2 l3 l4 l5 l6 l7 l8 : Option zV} {st : List zV} {w : zW} {Q : Option zV → zW → Prop}  : zR 40 233 [l0, l1, l2, l3, l4, l5, l6, l7, l8] st w Q = zR 40 235 [l0, l1, l2, l3, l4, l5, l6, l7, l8] (.inl 24 :: st) w Q := zR_go (zst zT_40_233 rfl)
theorem zT_40_235 : zT 40 235 = some (.invokestatic 150, 3, 3, [(24, 1)]) := by decide +kernel
theorem zr_40_235 {l0 l1 l2 l3 l4 l5 l6 l7 l8 : Option zV} {a0 a1 a2 : zV} {st : List zV} {w : zW} {Q : Option zV → zW → Prop} (hs : st.length ≤ 8) : zR 40 235 [l0, l1, l2, l3, l4, l5, l6, l7, l8] (a2 :: a1 :: a0 :: st) w Q = zR 24 0 [some a0, some a1, some a2] [] w (fun r w2 => zR 40 238 [l0, l1, l2, l3, l4, l5, l6, l7, l8] (r.toList ++ st) w2 Q) := zR_call (zst zT_40_235 ((zcall_s (z := 3) (pc := 235) (j := 24) (ls := [l0, l1, l2, l3, l4, l5, l6, l7, l8]) (w := w) [a2, a1, a0] rfl hs : zi_static 3 [(24, 1)] 235 [l0, l1, l2, l3, l4, l5, l6, l7, l8] ([a2, a1, a0] ++ st) w = _)))
theorem zT_40_238 : zT 40 238 = some (.ifCond .eq 85, 3, 0, []) := by decide +kernel
theorem zr_40_238 {l0 l1 l2 l3 l4 l5 l6 l7 l8 : Option zV} {x : Int} {st : List zV} {w : zW} {Q : Option zV → zW → Prop}  : zR 40 238 [l0, l1, l2, l3, l4, l5, l6, l7, l8] (.inl x :: st) w Q = (if zN x = 0 then zR 40 323 [l0, l1, l2, l3, l4, l5, l6, l7, l8] st w Q else zR 40 241 [l0, l1, l2, l3, l4, l5, l6, l7, l8] st w Q) := zR_if (zstB zT_40_238 rfl) (by simp [zcmp])
theorem zT_40_241 : zT 40 241 = some (.iload 6, 2, 0, []) := by decide +kernel
theorem zr_40_241 {l0 l1 l2 l3 l4 l5 l7 l8 : Option zV} {x : Int} {st : List zV} {w : zW} {Q : Option zV → zW → Prop}  : zR 40 241 [l0, l1, l2, l3, l4, l5, some (.inl x), l7, l8] st w Q = zR 40 243 [l0, l1, l2, l3, l4, l5, some (.inl x), l7, l8] (.inl x :: st) w Q := zR_go (zst zT_40_241 rfl)
theorem zT_40_243 : zT 40 243 = some (.aload_n 0, 1, 0, []) := by decide +kernel
theorem zr_40_243 {l1 l2 l3 l4 l5 l6 l7 l8 : Option zV} {x : Option Nat} {st : List zV} {w : zW} {Q : Option zV → zW → Prop}  : zR 40 243 [some (.inr x), l1, l2, l3, l4, l5, l6, l7, l8] st w Q = zR 40 244 [some (.inr x), l1, l2, l3, l4, l5, l6, l7, l8] (.inr x :: st) w Q := zR_go (zst zT_40_243 rfl)
theorem zT_40_244 : zT 40 244 = some (.getfield 113, 3, 0, [(11, 38)]) := by decide +kernel
theorem zr_40_244 {l0 l1 l2 l3 l4 l5 l6 l7 l8 : Option zV} {h : Nat} {st : List zV} {w : zW} {Q : Option zV → zW → Prop} (hk : zk w h = 11) : zR 40 244 [l0, l1, l2, l3, l4, l5, l6, l7, l8] (.inr (some h) :: st) w Q = zR 40 247 [l0, l1, l2, l3, l4, l5, l6, l7, l8] (.inr (zp w 110 h) :: st) w Q := zR_go (zst zT_40_244 (zget_r hk rfl))
theorem zT_40_247 : zT 40 247 = some (.iconst 2, 1, 0, []) := by decide +kernel
theorem zr_40_247 {l0 l1 l2 l3 l4 l5 l6 l7 l8 : Option zV} {st : List zV} {w : zW} {Q : Option zV → zW → Prop}  : zR 40 247 [l0, l1, l2, l3, l4, l5, l6, l7, l8] st w Q = zR 40 248 [l0, l1, l2, l3, l4, l5, l6, l7, l8] (.inl 2 :: st) w Q := zR_go (zst zT_40_247 rfl)
theorem zT_40_248 : zT 40 248 = some (.iaload, 1, 0, []) := by decide +kernel
theorem zr_40_248 {l0 l1 l2 l3 l4 l5 l6 l7 l8 : Option zV} {j : Int} {h : Nat} {st : List zV} {w : zW} {Q : Option zV → zW → Prop} (hk : (zk w h = zNC ∨ zk w h = zNC + 2) ∧ 0 ≤ zN j ∧ zN j < zl w h) : zR 40 248 [l0, l1, l2, l3, l4, l5, l6, l7, l8] (.inl j :: .inr (some h) :: st) w Q = zR 40 249 [l0, l1, l2, l3, l4, l5, l6, l7, l8] (.inl (za w h (zN j).toNat) :: st) w Q := zR_go (zst zT_40_248 (if_pos hk))
theorem zT_40_249 : zT 40 249 = some (.iadd, 1, 0, []) := by decide +kernel
theorem zr_40_249 {l0 l1 l2 l3 l4 l5 l6 l7 l8 : Option zV} {x y : Int} {st : List zV} {w : zW} {Q : Option zV → zW → Prop}  : zR 40 249 [l0, l1, l2, l3, l4, l5, l6, l7, l8] (.inl y :: .inl x :: st) w Q = zR 40 250 [l0, l1, l2, l3, l4, l5, l6, l7, l8] (.inl (x + y) :: st) w Q := zR_go (zst zT_40_249 rfl)
theorem zT_40_250 : zT 40 250 = some (.bipush 24, 2, 0, []) := by decide +kernel
theorem zr_40_250 {l0 l1 l2 l3 l4 l5 l6 l7 l8 : Option zV} {st : List zV} {w : zW} {Q : Option zV → zW → Prop}  : zR 40 250 [l0, l1, l2, l3, l4, l5, l6, l7, l8] st w Q = zR 40 252 [l0, l1, l2, l3, l4, l5, l6, l7, l8] (.inl 24 :: st) w Q := zR_go (zst zT_40_250 rfl)
theorem zT_40_252 : zT 40 252 = some (.if_icmp .gt 71, 3, 0, []) := by decide +kernel
theorem zr_40_252 {l0 l1 l2 l3 l4 l5 l6 l7 l8 : Option zV} {x y : Int} {st : List zV} {w : zW} {Q : Option zV → zW → Prop}  : zR 40 252 [l0, l1, l2, l3, l4, l5, l6, l7, l8] (.inl y :: .inl x :: st) w Q = (if zN y < zN x then zR 40 323 [l0, l1, l2, l3, l4, l5, l6, l7, l8] st w Q else zR 40 255 [l0, l1, l2, l3, l4, l5, l6, l7, l8] st w Q) := zR_if (zstB zT_40_252 rfl) (by simp [zcmp])
theorem zT_40_255 : zT 40 255 = some (.aload_n 0, 1, 0, []) := by decide +kernel
theorem zr_40_255 {l1 l2 l3 l4 l5 l6 l7 l8 : Option zV} {x : Option Nat} {st : List zV} {w : zW} {Q : Option zV → zW → Prop}  : zR 40 255 [some (.inr x), l1, l2, l3, l4, l5, l6, l7, l8] st w Q = zR 40 256 [some (.inr x), l1, l2, l3, l4, l5, l6, l7, l8] (.inr x :: st) w Q := zR_go (zst zT_40_255 rfl)
theorem zT_40_256 : zT 40 256 = some (.getfield 113, 3, 0, [(11, 38)]) := by decide +kernel
theorem zr_40_256 {l0 l1 l2 l3 l4 l5 l6 l7 l8 : Option zV} {h : Nat} {st : List zV} {w : zW} {Q : Option zV → zW → Prop} (hk : zk w h = 11) : zR 40 256 [l0, l1, l2, l3, l4, l5, l6, l7, l8] (.inr (some h) :: st) w Q = zR 40 259 [l0, l1, l2, l3, l4, l5, l6, l7, l8] (.inr (zp w 110 h) :: st) w Q := zR_go (zst zT_40_256 (zget_r hk rfl))
theorem zT_40_259 : zT 40 259 = some (.iconst 2, 1, 0, []) := by decide +kernel
theorem zr_40_259 {l0 l1 l2 l3 l4 l5 l6 l7 l8 : Option zV} {st : List zV} {w : zW} {Q : Option zV → zW → Prop}  : zR 40 259 [l0, l1, l2, l3, l4, l5, l6, l7, l8] st w Q = zR 40 260 [l0, l1, l2, l3, l4, l5, l6, l7, l8] (.inl 2 :: st) w Q := zR_go (zst zT_40_259 rfl)
theorem zT_40_260 : zT 40 260 = some (.iaload, 1, 0, []) := by decide +kernel
theorem zr_40_260 {l0 l1 l2 l3 l4 l5 l6 l7 l8 : Option zV} {j : Int} {h : Nat} {st : List zV} {w : zW} {Q : Option zV → zW → Prop} (hk : (zk w h = zNC ∨ zk w h = zNC + 2) ∧ 0 ≤ zN j ∧ zN j < zl w h) : zR 40 260 [l0, l1, l2, l3, l4, l5, l6, l7, l8] (.inl j :: .inr (some h) :: st) w Q = zR 40 261 [l0, l1, l2, l3, l4, l5, l6, l7, l8] (.inl (za w h (zN j).toNat) :: st) w Q := zR_go (zst zT_40_260 (if_pos hk))
theorem zT_40_261 : zT 40 261 = some (.istore 7, 2, 0, []) := by decide +kernel
theorem zr_40_261 {l0 l1 l2 l3 l4 l5 l6 l7 l8 : Option zV} {x : Int} {st : List zV} {w : zW} {Q : Option zV → zW → Prop}  : zR 40 261 [l0, l1, l2, l3, l4, l5, l6, l7, l8] (.inl x :: st) w Q = zR 40 263 [l0, l1, l2, l3, l4, l5, l6, some (.inl x), l8] st w Q := zR_go (zst zT_40_261 rfl)
theorem zT_40_263 : zT 40 263 = some (.aload_n 0, 1, 0, []) := by decide +kernel
theorem zr_40_263 {l1 l2 l3 l4 l5 l6 l7 l8 : Option zV} {x : Option Nat} {st : List zV} {w : zW} {Q : Option zV → zW → Prop}  : zR 40 263 [some (.inr x), l1, l2, l3, l4, l5, l6, l7, l8] st w Q = zR 40 264 [some (.inr x), l1, l2, l3, l4, l5, l6, l7, l8] (.inr x :: st) w Q := zR_go (zst zT_40_263 rfl)
theorem zT_40_264 : zT 40 264 = some (.iconst 1, 1, 0, []) := by decide +kernel
theorem zr_40_264 {l0 l1 l2 l3 l4 l5 l6 l7 l8 : Option zV} {st : List zV} {w : zW} {Q : Option zV → zW → Prop}  : zR 40 264 [l0, l1, l2, l3, l4, l5, l6, l7, l8] st w Q = zR 40 265 [l0, l1, l2, l3, l4, l5, l6, l7, l8] (.inl 1 :: st) w Q := zR_go (zst zT_40_264 rfl)
theorem zT_40_265 : zT 40 265 = some (.iload 7, 2, 0, []) := by decide +kernel
theorem zr_40_265 {l0 l1 l2 l3 l4 l5 l6 l8 : Option zV} {x : Int} {st : List zV} {w : zW} {Q : Option zV → zW → Prop}  : zR 40 265 [l0, l1, l2, l3, l4, l5, l6, some (.inl x), l8] st w Q = zR 40 267 [l0, l1, l2, l3, l4, l5, l6, some (.inl x), l8] (.inl x :: st) w Q := zR_go (zst zT_40_265 rfl)
theorem zT_40_267 : zT 40 267 = some (.iadd, 1, 0, []) := by decide +kernel
theorem zr_40_267 {l0 l1 l2 l3 l4 l5 l6 l7 l8 : Option zV} {x y : Int} {st : List zV} {w : zW} {Q : Option zV → zW → Prop}  : zR 40 267 [l0, l1, l2, l3, l4, l5, l6, l7, l8] (.inl y :: .inl x :: st) w Q = zR 40 268 [l0, l1, l2, l3, l4, l5, l6, l7, l8] (.inl (x + y) :: st) w Q := zR_go (zst zT_40_267 rfl)
theorem zT_40_268 : zT 40 268 = some (.putfield 163, 3, 0, [(11, 39)]) := by decide +kernel
theorem zr_40_268 {l0 l1 l2 l3 l4 l5 l6 l7 l8 : Option zV} {h : Nat} {x : Int} {st : List zV} {w : zW} {Q : Option zV → zW → Prop} (hk : zk w h = 11) : zR 40 268 [l0, l1, l2, l3, l4, l5, l6, l7, l8] (.inl x :: .inr (some h) :: st) w Q = zR 40 271 [l0, l1, l2, l3, l4, l5, l6, l7, l8] st (zsf w 111 h x) Q := zR_go (zst zT_40_268 (zput_i hk rfl))
theorem zT_40_271 : zT 40 271 = some (.aload_n 0, 1, 0, []) := by decide +kernel
theorem zr_40_271 {l1 l2 l3 l4 l5 l6 l7 l8 : Option zV} {x : Option Nat} {st : List zV} {w : zW} {Q : Option zV → zW → Prop}  : zR 40 271 [some (.inr x), l1, l2, l3, l4, l5, l6, l7, l8] st w Q = zR 40 272 [some (.inr x), l1, l2, l3, l4, l5, l6, l7, l8] (.inr x :: st) w Q := zR_go (zst zT_40_271 rfl)
theorem zT_40_272 : zT 40 272 = some (.getfield 113, 3, 0, [(11, 38)]) := by decide +kernel
theorem zr_40_272 {l0 l1 l2 l3 l4 l5 l6 l7 l8 : Option zV} {h : Nat} {st : List zV} {w : zW} {Q : Option zV → zW → Prop} (hk : zk w h = 11) : zR 40 272 [l0, l1, l2, l3, l4, l5, l6, l7, l8] (.inr (some h) :: st) w Q = zR 40 275 [l0, l1, l2, l3, l4, l5, l6, l7, l8] (.inr (zp w 110 h) :: st) w Q := zR_go (zst zT_40_272 (zget_r hk rfl))
theorem zT_40_275 : zT 40 275 = some (.iconst 0, 1, 0, []) := by decide +kernel
theorem zr_40_275 {l0 l1 l2 l3 l4 l5 l6 l7 l8 : Option zV} {st : List zV} {w : zW} {Q : Option zV → zW → Prop}  : zR 40 275 [l0, l1, l2, l3, l4, l5, l6, l7, l8] st w Q = zR 40 276 [l0, l1, l2, l3, l4, l5, l6, l7, l8] (.inl 0 :: st) w Q := zR_go (zst zT_40_275 rfl)
theorem zT_40_276 : zT 40 276 = some (.sipush 132, 3, 0, []) := by decide +kernel
theorem zr_40_276 {l0 l1 l2 l3 l4 l5 l6 l7 l8 : Option zV} {st : List zV} {w : zW} {Q : Option zV → zW → Prop}  : zR 40 276 [l0, l1, l2, l3, l4, l5, l6, l7, l8] st w Q = zR 40 279 [l0, l1, l2, l3, l4, l5, l6, l7, l8] (.inl 132 :: st) w Q := zR_go (zst zT_40_276 rfl)
theorem zT_40_279 : zT 40 279 = some (.iastore, 1, 0, []) := by decide +kernel
theorem zr_40_279 {l0 l1 l2 l3 l4 l5 l6 l7 l8 : Option zV} {j x : Int} {h : Nat} {st : List zV} {w : zW} {Q : Option zV → zW → Prop} (hk : zk w h = zNC ∧ 0 ≤ zN j ∧ zN j < zl w h) : zR 40 279 [l0, l1, l2, l3, l4, l5, l6, l7, l8] (.inl x :: .inl j :: .inr (some h) :: st) w Q = zR 40 280 [l0, l1, l2, l3, l4, l5, l6, l7, l8] st (zsa w h (zN j).toNat x) Q := zR_go (zst zT_40_279 (if_pos hk))
theorem zT_40_280 : zT 40 280 = some (.iconst 0, 1, 0, []) := by decide +kernel
theorem zr_40_280 {l0 l1 l2 l3 l4 l5 l6 l7 l8 : Option zV} {st : List zV} {w : zW} {Q : Option zV → zW → Prop}  : zR 40 280 [l0, l1, l2, l3, l4, l5, l6, l7, l8] st w Q = zR 40 281 [l0, l1, l2, l3, l4, l5, l6, l7, l8] (.inl 0 :: st) w Q := zR_go (zst zT_40_280 rfl)
theorem zT_40_281 : zT 40 281 = some (.istore 8, 2, 0, []) := by decide +kernel
theorem zr_40_281 {l0 l1 l2 l3 l4 l5 l6 l7 l8 : Option zV} {x : Int} {st : List zV} {w : zW} {Q : Option zV → zW → Prop}  : zR 40 281 [l0, l1, l2, l3, l4, l5, l6, l7, l8] (.inl x :: st) w Q = zR 40 283 [l0, l1, l2, l3, l4, l5, l6, l7, some (.inl x)] st w Q := zR_go (zst zT_40_281 rfl)
theorem zT_40_283 : zT 40 283 = some (.iload 8, 2, 0, []) := by decide +kernel
theorem zr_40_283 {l0 l1 l2 l3 l4 l5 l6 l7 : Option zV} {x : Int} {st : List zV} {w : zW} {Q : Option zV → zW → Prop}  : zR 40 283 [l0, l1, l2, l3, l4, l5, l6, l7, some (.inl x)] st w Q = zR 40 285 [l0, l1, l2, l3, l4, l5, l6, l7, some (.inl x)] (.inl x :: st) w Q := zR_go (zst zT_40_283 rfl)
theorem zT_40_285 : zT 40 285 = some (.iload 7, 2, 0, []) := by decide +kernel
theorem zr_40_285 {l0 l1 l2 l3 l4 l5 l6 l8 : Option zV} {x : Int} {st : List zV} {w : zW} {Q : Option zV → zW → Prop}  : zR 40 285 [l0, l1, l2, l3, l4, l5, l6, some (.inl x), l8] st w Q = zR 40 287 [l0, l1, l2, l3, l4, l5, l6, some (.inl x), l8] (.inl x :: st) w Q := zR_go (zst zT_40_285 rfl)
theorem zT_40_287 : zT 40 287 = some (.if_icmp .ge 33, 3, 0, []) := by decide +kernel
theorem zr_40_287 {l0 l1 l2 l3 l4 l5 l6 l7 l8 : Option zV} {x y : Int} {st : List zV} {w : zW} {Q : Option zV → zW → Prop}  : zR 40 287 [l0, l1, l2, l3, l4, l5, l6, l7, l8] (.inl y :: .inl x :: st) w Q = (if zN y ≤ zN x then zR 40 320 [l0, l1, l2, l3, l4, l5, l6, l7, l8] st w Q else zR 40 290 [l0, l1, l2, l3, l4, l5, l6, l7, l8] st w Q) := zR_if (zstB zT_40_287 rfl) (by simp [zcmp])
theorem zT_40_290 : zT 40 290 = some (.aload_n 0, 1, 0, []) := by decide +kernel
theorem zr_40_290 {l1 l2 l3 l4 l5 l6 l7 l8 : Option zV} {x : Option Nat} {st : List zV} {w : zW} {Q : Option zV → zW → Prop}  : zR 40 290 [some (.inr x), l1, l2, l3, l4, l5, l6, l7, l8] st w Q = zR 40 291 [some (.inr x), l1, l2, l3, l4, l5, l6, l7, l8] (.inr x :: st) w Q := zR_go (zst zT_40_290 rfl)
theorem zT_40_291 : zT 40 291 = some (.getfield 113, 3, 0, [(11, 38)]) := by decide +kernel
theorem zr_40_291 {l0 l1 l2 l3 l4 l5 l6 l7 l8 : Option zV} {h : Nat} {st : List zV} {w : zW} {Q : Option zV → zW → Prop} (hk : zk w h = 11) : zR 40 291 [l0, l1, l2, l3, l4, l5, l6, l7, l8] (.inr (some h) :: st) w Q = zR 40 294 [l0, l1, l2, l3, l4, l5, l6, l7, l8] (.inr (zp w 110 h) :: st) w Q := zR_go (zst zT_40_291 (zget_r hk rfl))
theorem zT_40_294 : zT 40 294 = some (.iconst 1, 1, 0, []) := by decide +kernel
theorem zr_40_294 {l0 l1 l2 l3 l4 l5 l6 l7 l8 : Option zV} {st : List zV} {w : zW} {Q : Option zV → zW → Prop}  : zR 40 294 [l0, l1, l2, l3, l4, l5, l6, l7, l8] st w Q = zR 40 295 [l0, l1, l2, l3, l4, l5, l6, l7, l8] (.inl 1 :: st) w Q := zR_go (zst zT_40_294 rfl)
theorem zT_40_295 : zT 40 295 = some (.iload 8, 2, 0, []) := by decide +kernel
theorem zr_40_295 {l0 l1 l2 l3 l4 l5 l6 l7 : Option zV} {x : Int} {st : List zV} {w : zW} {Q : Option zV → zW → Prop}  : zR 40 295 [l0, l1, l2, l3, l4, l5, l6, l7, some (.inl x)] st w Q = zR 40 297 [l0, l1, l2, l3, l4, l5, l6, l7, some (.inl x)] (.inl x :: st) w Q := zR_go (zst zT_40_295 rfl)
theorem zT_40_297 : zT 40 297 = some (.iadd, 1, 0, []) := by decide +kernel
theorem zr_40_297 {l0 l1 l2 l3 l4 l5 l6 l7 l8 : Option zV} {x y : Int} {st : List zV} {w : zW} {Q : Option zV → zW → Prop}  : zR 40 297 [l0, l1, l2, l3, l4, l5, l6, l7, l8] (.inl y :: .inl x :: st) w Q = zR 40 298 [l0, l1, l2, l3, l4, l5, l6, l7, l8] (.inl (x + y) :: st) w Q := zR_go (zst zT_40_297 rfl)
theorem zT_40_298 : zT 40 298 = some (.aload_n 0, 1, 0, []) := by decide +kernel
theorem zr_40_298 {l1 l2 l3 l4 l5 l6 l7 l8 : Option zV} {x : Option Nat} {st : List zV} {w : zW} {Q : Option zV → zW → Prop}  : zR 40 298 [some (.inr x), l1, l2, l3, l4, l5, l6, l7, l8] st w Q = zR 40 299 [some (.inr x), l1, l2, l3, l4, l5, l6, l7, l8] (.inr x :: st) w Q := zR_go (zst zT_40_298 rfl)
theorem zT_40_299 : zT 40 299 = some (.getfield 68, 3, 0, [(11, 20)]) := by decide +kernel
theorem zr_40_299 {l0 l1 l2 l3 l4 l5 l6 l7 l8 : Option zV} {h : Nat} {st : List zV} {w : zW} {Q : Option zV → zW → Prop} (hk : zk w h = 11) : zR 40 299 [l0, l1, l2, l3, l4, l5, l6, l7, l8] (.inr (some h) :: st) w Q = zR 40 302 [l0, l1, l2, l3, l4, l5, l6, l7, l8] (.inr (zp w 92 h) :: st) w Q := zR_go (zst zT_40_299 (zget_r hk rfl))
theorem zT_40_302 : zT 40 302 = some (.bipush 24, 2, 0, []) := by decide +kernel
theorem zr_40_302 {l0 l1 l2 l3 l4 l5 l6 l7 l8 : Option zV} {st : List zV} {w : zW} {Q : Option zV → zW → Prop}  : zR 40 302 [l0, l1, l2, l3, l4, l5, l6, l7, l8] st w Q = zR 40 304 [l0, l1, l2, l3, l4, l5, l6, l7, l8] (.inl 24 :: st) w Q := zR_go (zst zT_40_302 rfl)
theorem zT_40_304 : zT 40 304 = some (.iload_n 1, 1, 0, []) := by decide +kernel
theorem zr_40_304 {l0 l2 l3 l4 l5 l6 l7 l8 : Option zV} {x : Int} {st : List zV} {w : zW} {Q : Option zV → zW → Prop}  : zR 40 304 [l0, some (.inl x), l2, l3, l4, l5, l6, l7, l8] st w Q = zR 40 305 [l0, some (.inl x), l2, l3, l4, l5, l6, l7, l8] (.inl x :: st) w Q := zR_go (zst zT_40_304 rfl)
theorem zT_40_305 : zT 40 305 = some (.imul, 1, 0, []) := by decide +kernel
theorem zr_40_305 {l0 l1 l2 l3 l4 l5 l6 l7 l8 : Option zV} {x y : Int} {st : List zV} {w : zW} {Q : Option zV → zW → Prop}  : zR 40 305 [l0, l1, l2, l3, l4, l5, l6, l7, l8] (.inl y :: .inl x :: st) w Q = zR 40 306 [l0, l1, l2, l3, l4, l5, l6, l7, l8] (.inl (x * y) :: st) w Q := zR_go (zst zT_40_305 rfl)
theorem zT_40_306 : zT 40 306 = some (.iload 6, 2, 0, []) := by decide +kernel
theorem zr_40_306 {l0 l1 l2 l3 l4 l5 l7 l8 : Option zV} {x : Int} {st : List zV} {w : zW} {Q : Option zV → zW → Prop}  : zR 40 306 [l0, l1, l2, l3, l4, l5, some (.inl x), l7, l8] st w Q = zR 40 308 [l0, l1, l2, l3, l4, l5, some (.inl x), l7, l8] (.inl x :: st) w Q := zR_go (zst zT_40_306 rfl)
theorem zT_40_308 : zT 40 308 = some (.iadd, 1, 0, []) := by decide +kernel
theorem zr_40_308 {l0 l1 l2 l3 l4 l5 l6 l7 l8 : Option zV} {x y : Int} {st : List zV} {w : zW} {Q : Option zV → zW → Prop}  : zR 40 308 [l0, l1, l2, l3, l4, l5, l6, l7, l8] (.inl y :: .inl x :: st) w Q = zR 40 309 [l0, l1, l2, l3, l4, l5, l6, l7, l8] (.inl (x + y) :: st) w Q := zR_go (zst zT_40_308 rfl)
theorem zT_40_309 : zT 40 309 = some (.iload 8, 2, 0, []) := by decide +kernel
theorem zr_40_309 {l0 l1 l2 l3 l4 l5 l6 l7 : Option zV} {x : Int} {st : List zV} {w : zW} {Q : Option zV → zW → Prop}  : zR 40 309 [l0, l1, l2, l3, l4, l5, l6, l7, some (.inl x)] st w Q = zR 40 311 [l0, l1, l2, l3, l4, l5, l6, l7, some (.inl x)] (.inl x :: st) w Q := zR_go (zst zT_40_309 rfl)
theorem zT_40_311 : zT 40 311 = some (.iadd, 1, 0, []) := by decide +kernel
theorem zr_40_311 {l0 l1 l2 l3 l4 l5 l6 l7 l8 : Option zV} {x y : Int} {st : List zV} {w : zW} {Q : Option zV → zW → Prop}  : zR 40 311 [l0, l1, l2, l3, l4, l5, l6, l7, l8] (.inl y :: .inl x :: st) w Q = zR 40 312 [l0, l1, l2, l3, l4, l5, l6, l7, l8] (.inl (x + y) :: st) w Q := zR_go (zst zT_40_311 rfl)
theorem zT_40_312 : zT 40 312 = some (.iaload, 1, 0, []) := by decide +kernel
theorem zr_40_312 {l0 l1 l2 l3 l4 l5 l6 l7 l8 : Option zV} {j : Int} {h : Nat} {st : List zV} {w : zW} {Q : Option zV → zW → Prop} (hk : (zk w h = zNC ∨ zk w h = zNC + 2) ∧ 0 ≤ zN j ∧ zN j < zl w h) : zR 40 312 [l0, l1, l2, l3, l4, l5, l6, l7, l8] (.inl j :: .inr (some h) :: st) w Q = zR 40 313 [l0, l1, l2, l3, l4, l5, l6, l7, l8] (.inl (za w h (zN j).toNat) :: st) w Q := zR_go (zst zT_40_312 (if_pos hk))
theorem zT_40_313 : zT 40 313 = some (.iastore, 1, 0, []) := by decide +kernel
theorem zr_40_313 {l0 l1 l2 l3 l4 l5 l6 l7 l8 : Option zV} {j x : Int} {h : Nat} {st : List zV} {w : zW} {Q : Option zV → zW → Prop} (hk : zk w h = zNC ∧ 0 ≤ zN j ∧ zN j < zl w h) : zR 40 313 [l0, l1, l2, l3, l4, l5, l6, l7, l8] (.inl x :: .inl j :: .inr (some h) :: st) w Q = zR 40 314 [l0, l1, l2, l3, l4, l5, l6, l7, l8] st (zsa w h (zN j).toNat x) Q := zR_go (zst zT_40_313 (if_pos hk))
theorem zT_40_314 : zT 40 314 = some (.iinc 8 1, 3, 0, []) := by decide +kernel
theorem zr_40_314 {l0 l1 l2 l3 l4 l5 l6 l7 : Option zV} {x : Int} {st : List zV} {w : zW} {Q : Option zV → zW → Prop}  : zR 40 314 [l0, l1, l2, l3, l4, l5, l6, l7, some (.inl x)] st w Q = zR 40 317 [l0, l1, l2, l3, l4, l5, l6, l7, some (.inl (x + 1))] st w Q := zR_go (zst zT_40_314 rfl)
theorem zT_40_317 : zT 40 317 = some (.goto (-34), 3, 0, []) := by decide +kernel
theorem zr_40_317 {l0 l1 l2 l3 l4 l5 l6 l7 l8 : Option zV} {st : List zV} {w : zW} {Q : Option zV → zW → Prop}  : zR 40 317 [l0, l1, l2, l3, l4, l5, l6, l7, l8] st w Q = zR 40 283 [l0, l1, l2, l3, l4, l5, l6, l7, l8] st w Q := zR_go (zst zT_40_317 rfl)
theorem zT_40_320 : zT 40 320 = some (.goto 93, 3, 0, []) := by decide +kernel
theorem zr_40_320 {l0 l1 l2 l3 l4 l5 l6 l7 l8 : Option zV} {st : List zV} {w : zW} {Q : Option zV → zW → Prop}  : zR 40 320 [l0, l1, l2, l3, l4, l5, l6, l7, l8] st w Q = zR 40 413 [l0, l1, l2, l3, l4, l5, l6, l7, l8] st w Q := zR_go (zst zT_40_320 rfl)
theorem zT_40_323 : zT 40 323 = some (.iload 4, 2, 0, []) := by decide +kernel
theorem zr_40_323 {l0 l1 l2 l3 l5 l6 l7 l8 : Option zV} {x : Int} {st : List zV} {w : zW} {Q : Option zV → zW → Prop}  : zR 40 323 [l0, l1, l2, l3, some (.inl x), l5, l6, l7, l8] st w Q = zR 40 325 [l0, l1, l2, l3, some (.inl x), l5, l6, l7, l8] (.inl x :: st) w Q := zR_go (zst zT_40_323 rfl)
theorem zT_40_325 : zT 40 325 = some (.iconst 5, 1, 0, []) := by decide +kernel
theorem zr_40_325 {l0 l1 l2 l3 l4 l5 l6 l7 l8 : Option zV} {st : List zV} {w : zW} {Q : Option zV → zW → Prop}  : zR 40 325 [l0, l1, l2, l3, l4, l5, l6, l7, l8] st w Q = zR 40 326 [l0, l1, l2, l3, l4, l5, l6, l7, l8] (.inl 5 :: st) w Q := zR_go (zst zT_40_325 rfl)
theorem zT_40_326 : zT 40 326 = some (.if_icmp .ne 78, 3, 0, []) := by decide +kernel
theorem zr_40_326 {l0 l1 l2 l3 l4 l5 l6 l7 l8 : Option zV} {x y : Int} {st : List zV} {w : zW} {Q : Option zV → zW → Prop}  : zR 40 326 [l0, l1, l2, l3, l4, l5, l6, l7, l8] (.inl y :: .inl x :: st) w Q = (if zN x ≠ zN y then zR 40 404 [l0, l1, l2, l3, l4, l5, l6, l7, l8] st w Q else zR 40 329 [l0, l1, l2, l3, l4, l5, l6, l7, l8] st w Q) := zR_if (zstB zT_40_326 rfl) (by simp [zcmp])
theorem zT_40_329 : zT 40 329 = some (.iload 5, 2, 0, []) := by decide +kernel
theorem zr_40_329 {l0 l1 l2 l3 l4 l6 l7 l8 : Option zV} {x : Int} {st : List zV} {w : zW} {Q : Option zV → zW → Prop}  : zR 40 329 [l0, l1, l2, l3, l4, some (.inl x), l6, l7, l8] st w Q = zR 40 331 [l0, l1, l2, l3, l4, some (.inl x), l6, l7, l8] (.inl x :: st) w Q := zR_go (zst zT_40_329 rfl)
theorem zT_40_331 : zT 40 331 = some (.iconst 3, 1, 0, []) := by decide +kernel
theorem zr_40_331 {l0 l1 l2 l3 l4 l5 l6 l7 l8 : Option zV} {st : List zV} {w : zW} {Q : Option zV → zW → Prop}  : zR 40 331 [l0, l1, l2, l3, l4, l5, l6, l7, l8] st w Q = zR 40 332 [l0, l1, l2, l3, l4, l5, l6, l7, l8] (.inl 3 :: st) w Q := zR_go (zst zT_40_331 rfl)
theorem zT_40_332 : zT 40 332 = some (.bipush 26, 2, 0, []) := by decide +kernel
theorem zr_40_332 {l0 l1 l2 l3 l4 l5 l6 l7 l8 : Option zV} {st : List zV} {w : zW} {Q : Option zV → zW → Prop}  : zR 40 332 [l0, l1, l2, l3, l4, l5, l6, l7, l8] st w Q = zR 40 334 [l0, l1, l2, l3, l4, l5, l6, l7, l8] (.inl 26 :: st) w Q := zR_go (zst zT_40_332 rfl)
theorem zT_40_334 : zT 40 334 = some (.invokestatic 150, 3, 3, [(24, 1)]) := by decide +kernel
theorem zr_40_334 {l0 l1 l2 l3 l4 l5 l6 l7 l8 : Option zV} {a0 a1 a2 : zV} {st : List zV} {w : zW} {Q : Option zV → zW → Prop} (hs : st.length ≤ 8) : zR 40 334 [l0, l1, l2, l3, l4, l5, l6, l7, l8] (a2 :: a1 :: a0 :: st) w Q = zR 24 0 [some a0, some a1, some a2] [] w (fun r w2 => zR 40 337 [l0, l1, l2, l3, l4, l5, l6, l7, l8] (r.toList ++ st) w2 Q) := zR_call (zst zT_40_334 ((zcall_s (z := 3) (pc := 334) (j := 24) (ls := [l0, l1, l2, l3, l4, l5, l6, l7, l8]) (w := w) [a2, a1, a0] rfl hs : zi_static 3 [(24, 1)] 334 [l0, l1, l2, l3, l4, l5, l6, l7, l8] ([a2, a1, a0] ++ st) w = _)))
theorem zT_40_337 : zT 40 337 = some (.ifCond .eq 67, 3, 0, []) := by decide +kernel
theorem zr_40_337 {l0 l1 l2 l3 l4 l5 l6 l7 l8 : Option zV} {x : Int} {st : List zV} {w : zW} {Q : Option zV → zW → Prop}  : zR 40 337 [l0, l1, l2, l3, l4, l5, l6, l7, l8] (.inl x :: st) w Q = (if zN x = 0 then zR 40 404 [l0, l1, l2, l3, l4, l5, l6, l7, l8] st w Q else zR 40 340 [l0, l1, l2, l3, l4, l5, l6, l7, l8] st w Q) := zR_if (zstB zT_40_337 rfl) (by simp [zcmp])
theorem zT_40_340 : zT 40 340 = some (.iload 6, 2, 0, []) := by decide +kernel
theorem zr_40_340 {l0 l1 l2 l3 l4 l5 l7 l8 : Option zV} {x : Int} {st : List zV} {w : zW} {Q : Option zV → zW → Prop}  : zR 40 340 [l0, l1, l2, l3, l4, l5, some (.inl x), l7, l8] st w Q = zR 40 342 [l0, l1, l2, l3, l4, l5, some (.inl x), l7, l8] (.inl x :: st) w Q := zR_go (zst zT_40_340 rfl)
theorem zT_40_342 : zT 40 342 = some (.iload 5, 2, 0, []) := by decide +kernel
theorem zr_40_342 {l0 l1 l2 l3 l4 l6 l7 l8 : Option zV} {x : Int} {st : List zV} {w : zW} {Q : Option zV → zW → Prop}  : zR 40 342 [l0, l1, l2, l3, l4, some (.inl x), l6, l7, l8] st w Q = zR 40 344 [l0, l1, l2, l3, l4, some (.inl x), l6, l7, l8] (.inl x :: st) w Q := zR_go (zst zT_40_342 rfl)
theorem zT_40_344 : zT 40 344 = some (.iadd, 1, 0, []) := by decide +kernel
theorem zr_40_344 {l0 l1 l2 l3 l4 l5 l6 l7 l8 : Option zV} {x y : Int} {st : List zV} {w : zW} {Q : Option zV → zW → Prop}  : zR 40 344 [l0, l1, l2, l3, l4, l5, l6, l7, l8] (.inl y :: .inl x :: st) w Q = zR 40 345 [l0, l1, l2, l3, l4, l5, l6, l7, l8] (.inl (x + y) :: st) w Q := zR_go (zst zT_40_344 rfl)
theorem zT_40_345 : zT 40 345 = some (.iconst 2, 1, 0, []) := by decide +kernel
theorem zr_40_345 {l0 l1 l2 l3 l4 l5 l6 l7 l8 : Option zV} {st : List zV} {w : zW} {Q : Option zV → zW → Prop}  : zR 40 345 [l0, l1, l2, l3, l4, l5, l6, l7, l8] st w Q = zR 40 346 [l0, l1, l2, l3, l4, l5, l6, l7, l8] (.inl 2 :: st) w Q := zR_go (zst zT_40_345 rfl)
theorem zT_40_346 : zT 40 346 = some (.isub, 1, 0, []) := by decide +kernel
theorem zr_40_346 {l0 l1 l2 l3 l4 l5 l6 l7 l8 : Option zV} {x y : Int} {st : List zV} {w : zW} {Q : Option zV → zW → Prop}  : zR 40 346 [l0, l1, l2, l3, l4, l5, l6, l7, l8] (.inl y :: .inl x :: st) w Q = zR 40 347 [l0, l1, l2, l3, l4, l5, l6, l7, l8] (.inl (x - y) :: st) w Q := zR_go (zst zT_40_346 rfl)
theorem zT_40_347 : zT 40 347 = some (.bipush 24, 2, 0, []) := by decide +kernel
theorem zr_40_347 {l0 l1 l2 l3 l4 l5 l6 l7 l8 : Option zV} {st : List zV} {w : zW} {Q : Option zV → zW → Prop}  : zR 40 347 [l0, l1, l2, l3, l4, l5, l6, l7, l8] st w Q = zR 40 349 [l0, l1, l2, l3, l4, l5, l6, l7, l8] (.inl 24 :: st) w Q := zR_go (zst zT_40_347 rfl)
theorem zT_40_349 : zT 40 349 = some (.if_icmp .gt 55, 3, 0, []) := by decide +kernel
theorem zr_40_349 {l0 l1 l2 l3 l4 l5 l6 l7 l8 : Option zV} {x y : Int} {st : List zV} {w : zW} {Q : Option zV → zW → Prop}  : zR 40 349 [l0, l1, l2, l3, l4, l5, l6, l7, l8] (.inl y :: .inl x :: st) w Q = (if zN y < zN x then zR 40 404 [l0, l1, l2, l3, l4, l5, l6, l7, l8] st w Q else zR 40 352 [l0, l1, l2, l3, l4, l5, l6, l7, l8] st w Q) := zR_if (zstB zT_40_349 rfl) (by simp [zcmp])
theorem zT_40_352 : zT 40 352 = some (.iconst 2, 1, 0, []) := by decide +kernel
theorem zr_40_352 {l0 l1 l2 l3 l4 l5 l6 l7 l8 : Option zV} {st : List zV} {w : zW} {Q : Option zV → zW → Prop}  : zR 40 352 [l0, l1, l2, l3, l4, l5, l6, l7, l8] st w Q = zR 40 353 [l0, l1, l2, l3, l4, l5, l6, l7, l8] (.inl 2 :: st) w Q := zR_go (zst zT_40_352 rfl)
theorem zT_40_353 : zT 40 353 = some (.istore 7, 2, 0, []) := by decide +kernel
theorem zr_40_353 {l0 l1 l2 l3 l4 l5 l6 l7 l8 : Option zV} {x : Int} {st : List zV} {w : zW} {Q : Option zV → zW → Prop}  : zR 40 353 [l0, l1, l2, l3, l4, l5, l6, l7, l8] (.inl x :: st) w Q = zR 40 355 [l0, l1, l2, l3, l4, l5, l6, some (.inl x), l8] st w Q := zR_go (zst zT_40_353 rfl)
theorem zT_40_355 : zT 40 355 = some (.iload 7, 2, 0, []) := by decide +kernel
theorem zr_40_355 {l0 l1 l2 l3 l4 l5 l6 l8 : Option zV} {x : Int} {st : List zV} {w : zW} {Q : Option zV → zW → Prop}  : zR 40 355 [l0, l1, l2, l3, l4, l5, l6, some (.inl x), l8] st w Q = zR 40 357 [l0, l1, l2, l3, l4, l5, l6, some (.inl x), l8] (.inl x :: st) w Q := zR_go (zst zT_40_355 rfl)
theorem zT_40_357 : zT 40 357 = some (.iload 5, 2, 0, []) := by decide +kernel
theorem zr_40_357 {l0 l1 l2 l3 l4 l6 l7 l8 : Option zV} {x : Int} {st : List zV} {w : zW} {Q : Option zV → zW → Prop}  : zR 40 357 [l0, l1, l2, l3, l4, some (.inl x), l6, l7, l8] st w Q = zR 40 359 [l0, l1, l2, l3, l4, some (.inl x), l6, l7, l8] (.inl x :: st) w Q := zR_go (zst zT_40_357 rfl)
theorem zT_40_359 : zT 40 359 = some (.if_icmp .ge 33, 3, 0, []) := by decide +kernel
theorem zr_40_359 {l0 l1 l2 l3 l4 l5 l6 l7 l8 : Option zV} {x y : Int} {st : List zV} {w : zW} {Q : Option zV → zW → Prop}  : zR 40 359 [l0, l1, l2, l3, l4, l5, l6, l7, l8] (.inl y :: .inl x :: st) w Q = (if zN y ≤ zN x then zR 40 392 [l0, l1, l2, l3, l4, l5, l6, l7, l8] st w Q else zR 40 362 [l0, l1, l2, l3, l4, l5, l6, l7, l8] st w Q) := zR_if (zstB zT_40_359 rfl) (by simp [zcmp])
theorem zT_40_362 : zT 40 362 = some (.aload_n 0, 1, 0, []) := by decide +kernel
theorem zr_40_362 {l1 l2 l3 l4 l5 l6 l7 l8 : Option zV} {x : Option Nat} {st : List zV} {w : zW} {Q : Option zV → zW → Prop}  : zR 40 362 [some (.inr x), l1, l2, l3, l4, l5, l6, l7, l8] st w Q = zR 40 363 [some (.inr x), l1, l2, l3, l4, l5, l6, l7, l8] (.inr x :: st) w Q := zR_go (zst zT_40_362 rfl)
theorem zT_40_363 : zT 40 363 = some (.getfield 68, 3, 0, [(11, 20)]) := by decide +kernel
theorem zr_40_363 {l0 l1 l2 l3 l4 l5 l6 l7 l8 : Option zV} {h : Nat} {st : List zV} {w : zW} {Q : Option zV → zW → Prop} (hk : zk w h = 11) : zR 40 363 [l0, l1, l2, l3, l4, l5, l6, l7, l8] (.inr (some h) :: st) w Q = zR 40 366 [l0, l1, l2, l3, l4, l5, l6, l7, l8] (.inr (zp w 92 h) :: st) w Q := zR_go (zst zT_40_363 (zget_r hk rfl))
theorem zT_40_366 : zT 40 366 = some (.bipush 24, 2, 0, []) := by decide +kernel
theorem zr_40_366 {l0 l1 l2 l3 l4 l5 l6 l7 l8 : Option zV} {st : List zV} {w : zW} {Q : Option zV → zW → Prop}  : zR 40 366 [l0, l1, l2, l3, l4, l5, l6, l7, l8] st w Q = zR 40 368 [l0, l1, l2, l3, l4, l5, l6, l7, l8] (.inl 24 :: st) w Q := zR_go (zst zT_40_366 rfl)
theorem zT_40_368 : zT 40 368 = some (.iload_n 1, 1, 0, []) := by decide +kernel
theorem zr_40_368 {l0 l2 l3 l4 l5 l6 l7 l8 : Option zV} {x : Int} {st : List zV} {w : zW} {Q : Option zV → zW → Prop}  : zR 40 368 [l0, some (.inl x), l2, l3, l4, l5, l6, l7, l8] st w Q = zR 40 369 [l0, some (.inl x), l2, l3, l4, l5, l6, l7, l8] (.inl x :: st) w Q := zR_go (zst zT_40_368 rfl)
theorem zT_40_369 : zT 40 369 = some (.imul, 1, 0, []) := by decide +kernel
theorem zr_40_369 {l0 l1 l2 l3 l4 l5 l6 l7 l8 : Option zV} {x y : Int} {st : List zV} {w : zW} {Q : Option zV → zW → Prop}  : zR 40 369 [l0, l1, l2, l3, l4, l5, l6, l7, l8] (.inl y :: .inl x :: st) w Q = zR 40 370 [l0, l1, l2, l3, l4, l5, l6, l7, l8] (.inl (x * y) :: st) w Q := zR_go (zst zT_40_369 rfl)
theorem zT_40_370 : zT 40 370 = some (.iload 6, 2, 0, []) := by decide +kernel
theorem zr_40_370 {l0 l1 l2 l3 l4 l5 l7 l8 : Option zV} {x : Int} {st : List zV} {w : zW} {Q : Option zV → zW → Prop}  : zR 40 370 [l0, l1, l2, l3, l4, l5, some (.inl x), l7, l8] st w Q = zR 40 372 [l0, l1, l2, l3, l4, l5, some (.inl x), l7, l8] (.inl x :: st) w Q := zR_go (zst zT_40_370 rfl)
theorem zT_40_372 : zT 40 372 = some (.iadd, 1, 0, []) := by decide +kernel
theorem zr_40_372 {l0 l1 l2 l3 l4 l5 l6 l7 l8 : Option zV} {x y : Int} {st : List zV} {w : zW} {Q : Option zV → zW → Prop}  : zR 40 372 [l0, l1, l2, l3, l4, l5, l6, l7, l8] (.inl y :: .inl x :: st) w Q = zR 40 373 [l0, l1, l2, l3, l4, l5, l6, l7, l8] (.inl (x + y) :: st) w Q := zR_go (zst zT_40_372 rfl)
theorem zT_40_373 : zT 40 373 = some (.iload 7, 2, 0, []) := by decide +kernel
theorem zr_40_373 {l0 l1 l2 l3 l4 l5 l6 l8 : Option zV} {x : Int} {st : List zV} {w : zW} {Q : Option zV → zW → Prop}  : zR 40 373 [l0, l1, l2, l3, l4, l5, l6, some (.inl x), l8] st w Q = zR 40 375 [l0, l1, l2, l3, l4, l5, l6, some (.inl x), l8] (.inl x :: st) w Q := zR_go (zst zT_40_373 rfl)
theorem zT_40_375 : zT 40 375 = some (.iadd, 1, 0, []) := by decide +kernel
theorem zr_40_375 {l0 l1 l2 l3 l4 l5 l6 l7 l8 : Option zV} {x y : Int} {st : List zV} {w : zW} {Q : Option zV → zW → Prop}  : zR 40 375 [l0, l1, l2, l3, l4, l5, l6, l7, l8] (.inl y :: .inl x :: st) w Q = zR 40 376 [l0, l1, l2, l3, l4, l5, l6, l7, l8] (.inl (x + y) :: st) w Q := zR_go (zst zT_40_375 rfl)
theorem zT_40_376 : zT 40 376 = some (.iconst 2, 1, 0, []) := by decide +kernel
theorem zr_40_376 {l0 l1 l2 l3 l4 l5 l6 l7 l8 : Option zV} {st : List zV} {w : zW} {Q : Option zV → zW → Prop}  : zR 40 376 [l0, l1, l2, l3, l4, l5, l6, l7, l8] st w Q = zR 40 377 [l0, l1, l2, l3, l4, l5, l6, l7, l8] (.inl 2 :: st) w Q := zR_go (zst zT_40_376 rfl)
theorem zT_40_377 : zT 40 377 = some (.isub, 1, 0, []) := by decide +kernel
theorem zr_40_377 {l0 l1 l2 l3 l4 l5 l6 l7 l8 : Option zV} {x y : Int} {st : List zV} {w : zW} {Q : Option zV → zW → Prop}  : zR 40 377 [l0, l1, l2, l3, l4, l5, l6, l7, l8] (.inl y :: .inl x :: st) w Q = zR 40 378 [l0, l1, l2, l3, l4, l5, l6, l7, l8] (.inl (x - y) :: st) w Q := zR_go (zst zT_40_377 rfl)
theorem zT_40_378 : zT 40 378 = some (.aload_n 0, 1, 0, []) := by decide +kernel
theorem zr_40_378 {l1 l2 l3 l4 l5 l6 l7 l8 : Option zV} {x : Option Nat} {st : List zV} {w : zW} {Q : Option zV → zW → Prop}  : zR 40 378 [some (.inr x), l1, l2, l3, l4, l5, l6, l7, l8] st w Q = zR 40 379 [some (.inr x), l1, l2, l3, l4, l5, l6, l7, l8] (.inr x :: st) w Q := zR_go (zst zT_40_378 rfl)
theorem zT_40_379 : zT 40 379 = some (.getfield 113, 3, 0, [(11, 38)]) := by decide +kernel
theorem zr_40_379 {l0 l1 l2 l3 l4 l5 l6 l7 l8 : Option zV} {h : Nat} {st : List zV} {w : zW} {Q : Option zV → zW → Prop} (hk : zk w h = 11) : zR 40 379 [l0, l1, l2, l3, l4, l5, l6, l7, l8] (.inr (some h) :: st) w Q = zR 40 382 [l0, l1, l2, l3, l4, l5, l6, l7, l8] (.inr (zp w 110 h) :: st) w Q := zR_go (zst zT_40_379 (zget_r hk rfl))
theorem zT_40_382 : zT 40 382 = some (.iload 7, 2, 0, []) := by decide +kernel
theorem zr_40_382 {l0 l1 l2 l3 l4 l5 l6 l8 : Option zV} {x : Int} {st : List zV} {w : zW} {Q : Option zV → zW → Prop}  : zR 40 382 [l0, l1, l2, l3, l4, l5, l6, some (.inl x), l8] st w Q = zR 40 384 [l0, l1, l2, l3, l4, l5, l6, some (.inl x), l8] (.inl x :: st) w Q := zR_go (zst zT_40_382 rfl)
theorem zT_40_384 : zT 40 384 = some (.iaload, 1, 0, []) := by decide +kernel
theorem zr_40_384 {l0 l1 l2 l3 l4 l5 l6 l7 l8 : Option zV} {j : Int} {h : Nat} {st : List zV} {w : zW} {Q : Option zV → zW → Prop} (hk : (zk w h = zNC ∨ zk w h = zNC + 2) ∧ 0 ≤ zN j ∧ zN j < zl w h) : zR 40 384 [l0, l1, l2, l3, l4, l5, l6, l7, l8] (.inl j :: .inr (some h) :: st) w Q = zR 40 385 [l0, l1, l2, l3, l4, l5, l6, l7, l8] (.inl (za w h (zN j).toNat) :: st) w Q := zR_go (zst zT_40_384 (if_pos hk))
theorem zT_40_385 : zT 40 385 = some (.iastore, 1, 0, []) := by decide +kernel
theorem zr_40_385 {l0 l1 l2 l3 l4 l5 l6 l7 l8 : Option zV} {j x : Int} {h : Nat} {st : List zV} {w : zW} {Q : Option zV → zW → Prop} (hk : zk w h = zNC ∧ 0 ≤ zN j ∧ zN j < zl w h) : zR 40 385 [l0, l1, l2, l3, l4, l5, l6, l7, l8] (.inl x :: .inl j :: .inr (some h) :: st) w Q = zR 40 386 [l0, l1, l2, l3, l4, l5, l6, l7, l8] st (zsa w h (zN j).toNat x) Q := zR_go (zst zT_40_385 (if_pos hk))
theorem zT_40_386 : zT 40 386 = some (.iinc 7 1, 3, 0, []) := by decide +kernel
theorem zr_40_386 {l0 l1 l2 l3 l4 l5 l6 l8 : Option zV} {x : Int} {st : List zV} {w : zW} {Q : Option zV → zW → Prop}  : zR 40 386 [l0, l1, l2, l3, l4, l5, l6, some (.inl x), l8] st w Q = zR 40 389 [l0, l1, l2, l3, l4, l5, l6, some (.inl (x + 1)), l8] st w Q := zR_go (zst zT_40_386 rfl)
theorem zT_40_389 : zT 40 389 = some (.goto (-34), 3, 0, []) := by decide +kernel
theorem zr_40_389 {l0 l1 l2 l3 l4 l5 l6 l7 l8 : Option zV} {st : List zV} {w : zW} {Q : Option zV → zW → Prop}  : zR 40 389 [l0, l1, l2, l3, l4, l5, l6, l7, l8] st w Q = zR 40 355 [l0, l1, l2, l3, l4, l5, l6, l7, l8] st w Q := zR_go (zst zT_40_389 rfl)
theorem zT_40_392 : zT 40 392 = some (.aload_n 0, 1, 0, []) := by decide +kernel
theorem zr_40_392 {l1 l2 l3 l4 l5 l6 l7 l8 : Option zV} {x : Option Nat} {st : List zV} {w : zW} {Q : Option zV → zW → Prop}  : zR 40 392 [some (.inr x), l1, l2, l3, l4, l5, l6, l7, l8] st w Q = zR 40 393 [some (.inr x), l1, l2, l3, l4, l5, l6, l7, l8] (.inr x :: st) w Q := zR_go (zst zT_40_392 rfl)
theorem zT_40_393 : zT 40 393 = some (.getfield 113, 3, 0, [(11, 38)]) := by decide +kernel
theorem zr_40_393 {l0 l1 l2 l3 l4 l5 l6 l7 l8 : Option zV} {h : Nat} {st : List zV} {w : zW} {Q : Option zV → zW → Prop} (hk : zk w h = 11) : zR 40 393 [l0, l1, l2, l3, l4, l5, l6, l7, l8] (.inr (some h) :: st) w Q = zR 40 396 [l0, l1, l2, l3, l4, l5, l6, l7, l8] (.inr (zp w 110 h) :: st) w Q := zR_go (zst zT_40_393 (zget_r hk rfl))
theorem zT_40_396 : zT 40 396 = some (.iconst 0, 1, 0, []) := by decide +kernel
theorem zr_40_396 {l0 l1 l2 l3 l4 l5 l6 l7 l8 : Option zV} {st : List zV} {w : zW} {Q : Option zV → zW → Prop}  : zR 40 396 [l0, l1, l2, l3, l4, l5, l6, l7, l8] st w Q = zR 40 397 [l0, l1, l2, l3, l4, l5, l6, l7, l8] (.inl 0 :: st) w Q := zR_go (zst zT_40_396 rfl)
theorem zT_40_397 : zT 40 397 = some (.sipush 133, 3, 0, []) := by decide +kernel
theorem zr_40_397 {l0 l1 l2 l3 l4 l5 l6 l7 l8 : Option zV} {st : List zV} {w : zW} {Q : Option zV → zW → Prop}  : zR 40 397 [l0, l1, l2, l3, l4, l5, l6, l7, l8] st w Q = zR 40 400 [l0, l1, l2, l3, l4, l5, l6, l7, l8] (.inl 133 :: st) w Q := zR_go (zst zT_40_397 rfl)
theorem zT_40_400 : zT 40 400 = some (.iastore, 1, 0, []) := by decide +kernel
theorem zr_40_400 {l0 l1 l2 l3 l4 l5 l6 l7 l8 : Option zV} {j x : Int} {h : Nat} {st : List zV} {w : zW} {Q : Option zV → zW → Prop} (hk : zk w h = zNC ∧ 0 ≤ zN j ∧ zN j < zl w h) : zR 40 400 [l0, l1, l2, l3, l4, l5, l6, l7, l8] (.inl x :: .inl j :: .inr (some h) :: st) w Q = zR 40 401 [l0, l1, l2, l3, l4, l5, l6, l7, l8] st (zsa w h (zN j).toNat x) Q := zR_go (zst zT_40_400 (if_pos hk))
theorem zT_40_401 : zT 40 401 = some (.goto 12, 3, 0, []) := by decide +kernel
theorem zr_40_401 {l0 l1 l2 l3 l4 l5 l6 l7 l8 : Option zV} {st : List zV} {w : zW} {Q : Option zV → zW → Prop}  : zR 40 401 [l0, l1, l2, l3, l4, l5, l6, l7, l8] st w Q = zR 40 413 [l0, l1, l2, l3, l4, l5, l6, l7, l8] st w Q := zR_go (zst zT_40_401 rfl)
theorem zT_40_404 : zT 40 404 = some (.aload_n 0, 1, 0, []) := by decide +kernel
theorem zr_40_404 {l1 l2 l3 l4 l5 l6 l7 l8 : Option zV} {x : Option Nat} {st : List zV} {w : zW} {Q : Option zV → zW → Prop}  : zR 40 404 [some (.inr x), l1, l2, l3, l4, l5, l6, l7, l8] st w Q = zR 40 405 [some (.inr x), l1, l2, l3, l4, l5, l6, l7, l8] (.inr x :: st) w Q := zR_go (zst zT_40_404 rfl)
theorem zT_40_405 : zT 40 405 = some (.getfield 113, 3, 0, [(11, 38)]) := by decide +kernel
theorem zr_40_405 {l0 l1 l2 l3 l4 l5 l6 l7 l8 : Option zV} {h : Nat} {st : List zV} {w : zW} {Q : Option zV → zW → Prop} (hk : zk w h = 11) : zR 40 405 [l0, l1, l2, l3, l4, l5, l6, l7, l8] (.inr (some h) :: st) w Q = zR 40 408 [l0, l1, l2, l3, l4, l5, l6, l7, l8] (.inr (zp w 110 h) :: st) w Q := zR_go (zst zT_40_405 (zget_r hk rfl))
theorem zT_40_408 : zT 40 408 = some (.iconst 0, 1, 0, []) := by decide +kernel
theorem zr_40_408 {l0 l1 l2 l3 l4 l5 l6 l7 l8 : Option zV} {st : List zV} {w : zW} {Q : Option zV → zW → Prop}  : zR 40 408 [l0, l1, l2, l3, l4, l5, l6, l7, l8] st w Q = zR 40 409 [l0, l1, l2, l3, l4, l5, l6, l7, l8] (.inl 0 :: st) w Q := zR_go (zst zT_40_408 rfl)
theorem zT_40_409 : zT 40 409 = some (.sipush 255, 3, 0, []) := by decide +kernel
theorem zr_40_409 {l0 l1 l2 l3 l4 l5 l6 l7 l8 : Option zV} {st : List zV} {w : zW} {Q : Option zV → zW → Prop}  : zR 40 409 [l0, l1, l2, l3, l4, l5, l6, l7, l8] st w Q = zR 40 412 [l0, l1, l2, l3, l4, l5, l6, l7, l8] (.inl 255 :: st) w Q := zR_go (zst zT_40_409 rfl)
theorem zT_40_412 : zT 40 412 = some (.iastore, 1, 0, []) := by decide +kernel
theorem zr_40_412 {l0 l1 l2 l3 l4 l5 l6 l7 l8 : Option zV} {j x : Int} {h : Nat} {st : List zV} {w : zW} {Q : Option zV → zW → Prop} (hk : zk w h = zNC ∧ 0 ≤ zN j ∧ zN j < zl w h) : zR 40 412 [l0, l1, l2, l3, l4, l5, l6, l7, l8] (.inl x :: .inl j :: .inr (some h) :: st) w Q = zR 40 413 [l0, l1, l2, l3, l4, l5, l6, l7, l8] st (zsa w h (zN j).toNat x) Q := zR_go (zst zT_40_412 (if_pos hk))
theorem zT_40_413 : zT 40 413 = some (.aload_n 0, 1, 0, []) := by decide +kernel
theorem zr_40_413 {l1 l2 l3 l4 l5 l6 l7 l8 : Option zV} {x : Option Nat} {st : List zV} {w : zW} {Q : Option zV → zW → Prop}  : zR 40 413 [some (.inr x), l1, l2, l3, l4, l5, l6, l7, l8] st w Q = zR 40 414 [some (.inr x), l1, l2, l3, l4, l5, l6, l7, l8] (.inr x :: st) w Q := zR_go (zst zT_40_413 rfl)
theorem zT_40_414 : zT 40 414 = some (.iload_n 1, 1, 0, []) := by decide +kernel
theorem zr_40_414 {l0 l2 l3 l4 l5 l6 l7 l8 : Option zV} {x : Int} {st : List zV} {w : zW} {Q : Option zV → zW → Prop}  : zR 40 414 [l0, some (.inl x), l2, l3, l4, l5, l6, l7, l8] st w Q = zR 40 415 [l0, some (.inl x), l2, l3, l4, l5, l6, l7, l8] (.inl x :: st) w Q := zR_go (zst zT_40_414 rfl)
theorem zT_40_415 : zT 40 415 = some (.iload_n 2, 1, 0, []) := by decide +kernel
theorem zr_40_415 {l0 l1 l3 l4 l5 l6 l7 l8 : Option zV} {x : Int} {st : List zV} {w : zW} {Q : Option zV → zW → Prop}  : zR 40 415 [l0, l1, some (.inl x), l3, l4, l5, l6, l7, l8] st w Q = zR 40 416 [l0, l1, some (.inl x), l3, l4, l5, l6, l7, l8] (.inl x :: st) w Q := zR_go (zst zT_40_415 rfl)
theorem zT_40_416 : zT 40 416 = some (.iload_n 3, 1, 0, []) := by decide +kernel
theorem zr_40_416 {l0 l1 l2 l4 l5 l6 l7 l8 : Option zV} {x : Int} {st : List zV} {w : zW} {Q : Option zV → zW → Prop}  : zR 40 416 [l0, l1, l2, some (.inl x), l4, l5, l6, l7, l8] st w Q = zR 40 417 [l0, l1, l2, some (.inl x), l4, l5, l6, l7, l8] (.inl x :: st) w Q := zR_go (zst zT_40_416 rfl)
theorem zT_40_417 : zT 40 417 = some (.invokevirtual 166, 3, 3, [(11, 37)]) := by decide +kernel
theorem zr_40_417 {l0 l1 l2 l3 l4 l5 l6 l7 l8 : Option zV} {a0 a1 a2 : zV} {h : Nat} {st : List zV} {w : zW} {Q : Option zV → zW → Prop} (hs : st.length ≤ 8) (hk : zk w h = 11) : zR 40 417 [l0, l1, l2, l3, l4, l5, l6, l7, l8] (a2 :: a1 :: a0 :: .inr (some h) :: st) w Q = zR 37 0 [some (.inr (some h)), some a0, some a1, some a2, none, none, none, none, none] [] w (fun r w2 => zR 40 420 [l0, l1, l2, l3, l4, l5, l6, l7, l8] (r.toList ++ st) w2 Q) := zR_call (zst zT_40_417 (zcall_v [a2, a1, a0] rfl hs hk rfl))
theorem zT_40_420 : zT 40 420 = some (.return_, 1, 0, []) := by decide +kernel
theorem zr_40_420 {l0 l1 l2 l3 l4 l5 l6 l7 l8 : Option zV} {w : zW} {Q : Option zV → zW → Prop} : zR 40 420 [l0, l1, l2, l3, l4, l5, l6, l7, l8] [] w Q = Q none w := zR_ret (zst zT_40_420 rfl)
theorem zT_41_0 : zT 41 0 = some (.iload_n 3, 1, 0, []) := by decide +kernel
theorem zr_41_0 {l0 l1 l2 l4 : Option zV} {x : Int} {st : List zV} {w : zW} {Q : Option zV → zW → Prop}  : zR 41 0 [l0, l1, l2, some (.inl x), l4] st w Q = zR 41 1 [l0, l1, l2, some (.inl x), l4] (.inl x :: st) w Q := zR_go (zst zT_41_0 rfl)
theorem zT_41_1 : zT 41 1 = some (.bipush 8, 2, 0, []) := by decide +kernel
theorem zr_41_1 {l0 l1 l2 l3 l4 : Option zV} {st : List zV} {w : zW} {Q : Option zV → zW → Prop}  : zR 41 1 [l0, l1, l2, l3, l4] st w Q = zR 41 3 [l0, l1, l2, l3, l4] (.inl 8 :: st) w Q := zR_go (zst zT_41_1 rfl)
theorem zT_41_3 : zT 41 3 = some (.if_icmp .lt 7, 3, 0, []) := by decide +kernel
theorem zr_41_3 {l0 l1 l2 l3 l4 : Option zV} {x y : Int} {st : List zV} {w : zW} {Q : Option zV → zW → Prop}  : zR 41 3 [l0, l1, l2, l3, l4] (.inl y :: .inl x :: st) w Q = (if zN x < zN y then zR 41 10 [l0, l1, l2, l3, l4] st w Q else zR 41 6 [l0, l1, l2, l3, l4] st w Q) := zR_if (zstB zT_41_3 rfl) (by simp [zcmp])
theorem zT_41_6 : zT 41 6 = some (.iconst 1, 1, 0, []) := by decide +kernel
theorem zr_41_6 {l0 l1 l2 l3 l4 : Option zV} {st : List zV} {w : zW} {Q : Option zV → zW → Prop}  : zR 41 6 [l0, l1, l2, l3, l4] st w Q = zR 41 7 [l0, l1, l2, l3, l4] (.inl 1 :: st) w Q := zR_go (zst zT_41_6 rfl)
theorem zT_41_7 : zT 41 7 = some (.goto 4, 3, 0, []) := by decide +kernel
theorem zr_41_7 {l0 l1 l2 l3 l4 : Option zV} {st : List zV} {w : zW} {Q : Option zV → zW → Prop}  : zR 41 7 [l0, l1, l2, l3, l4] st w Q = zR 41 11 [l0, l1, l2, l3, l4] st w Q := zR_go (zst zT_41_7 rfl)
theorem zT_41_10 : zT 41 10 = some (.iconst 0, 1, 0, []) := by decide +kernel
theorem zr_41_10 {l0 l1 l2 l3 l4 : Option zV} {st : List zV} {w : zW} {Q : Option zV → zW → Prop}  : zR 41 10 [l0, l1, l2, l3, l4] st w Q = zR 41 11 [l0, l1, l2, l3, l4] (.inl 0 :: st) w Q := zR_go (zst zT_41_10 rfl)
theorem zT_41_11 : zT 41 11 = some (.istore 4, 2, 0, []) := by decide +kernel
theorem zr_41_11 {l0 l1 l2 l3 l4 : Option zV} {x : Int} {st : List zV} {w : zW} {Q : Option zV → zW → Prop}  : zR 41 11 [l0, l1, l2, l3, l4] (.inl x :: st) w Q = zR 41 13 [l0, l1, l2, l3, some (.inl x)] st w Q := zR_go (zst zT_41_11 rfl)
theorem zT_41_13 : zT 41 13 = some (.iload_n 1, 1, 0, []) := by decide +kernel
theorem zr_41_13 {l0 l2 l3 l4 : Option zV} {x : Int} {st : List zV} {w : zW} {Q : Option zV → zW → Prop}  : zR 41 13 [l0, some (.inl x), l2, l3, l4] st w Q = zR 41 14 [l0, some (.inl x), l2, l3, l4] (.inl x :: st) w Q := zR_go (zst zT_41_13 rfl)
theorem zT_41_14 : zT 41 14 = some (.ifCond .le 21, 3, 0, []) := by decide +kernel
theorem zr_41_14 {l0 l1 l2 l3 l4 : Option zV} {x : Int} {st : List zV} {w : zW} {Q : Option zV → zW → Prop}  : zR 41 14 [l0, l1, l2, l3, l4] (.inl x :: st) w Q = (if zN x ≤ 0 then zR 41 35 [l0, l1, l2, l3, l4] st w Q else zR 41 17 [l0, l1, l2, l3, l4] st w Q) := zR_if (zstB zT_41_14 rfl) (by simp [zcmp])
theorem zT_41_17 : zT 41 17 = some (.iload 4, 2, 0, []) := by decide +kernel
theorem zr_41_17 {l0 l1 l2 l3 : Option zV} {x : Int} {st : List zV} {w : zW} {Q : Option zV → zW → Prop}  : zR 41 17 [l0, l1, l2, l3, some (.inl x)] st w Q = zR 41 19 [l0, l1, l2, l3, some (.inl x)] (.inl x :: st) w Q := zR_go (zst zT_41_17 rfl)
theorem zT_41_19 : zT 41 19 = some (.ifCond .eq 54, 3, 0, []) := by decide +kernel
theorem zr_41_19 {l0 l1 l2 l3 l4 : Option zV} {x : Int} {st : List zV} {w : zW} {Q : Option zV → zW → Prop}  : zR 41 19 [l0, l1, l2, l3, l4] (.inl x :: st) w Q = (if zN x = 0 then zR 41 73 [l0, l1, l2, l3, l4] st w Q else zR 41 22 [l0, l1, l2, l3, l4] st w Q) := zR_if (zstB zT_41_19 rfl) (by simp [zcmp])
theorem zT_41_22 : zT 41 22 = some (.aload_n 0, 1, 0, []) := by decide +kernel
theorem zr_41_22 {l1 l2 l3 l4 : Option zV} {x : Option Nat} {st : List zV} {w : zW} {Q : Option zV → zW → Prop}  : zR 41 22 [some (.inr x), l1, l2, l3, l4] st w Q = zR 41 23 [some (.inr x), l1, l2, l3, l4] (.inr x :: st) w Q := zR_go (zst zT_41_22 rfl)
theorem zT_41_23 : zT 41 23 = some (.iload_n 1, 1, 0, []) := by decide +kernel
theorem zr_41_23 {l0 l2 l3 l4 : Option zV} {x : Int} {st : List zV} {w : zW} {Q : Option zV → zW → Prop}  : zR 41 23 [l0, some (.inl x), l2, l3, l4] st w Q = zR 41 24 [l0, some (.inl x), l2, l3, l4] (.inl x :: st) w Q := zR_go (zst zT_41_23 rfl)
theorem zT_41_24 : zT 41 24 = some (.iload_n 2, 1, 0, []) := by decide +kernel
theorem zr_41_24 {l0 l1 l3 l4 : Option zV} {x : Int} {st : List zV} {w : zW} {Q : Option zV → zW → Prop}  : zR 41 24 [l0, l1, some (.inl x), l3, l4] st w Q = zR 41 25 [l0, l1, some (.inl x), l3, l4] (.inl x :: st) w Q := zR_go (zst zT_41_24 rfl)
theorem zT_41_25 : zT 41 25 = some (.iload_n 3, 1, 0, []) := by decide +kernel
theorem zr_41_25 {l0 l1 l2 l4 : Option zV} {x : Int} {st : List zV} {w : zW} {Q : Option zV → zW → Prop}  : zR 41 25 [l0, l1, l2, some (.inl x), l4] st w Q = zR 41 26 [l0, l1, l2, some (.inl x), l4] (.inl x :: st) w Q := zR_go (zst zT_41_25 rfl)
theorem zT_41_26 : zT 41 26 = some (.bipush 8, 2, 0, []) := by decide +kernel
theorem zr_41_26 {l0 l1 l2 l3 l4 : Option zV} {st : List zV} {w : zW} {Q : Option zV → zW → Prop}  : zR 41 26 [l0, l1, l2, l3, l4] st w Q = zR 41 28 [l0, l1, l2, l3, l4] (.inl 8 :: st) w Q := zR_go (zst zT_41_26 rfl)
theorem zT_41_28 : zT 41 28 = some (.isub, 1, 0, []) := by decide +kernel
theorem zr_41_28 {l0 l1 l2 l3 l4 : Option zV} {x y : Int} {st : List zV} {w : zW} {Q : Option zV → zW → Prop}  : zR 41 28 [l0, l1, l2, l3, l4] (.inl y :: .inl x :: st) w Q = zR 41 29 [l0, l1, l2, l3, l4] (.inl (x - y) :: st) w Q := zR_go (zst zT_41_28 rfl)
theorem zT_41_29 : zT 41 29 = some (.invokevirtual 181, 3, 3, [(11, 40)]) := by decide +kernel
theorem zr_41_29 {l0 l1 l2 l3 l4 : Option zV} {a0 a1 a2 : zV} {h : Nat} {st : List zV} {w : zW} {Q : Option zV → zW → Prop} (hs : st.length ≤ 8) (hk : zk w h = 11) : zR 41 29 [l0, l1, l2, l3, l4] (a2 :: a1 :: a0 :: .inr (some h) :: st) w Q = zR 40 0 [some (.inr (some h)), some a0, some a1, some a2, none, none, none, none, none] [] w (fun r w2 => zR 41 32 [l0, l1, l2, l3, l4] (r.toList ++ st) w2 Q) := zR_call (zst zT_41_29 (zcall_v [a2, a1, a0] rfl hs hk rfl))
theorem zT_41_32 : zT 41 32 = some (.goto 41, 3, 0, []) := by decide +kernel
theorem zr_41_32 {l0 l1 l2 l3 l4 : Option zV} {st : List zV} {w : zW} {Q : Option zV → zW → Prop}  : zR 41 32 [l0, l1, l2, l3, l4] st w Q = zR 41 73 [l0, l1, l2, l3, l4] st w Q := zR_go (zst zT_41_32 rfl)
theorem zT_41_35 : zT 41 35 = some (.iload 4, 2, 0, []) := by decide +kernel
theorem zr_41_35 {l0 l1 l2 l3 : Option zV} {x : Int} {st : List zV} {w : zW} {Q : Option zV → zW → Prop}  : zR 41 35 [l0, l1, l2, l3, some (.inl x)] st w Q = zR 41 37 [l0, l1, l2, l3, some (.inl x)] (.inl x :: st) w Q := zR_go (zst zT_41_35 rfl)
theorem zT_41_37 : zT 41 37 = some (.ifCond .eq 30, 3, 0, []) := by decide +kernel
theorem zr_41_37 {l0 l1 l2 l3 l4 : Option zV} {x : Int} {st : List zV} {w : zW} {Q : Option zV → zW → Prop}  : zR 41 37 [l0, l1, l2, l3, l4] (.inl x :: st) w Q = (if zN x = 0 then zR 41 67 [l0, l1, l2, l3, l4] st w Q else zR 41 40 [l0, l1, l2, l3, l4] st w Q) := zR_if (zstB zT_41_37 rfl) (by simp [zcmp])
theorem zT_41_40 : zT 41 40 = some (.aload_n 0, 1, 0, []) := by decide +kernel
theorem zr_41_40 {l1 l2 l3 l4 : Option zV} {x : Option Nat} {st : List zV} {w : zW} {Q : Option zV → zW → Prop}  : zR 41 40 [some (.inr x), l1, l2, l3, l4] st w Q = zR 41 41 [some (.inr x), l1, l2, l3, l4] (.inr x :: st) w Q := zR_go (zst zT_41_40 rfl)
theorem zT_41_41 : zT 41 41 = some (.getfield 163, 3, 0, [(11, 39)]) := by decide +kernel
theorem zr_41_41 {l0 l1 l2 l3 l4 : Option zV} {h : Nat} {st : List zV} {w : zW} {Q : Option zV → zW → Prop} (hk : zk w h = 11) : zR 41 41 [l0, l1, l2, l3, l4] (.inr (some h) :: st) w Q = zR 41 44 [l0, l1, l2, l3, l4] (.inl (zf w 111 h) :: st) w Q := zR_go (zst zT_41_41 (zget_i hk (Or.inl rfl)))
theorem zT_41_44 : zT 41 44 = some (.iconst 4, 1, 0, []) := by decide +kernel
theorem zr_41_44 {l0 l1 l2 l3 l4 : Option zV} {st : List zV} {w : zW} {Q : Option zV → zW → Prop}  : zR 41 44 [l0, l1, l2, l3, l4] st w Q = zR 41 45 [l0, l1, l2, l3, l4] (.inl 4 :: st) w Q := zR_go (zst zT_41_44 rfl)
theorem zT_41_45 : zT 41 45 = some (.if_icmp .ne 28, 3, 0, []) := by decide +kernel
theorem zr_41_45 {l0 l1 l2 l3 l4 : Option zV} {x y : Int} {st : List zV} {w : zW} {Q : Option zV → zW → Prop}  : zR 41 45 [l0, l1, l2, l3, l4] (.inl y :: .inl x :: st) w Q = (if zN x ≠ zN y then zR 41 73 [l0, l1, l2, l3, l4] st w Q else zR 41 48 [l0, l1, l2, l3, l4] st w Q) := zR_if (zstB zT_41_45 rfl) (by simp [zcmp])
theorem zT_41_48 : zT 41 48 = some (.aload_n 0, 1, 0, []) := by decide +kernel
theorem zr_41_48 {l1 l2 l3 l4 : Option zV} {x : Option Nat} {st : List zV} {w : zW} {Q : Option zV → zW → Prop}  : zR 41 48 [some (.inr x), l1, l2, l3, l4] st w Q = zR 41 49 [some (.inr x), l1, l2, l3, l4] (.inr x :: st) w Q := zR_go (zst zT_41_48 rfl)
theorem zT_41_49 : zT 41 49 = some (.getfield 113, 3, 0, [(11, 38)]) := by decide +kernel
theorem zr_41_49 {l0 l1 l2 l3 l4 : Option zV} {h : Nat} {st : List zV} {w : zW} {Q : Option zV → zW → Prop} (hk : zk w h = 11) : zR 41 49 [l0, l1, l2, l3, l4] (.inr (some h) :: st) w Q = zR 41 52 [l0, l1, l2, l3, l4] (.inr (zp w 110 h) :: st) w Q := zR_go (zst zT_41_49 (zget_r hk rfl))
theorem zT_41_52 : zT 41 52 = some (.iconst 0, 1, 0, []) := by decide +kernel
theorem zr_41_52 {l0 l1 l2 l3 l4 : Option zV} {st : List zV} {w : zW} {Q : Option zV → zW → Prop}  : zR 41 52 [l0, l1, l2, l3, l4] st w Q = zR 41 53 [l0, l1, l2, l3, l4] (.inl 0 :: st) w Q := zR_go (zst zT_41_52 rfl)
theorem zT_41_53 : zT 41 53 = some (.iaload, 1, 0, []) := by decide +kernel
theorem zr_41_53 {l0 l1 l2 l3 l4 : Option zV} {j : Int} {h : Nat} {st : List zV} {w : zW} {Q : Option zV → zW → Prop} (hk : (zk w h = zNC ∨ zk w h = zNC + 2) ∧ 0 ≤ zN j ∧ zN j < zl w h) : zR 41 53 [l0, l1, l2, l3, l4] (.inl j :: .inr (some h) :: st) w Q = zR 41 54 [l0, l1, l2, l3, l4] (.inl (za w h (zN j).toNat) :: st) w Q := zR_go (zst zT_41_53 (if_pos hk))
theorem zT_41_54 : zT 41 54 = some (.bipush 64, 2, 0, []) := by decide +kernel
theorem zr_41_54 {l0 l1 l2 l3 l4 : Option zV} {st : List zV} {w : zW} {Q : Option zV → zW → Prop}  : zR 41 54 [l0, l1, l2, l3, l4] st w Q = zR 41 56 [l0, l1, l2, l3, l4] (.inl 64 :: st) w Q := zR_go (zst zT_41_54 rfl)
theorem zT_41_56 : zT 41 56 = some (.if_icmp .ne 17, 3, 0, []) := by decide +kernel
theorem zr_41_56 {l0 l1 l2 l3 l4 : Option zV} {x y : Int} {st : List zV} {w : zW} {Q : Option zV → zW → Prop}  : zR 41 56 [l0, l1, l2, l3, l4] (.inl y :: .inl x :: st) w Q = (if zN x ≠ zN y then zR 41 73 [l0, l1, l2, l3, l4] st w Q else zR 41 59 [l0, l1, l2, l3, l4] st w Q) := zR_if (zstB zT_41_56 rfl) (by simp [zcmp])
theorem zT_41_59 : zT 41 59 = some (.aload_n 0, 1, 0, []) := by decide +kernel
theorem zr_41_59 {l1 l2 l3 l4 : Option zV} {x : Option Nat} {st : List zV} {w : zW} {Q : Option zV → zW → Prop}  : zR 41 59 [some (.inr x), l1, l2, l3, l4] st w Q = zR 41 60 [some (.inr x), l1, l2, l3, l4] (.inr x :: st) w Q := zR_go (zst zT_41_59 rfl)
theorem zT_41_60 : zT 41 60 = some (.iload_n 2, 1, 0, []) := by decide +kernel
theorem zr_41_60 {l0 l1 l3 l4 : Option zV} {x : Int} {st : List zV} {w : zW} {Q : Option zV → zW → Prop}  : zR 41 60 [l0, l1, some (.inl x), l3, l4] st w Q = zR 41 61 [l0, l1, some (.inl x), l3, l4] (.inl x :: st) w Q := zR_go (zst zT_41_60 rfl)
theorem zT_41_61 : zT 41 61 = some (.invokevirtual 183, 3, 1, [(11, 42)]) := by decide +kernel
theorem zr_41_61 {l0 l1 l2 l3 l4 : Option zV} {a0 : zV} {h : Nat} {st : List zV} {w : zW} {Q : Option zV → zW → Prop} (hs : st.length ≤ 8) (hk : zk w h = 11) : zR 41 61 [l0, l1, l2, l3, l4] (a0 :: .inr (some h) :: st) w Q = zR 42 0 [some (.inr (some h)), some a0, none] [] w (fun r w2 => zR 41 64 [l0, l1, l2, l3, l4] (r.toList ++ st) w2 Q) := zR_call (zst zT_41_61 (zcall_v [a0] rfl hs hk rfl))
theorem zT_41_64 : zT 41 64 = some (.goto 9, 3, 0, []) := by decide +kernel
theorem zr_41_64 {l0 l1 l2 l3 l4 : Option zV} {st : List zV} {w : zW} {Q : Option zV → zW → Prop}  : zR 41 64 [l0, l1, l2, l3, l4] st w Q = zR 41 73 [l0, l1, l2, l3, l4] st w Q := zR_go (zst zT_41_64 rfl)
theorem zT_41_67 : zT 41 67 = some (.aload_n 0, 1, 0, []) := by decide +kernel
theorem zr_41_67 {l1 l2 l3 l4 : Option zV} {x : Option Nat} {st : List zV} {w : zW} {Q : Option zV → zW → Prop}  : zR 41 67 [some (.inr x), l1, l2, l3, l4] st w Q = zR 41 68 [some (.inr x), l1, l2, l3, l4] (.inr x :: st) w Q := zR_go (zst zT_41_67 rfl)
theorem zT_41_68 : zT 41 68 = some (.iload_n 2, 1, 0, []) := by decide +kernel
theorem zr_41_68 {l0 l1 l3 l4 : Option zV} {x : Int} {st : List zV} {w : zW} {Q : Option zV → zW → Prop}  : zR 41 68 [l0, l1, some (.inl x), l3, l4] st w Q = zR 41 69 [l0, l1, some (.inl x), l3, l4] (.inl x :: st) w Q := zR_go (zst zT_41_68 rfl)
theorem zT_41_69 : zT 41 69 = some (.iload_n 3, 1, 0, []) := by decide +kernel
theorem zr_41_69 {l0 l1 l2 l4 : Option zV} {x : Int} {st : List zV} {w : zW} {Q : Option zV → zW → Prop}  : zR 41 69 [l0, l1, l2, some (.inl x), l4] st w Q = zR 41 70 [l0, l1, l2, some (.inl x), l4] (.inl x :: st) w Q := zR_go (zst zT_41_69 rfl)
theorem zT_41_70 : zT 41 70 = some (.invokevirtual 186, 3, 2, [(11, 43)]) := by decide +kernel
theorem zr_41_70 {l0 l1 l2 l3 l4 : Option zV} {a0 a1 : zV} {h : Nat} {st : List zV} {w : zW} {Q : Option zV → zW → Prop} (hs : st.length ≤ 8) (hk : zk w h = 11) : zR 41 70 [l0, l1, l2, l3, l4] (a1 :: a0 :: .inr (some h) :: st) w Q = zR 43 0 [some (.inr (some h)), some a0, some a1, none, none] [] w (fun r w2 => zR 41 73 [l0, l1, l2, l3, l4] (r.toList ++ st) w2 Q) := zR_call (zst zT_41_70 (zcall_v [a1, a0] rfl hs hk rfl))
theorem zT_41_73 : zT 41 73 = some (.return_, 1, 0, []) := by decide +kernel
theorem zr_41_73 {l0 l1 l2 l3 l4 : Option zV} {w : zW} {Q : Option zV → zW → Prop} : zR 41 73 [l0, l1, l2, l3, l4] [] w Q = Q none w := zR_ret (zst zT_41_73 rfl)
theorem zT_42_0 : zT 42 0 = some (.aload_n 0, 1, 0, []) := by decide +kernel
theorem zr_42_0 {l1 l2 : Option zV} {x : Option Nat} {st : List zV} {w : zW} {Q : Option zV → zW → Prop}  : zR 42 0 [some (.inr x), l1, l2] st w Q = zR 42 1 [some (.inr x), l1, l2] (.inr x :: st) w Q := zR_go (zst zT_42_0 rfl)
theorem zT_42_1 : zT 42 1 = some (.getfield 190, 3, 0, [(11, 50)]) := by decide +kernel
theorem zr_42_1 {l0 l1 l2 : Option zV} {h : Nat} {st : List zV} {w : zW} {Q : Option zV → zW → Prop} (hk : zk w h = 11) : zR 42 1 [l0, l1, l2] (.inr (some h) :: st) w Q = zR 42 4 [l0, l1, l2] (.inl (zf w 122 h) :: st) w Q := zR_go (zst zT_42_1 (zget_i hk (Or.inl rfl)))
theorem zT_42_4 : zT 42 4 = some (.bipush 16, 2, 0, []) := by decide +kernel
theorem zr_42_4 {l0 l1 l2 : Option zV} {st : List zV} {w : zW} {Q : Option zV → zW → Prop}  : zR 42 4 [l0, l1, l2] st w Q = zR 42 6 [l0, l1, l2] (.inl 16 :: st) w Q := zR_go (zst zT_42_4 rfl)
theorem zT_42_6 : zT 42 6 = some (.if_icmp .ne 41, 3, 0, []) := by decide +kernel
theorem zr_42_6 {l0 l1 l2 : Option zV} {x y : Int} {st : List zV} {w : zW} {Q : Option zV → zW → Prop}  : zR 42 6 [l0, l1, l2] (.inl y :: .inl x :: st) w Q = (if zN x ≠ zN y then zR 42 47 [l0, l1, l2] st w Q else zR 42 9 [l0, l1, l2] st w Q) := zR_if (zstB zT_42_6 rfl) (by simp [zcmp])
theorem zT_42_9 : zT 42 9 = some (.iconst 0, 1, 0, []) := by decide +kernel
theorem zr_42_9 {l0 l1 l2 : Option zV} {st : List zV} {w : zW} {Q : Option zV → zW → Prop}  : zR 42 9 [l0, l1, l2] st w Q = zR 42 10 [l0, l1, l2] (.inl 0 :: st) w Q := zR_go (zst zT_42_9 rfl)
theorem zT_42_10 : zT 42 10 = some (.istore_n 2, 1, 0, []) := by decide +kernel
theorem zr_42_10 {l0 l1 l2 : Option zV} {x : Int} {st : List zV} {w : zW} {Q : Option zV → zW → Prop}  : zR 42 10 [l0, l1, l2] (.inl x :: st) w Q = zR 42 11 [l0, l1, some (.inl x)] st w Q := zR_go (zst zT_42_10 rfl)
theorem zT_42_11 : zT 42 11 = some (.iload_n 2, 1, 0, []) := by decide +kernel
theorem zr_42_11 {l0 l1 : Option zV} {x : Int} {st : List zV} {w : zW} {Q : Option zV → zW → Prop}  : zR 42 11 [l0, l1, some (.inl x)] st w Q = zR 42 12 [l0, l1, some (.inl x)] (.inl x :: st) w Q := zR_go (zst zT_42_11 rfl)
theorem zT_42_12 : zT 42 12 = some (.bipush 45, 2, 0, []) := by decide +kernel
theorem zr_42_12 {l0 l1 l2 : Option zV} {st : List zV} {w : zW} {Q : Option zV → zW → Prop}  : zR 42 12 [l0, l1, l2] st w Q = zR 42 14 [l0, l1, l2] (.inl 45 :: st) w Q := zR_go (zst zT_42_12 rfl)
theorem zT_42_14 : zT 42 14 = some (.if_icmp .ge 23, 3, 0, []) := by decide +kernel
theorem zr_42_14 {l0 l1 l2 : Option zV} {x y : Int} {st : List zV} {w : zW} {Q : Option zV → zW → Prop}  : zR 42 14 [l0, l1, l2] (.inl y :: .inl x :: st) w Q = (if zN y ≤ zN x then zR 42 37 [l0, l1, l2] st w Q else zR 42 17 [l0, l1, l2] st w Q) := zR_if (zstB zT_42_14 rfl) (by simp [zcmp])
theorem zT_42_17 : zT 42 17 = some (.aload_n 0, 1, 0, []) := by decide +kernel
theorem zr_42_17 {l1 l2 : Option zV} {x : Option Nat} {st : List zV} {w : zW} {Q : Option zV → zW → Prop}  : zR 42 17 [some (.inr x), l1, l2] st w Q = zR 42 18 [some (.inr x), l1, l2] (.inr x :: st) w Q := zR_go (zst zT_42_17 rfl)
theorem zT_42_18 : zT 42 18 = some (.getfield 143, 3, 0, [(11, 51)]) := by decide +kernel
theorem zr_42_18 {l0 l1 l2 : Option zV} {h : Nat} {st : List zV} {w : zW} {Q : Option zV → zW → Prop} (hk : zk w h = 11) : zR 42 18 [l0, l1, l2] (.inr (some h) :: st) w Q = zR 42 21 [l0, l1, l2] (.inr (zp w 123 h) :: st) w Q := zR_go (zst zT_42_18 (zget_r hk rfl))
theorem zT_42_21 : zT 42 21 = some (.iload_n 2, 1, 0, []) := by decide +kernel
theorem zr_42_21 {l0 l1 : Option zV} {x : Int} {st : List zV} {w : zW} {Q : Option zV → zW → Prop}  : zR 42 21 [l0, l1, some (.inl x)] st w Q = zR 42 22 [l0, l1, some (.inl x)] (.inl x :: st) w Q := zR_go (zst zT_42_21 rfl)
theorem zT_42_22 : zT 42 22 = some (.aload_n 0, 1, 0, []) := by decide +kernel
theorem zr_42_22 {l1 l2 : Option zV} {x : Option Nat} {st : List zV} {w : zW} {Q : Option zV → zW → Prop}  : zR 42 22 [some (.inr x), l1, l2] st w Q = zR 42 23 [some (.inr x), l1, l2] (.inr x :: st) w Q := zR_go (zst zT_42_22 rfl)
theorem zT_42_23 : zT 42 23 = some (.getfield 143, 3, 0, [(11, 51)]) := by decide +kernel
theorem zr_42_23 {l0 l1 l2 : Option zV} {h : Nat} {st : List zV} {w : zW} {Q : Option zV → zW → Prop} (hk : zk w h = 11) : zR 42 23 [l0, l1, l2] (.inr (some h) :: st) w Q = zR 42 26 [l0, l1, l2] (.inr (zp w 123 h) :: st) w Q := zR_go (zst zT_42_23 (zget_r hk rfl))
theorem zT_42_26 : zT 42 26 = some (.iload_n 2, 1, 0, []) := by decide +kernel
theorem zr_42_26 {l0 l1 : Option zV} {x : Int} {st : List zV} {w : zW} {Q : Option zV → zW → Prop}  : zR 42 26 [l0, l1, some (.inl x)] st w Q = zR 42 27 [l0, l1, some (.inl x)] (.inl x :: st) w Q := zR_go (zst zT_42_26 rfl)
theorem zT_42_27 : zT 42 27 = some (.iconst 3, 1, 0, []) := by decide +kernel
theorem zr_42_27 {l0 l1 l2 : Option zV} {st : List zV} {w : zW} {Q : Option zV → zW → Prop}  : zR 42 27 [l0, l1, l2] st w Q = zR 42 28 [l0, l1, l2] (.inl 3 :: st) w Q := zR_go (zst zT_42_27 rfl)
theorem zT_42_28 : zT 42 28 = some (.iadd, 1, 0, []) := by decide +kernel
theorem zr_42_28 {l0 l1 l2 : Option zV} {x y : Int} {st : List zV} {w : zW} {Q : Option zV → zW → Prop}  : zR 42 28 [l0, l1, l2] (.inl y :: .inl x :: st) w Q = zR 42 29 [l0, l1, l2] (.inl (x + y) :: st) w Q := zR_go (zst zT_42_28 rfl)
theorem zT_42_29 : zT 42 29 = some (.iaload, 1, 0, []) := by decide +kernel
theorem zr_42_29 {l0 l1 l2 : Option zV} {j : Int} {h : Nat} {st : List zV} {w : zW} {Q : Option zV → zW → Prop} (hk : (zk w h = zNC ∨ zk w h = zNC + 2) ∧ 0 ≤ zN j ∧ zN j < zl w h) : zR 42 29 [l0, l1, l2] (.inl j :: .inr (some h) :: st) w Q = zR 42 30 [l0, l1, l2] (.inl (za w h (zN j).toNat) :: st) w Q := zR_go (zst zT_42_29 (if_pos hk))
theorem zT_42_30 : zT 42 30 = some (.iastore, 1, 0, []) := by decide +kernel
theorem zr_42_30 {l0 l1 l2 : Option zV} {j x : Int} {h : Nat} {st : List zV} {w : zW} {Q : Option zV → zW → Prop} (hk : zk w h = zNC ∧ 0 ≤ zN j ∧ zN j < zl w h) : zR 42 30 [l0, l1, l2] (.inl x :: .inl j :: .inr (some h) :: st) w Q = zR 42 31 [l0, l1, l2] st (zsa w h (zN j).toNat x) Q := zR_go (zst zT_42_30 (if_pos hk))
theorem zT_42_31 : zT 42 31 = some (.iinc 2 1, 3, 0, []) := by decide +kernel
theorem zr_42_31 {l0 l1 : Option zV} {x : Int} {st : List zV} {w : zW} {Q : Option zV → zW → Prop}  : zR 42 31 [l0, l1, some (.inl x)] st w Q = zR 42 34 [l0, l1, some (.inl (x + 1))] st w Q := zR_go (zst zT_42_31 rfl)
theorem zT_42_34 : zT 42 34 = some (.goto (-23), 3, 0, []) := by decide +kernel
theorem zr_42_34 {l0 l1 l2 : Option zV} {st : List zV} {w : zW} {Q : Option zV → zW → Prop}  : zR 42 34 [l0, l1, l2] st w Q = zR 42 11 [l0, l1, l2] st w Q := zR_go (zst zT_42_34 rfl)
theorem zT_42_37 : zT 42 37 = some (.aload_n 0, 1, 0, []) := by decide +kernel
theorem zr_42_37 {l1 l2 : Option zV} {x : Option Nat} {st : List zV} {w : zW} {Q : Option zV → zW → Prop}  : zR 42 37 [some (.inr x), l1, l2] st w Q = zR 42 38 [some (.inr x), l1, l2] (.inr x :: st) w Q := zR_go (zst zT_42_37 rfl)
theorem zT_42_38 : zT 42 38 = some (.dup, 1, 0, []) := by decide +kernel
theorem zr_42_38 {l0 l1 l2 : Option zV} {v : zV} {st : List zV} {w : zW} {Q : Option zV → zW → Prop}  : zR 42 38 [l0, l1, l2] (v :: st) w Q = zR 42 39 [l0, l1, l2] (v :: v :: st) w Q := zR_go (zst zT_42_38 rfl)
theorem zT_42_39 : zT 42 39 = some (.getfield 190, 3, 0, [(11, 50)]) := by decide +kernel
theorem zr_42_39 {l0 l1 l2 : Option zV} {h : Nat} {st : List zV} {w : zW} {Q : Option zV → zW → Prop} (hk : zk w h = 11) : zR 42 39 [l0, l1, l2] (.inr (some h) :: st) w Q = zR 42 42 [l0, l1, l2] (.inl (zf w 122 h) :: st) w Q := zR_go (zst zT_42_39 (zget_i hk (Or.inl rfl)))
theorem zT_42_42 : zT 42 42 = some (.iconst 1, 1, 0, []) := by decide +kernel
theorem zr_42_42 {l0 l1 l2 : Option zV} {st : List zV} {w : zW} {Q : Option zV → zW → Prop}  : zR 42 42 [l0, l1, l2] st w Q = zR 42 43 [l0, l1, l2] (.inl 1 :: st) w Q := zR_go (zst zT_42_42 rfl)
theorem zT_42_43 : zT 42 43 = some (.isub, 1, 0, []) := by decide +kernel
theorem zr_42_43 {l0 l1 l2 : Option zV} {x y : Int} {st : List zV} {w : zW} {Q : Option zV → zW → Prop}  : zR 42 43 [l0, l1, l2] (.inl y :: .inl x :: st) w Q = zR 42 44 [l0, l1, l2] (.inl (x - y) :: st) w Q := zR_go (zst zT_42_43 rfl)
theorem zT_42_44 : zT 42 44 = some (.putfield 190, 3, 0, [(11, 50)]) := by decide +kernel
theorem zr_42_44 {l0 l1 l2 : Option zV} {h : Nat} {x : Int} {st : List zV} {w : zW} {Q : Option zV → zW → Prop} (hk : zk w h = 11) : zR 42 44 [l0, l1, l2] (.inl x :: .inr (some h) :: st) w Q = zR 42 47 [l0, l1, l2] st (zsf w 122 h x) Q := zR_go (zst zT_42_44 (zput_i hk rfl))
theorem zT_42_47 : zT 42 47 = some (.aload_n 0, 1, 0, []) := by decide +kernel
theorem zr_42_47 {l1 l2 : Option zV} {x : Option Nat} {st : List zV} {w : zW} {Q : Option zV → zW → Prop}  : zR 42 47 [some (.inr x), l1, l2] st w Q = zR 42 48 [some (.inr x), l1, l2] (.inr x :: st) w Q := zR_go (zst zT_42_47 rfl)
theorem zT_42_48 : zT 42 48 = some (.getfield 143, 3, 0, [(11, 51)]) := by decide +kernel
theorem zr_42_48 {l0 l1 l2 : Option zV} {h : Nat} {st : List zV} {w : zW} {Q : Option zV → zW → Prop} (hk : zk w h = 11) : zR 42 48 [l0, l1, l2] (.inr (some h) :: st) w Q = zR 42 51 [l0, l1, l2] (.inr (zp w 123 h) :: st) w Q := zR_go (zst zT_42_48 (zget_r hk rfl))
theorem zT_42_51 : zT 42 51 = some (.iconst 3, 1, 0, []) := by decide +kernel
theorem zr_42_51 {l0 l1 l2 : Option zV} {st : List zV} {w : zW} {Q : Option zV → zW → Prop}  : zR 42 51 [l0, l1, l2] st w Q = zR 42 52 [l0, l1, l2] (.inl 3 :: st) w Q := zR_go (zst zT_42_51 rfl)
theorem zT_42_52 : zT 42 52 = some (.aload_n 0, 1, 0, []) := by decide +kernel
theorem zr_42_52 {l1 l2 : Option zV} {x : Option Nat} {st : List zV} {w : zW} {Q : Option zV → zW → Prop}  : zR 42 52 [some (.inr x), l1, l2] st w Q = zR 42 53 [some (.inr x), l1, l2] (.inr x :: st) w Q := zR_go (zst zT_42_52 rfl)
theorem zT_42_53 : zT 42 53 = some (.getfield 190, 3, 0, [(11, 50)]) := by decide +kernel
theorem zr_42_53 {l0 l1 l2 : Option zV} {h : Nat} {st : List zV} {w : zW} {Q : Option zV → zW → Prop} (hk : zk w h = 11) : zR 42 53 [l0, l1, l2] (.inr (some h) :: st) w Q = zR 42 56 [l0, l1, l2] (.inl (zf w 122 h) :: st) w Q := zR_go (zst zT_42_53 (zget_i hk (Or.inl rfl)))
theorem zT_42_56 : zT 42 56 = some (.imul, 1, 0, []) := by decide +kernel
theorem zr_42_56 {l0 l1 l2 : Option zV} {x y : Int} {st : List zV} {w : zW} {Q : Option zV → zW → Prop}  : zR 42 56 [l0, l1, l2] (.inl y :: .inl x :: st) w Q = zR 42 57 [l0, l1, l2] (.inl (x * y) :: st) w Q := zR_go (zst zT_42_56 rfl)
theorem zT_42_57 : zT 42 57 = some (.iload_n 1, 1, 0, []) := by decide +kernel
theorem zr_42_57 {l0 l2 : Option zV} {x : Int} {st : List zV} {w : zW} {Q : Option zV → zW → Prop}  : zR 42 57 [l0, some (.inl x), l2] st w Q = zR 42 58 [l0, some (.inl x), l2] (.inl x :: st) w Q := zR_go (zst zT_42_57 rfl)
theorem zT_42_58 : zT 42 58 = some (.iastore, 1, 0, []) := by decide +kernel
theorem zr_42_58 {l0 l1 l2 : Option zV} {j x : Int} {h : Nat} {st : List zV} {w : zW} {Q : Option zV → zW → Prop} (hk : zk w h = zNC ∧ 0 ≤ zN j ∧ zN j < zl w h) : zR 42 58 [l0, l1, l2] (.inl x :: .inl j :: .inr (some h) :: st) w Q = zR 42 59 [l0, l1, l2] st (zsa w h (zN j).toNat x) Q := zR_go (zst zT_42_58 (if_pos hk))
theorem zT_42_59 : zT 42 59 = some (.aload_n 0, 1, 0, []) := by decide +kernel
theorem zr_42_59 {l1 l2 : Option zV} {x : Option Nat} {st : List zV} {w : zW} {Q : Option zV → zW → Prop}  : zR 42 59 [some (.inr x), l1, l2] st w Q = zR 42 60 [some (.inr x), l1, l2] (.inr x :: st) w Q := zR_go (zst zT_42_59 rfl)
theorem zT_42_60 : zT 42 60 = some (.getfield 143, 3, 0, [(11, 51)]) := by decide +kernel
theorem zr_42_60 {l0 l1 l2 : Option zV} {h : Nat} {st : List zV} {w : zW} {Q : Option zV → zW → Prop} (hk : zk w h = 11) : zR 42 60 [l0, l1, l2] (.inr (some h) :: st) w Q = zR 42 63 [l0, l1, l2] (.inr (zp w 123 h) :: st) w Q := zR_go (zst zT_42_60 (zget_r hk rfl))
theorem zT_42_63 : zT 42 63 = some (.iconst 3, 1, 0, []) := by decide +kernel
theorem zr_42_63 {l0 l1 l2 : Option zV} {st : List zV} {w : zW} {Q : Option zV → zW → Prop}  : zR 42 63 [l0, l1, l2] st w Q = zR 42 64 [l0, l1, l2] (.inl 3 :: st) w Q := zR_go (zst zT_42_63 rfl)
theorem zT_42_64 : zT 42 64 = some (.aload_n 0, 1, 0, []) := by decide +kernel
theorem zr_42_64 {l1 l2 : Option zV} {x : Option Nat} {st : List zV} {w : zW} {Q : Option zV → zW → Prop}  : zR 42 64 [some (.inr x), l1, l2] st w Q = zR 42 65 [some (.inr x), l1, l2] (.inr x :: st) w Q := zR_go (zst zT_42_64 rfl)
theorem zT_42_65 : zT 42 65 = some (.getfield 190, 3, 0, [(11, 50)]) := by decide +kernel
theorem zr_42_65 {l0 l1 l2 : Option zV} {h : Nat} {st : List zV} {w : zW} {Q : Option zV → zW → Prop} (hk : zk w h = 11) : zR 42 65 [l0, l1, l2] (.inr (some h) :: st) w Q = zR 42 68 [l0, l1, l2] (.inl (zf w 122 h) :: st) w Q := zR_go (zst zT_42_65 (zget_i hk (Or.inl rfl)))
theorem zT_42_68 : zT 42 68 = some (.imul, 1, 0, []) := by decide +kernel
theorem zr_42_68 {l0 l1 l2 : Option zV} {x y : Int} {st : List zV} {w : zW} {Q : Option zV → zW → Prop}  : zR 42 68 [l0, l1, l2] (.inl y :: .inl x :: st) w Q = zR 42 69 [l0, l1, l2] (.inl (x * y) :: st) w Q := zR_go (zst zT_42_68 rfl)
theorem zT_42_69 : zT 42 69 = some (.iconst 1, 1, 0, []) := by decide +kernel
theorem zr_42_69 {l0 l1 l2 : Option zV} {st : List zV} {w : zW} {Q : Option zV → zW → Prop}  : zR 42 69 [l0, l1, l2] st w Q = zR 42 70 [l0, l1, l2] (.inl 1 :: st) w Q := zR_go (zst zT_42_69 rfl)
theorem zT_42_70 : zT 42 70 = some (.iadd, 1, 0, []) := by decide +kernel
theorem zr_42_70 {l0 l1 l2 : Option zV} {x y : Int} {st : List zV} {w : zW} {Q : Option zV → zW → Prop}  : zR 42 70 [l0, l1, l2] (.inl y :: .inl x :: st) w Q = zR 42 71 [l0, l1, l2] (.inl (x + y) :: st) w Q := zR_go (zst zT_42_70 rfl)
theorem zT_42_71 : zT 42 71 = some (.aload_n 0, 1, 0, []) := by decide +kernel
theorem zr_42_71 {l1 l2 : Option zV} {x : Option Nat} {st : List zV} {w : zW} {Q : Option zV → zW → Prop}  : zR 42 71 [some (.inr x), l1, l2] st w Q = zR 42 72 [some (.inr x), l1, l2] (.inr x :: st) w Q := zR_go (zst zT_42_71 rfl)
theorem zT_42_72 : zT 42 72 = some (.getfield 113, 3, 0, [(11, 38)]) := by decide +kernel
theorem zr_42_72 {l0 l1 l2 : Option zV} {h : Nat} {st : List zV} {w : zW} {Q : Option zV → zW → Prop} (hk : zk w h = 11) : zR 42 72 [l0, l1, l2] (.inr (some h) :: st) w Q = zR 42 75 [l0, l1, l2] (.inr (zp w 110 h) :: st) w Q := zR_go (zst zT_42_72 (zget_r hk rfl))
theorem zT_42_75 : zT 42 75 = some (.iconst 1, 1, 0, []) := by decide +kernel
theorem zr_42_75 {l0 l1 l2 : Option zV} {st : List zV} {w : zW} {Q : Option zV → zW → Prop}  : zR 42 75 [l0, l1, l2] st w Q = zR 42 76 [l0, l1, l2] (.inl 1 :: st) w Q := zR_go (zst zT_42_75 rfl)
theorem zT_42_76 : zT 42 76 = some (.iaload, 1, 0, []) := by decide +kernel
theorem zr_42_76 {l0 l1 l2 : Option zV} {j : Int} {h : Nat} {st : List zV} {w : zW} {Q : Option zV → zW → Prop} (hk : (zk w h = zNC ∨ zk w h = zNC + 2) ∧ 0 ≤ zN j ∧ zN j < zl w h) : zR 42 76 [l0, l1, l2] (.inl j :: .inr (some h) :: st) w Q = zR 42 77 [l0, l1, l2] (.inl (za w h (zN j).toNat) :: st) w Q := zR_go (zst zT_42_76 (if_pos hk))
theorem zT_42_77 : zT 42 77 = some (.iastore, 1, 0, []) := by decide +kernel
theorem zr_42_77 {l0 l1 l2 : Option zV} {j x : Int} {h : Nat} {st : List zV} {w : zW} {Q : Option zV → zW → Prop} (hk : zk w h = zNC ∧ 0 ≤ zN j ∧ zN j < zl w h) : zR 42 77 [l0, l1, l2] (.inl x :: .inl j :: .inr (some h) :: st) w Q = zR 42 78 [l0, l1, l2] st (zsa w h (zN j).toNat x) Q := zR_go (zst zT_42_77 (if_pos hk))
theorem zT_42_78 : zT 42 78 = some (.aload_n 0, 1, 0, []) := by decide +kernel
theorem zr_42_78 {l1 l2 : Option zV} {x : Option Nat} {st : List zV} {w : zW} {Q : Option zV → zW → Prop}  : zR 42 78 [some (.inr x), l1, l2] st w Q = zR 42 79 [some (.inr x), l1, l2] (.inr x :: st) w Q := zR_go (zst zT_42_78 rfl)
theorem zT_42_79 : zT 42 79 = some (.getfield 143, 3, 0, [(11, 51)]) := by decide +kernel
theorem zr_42_79 {l0 l1 l2 : Option zV} {h : Nat} {st : List zV} {w : zW} {Q : Option zV → zW → Prop} (hk : zk w h = 11) : zR 42 79 [l0, l1, l2] (.inr (some h) :: st) w Q = zR 42 82 [l0, l1, l2] (.inr (zp w 123 h) :: st) w Q := zR_go (zst zT_42_79 (zget_r hk rfl))
theorem zT_42_82 : zT 42 82 = some (.iconst 3, 1, 0, []) := by decide +kernel
theorem zr_42_82 {l0 l1 l2 : Option zV} {st : List zV} {w : zW} {Q : Option zV → zW → Prop}  : zR 42 82 [l0, l1, l2] st w Q = zR 42 83 [l0, l1, l2] (.inl 3 :: st) w Q := zR_go (zst zT_42_82 rfl)
theorem zT_42_83 : zT 42 83 = some (.aload_n 0, 1, 0, []) := by decide +kernel
theorem zr_42_83 {l1 l2 : Option zV} {x : Option Nat} {st : List zV} {w : zW} {Q : Option zV → zW → Prop}  : zR 42 83 [some (.inr x), l1, l2] st w Q = zR 42 84 [some (.inr x), l1, l2] (.inr x :: st) w Q := zR_go (zst zT_42_83 rfl)
theorem zT_42_84 : zT 42 84 = some (.getfield 190, 3, 0, [(11, 50)]) := by decide +kernel
theorem zr_42_84 {l0 l1 l2 : Option zV} {h : Nat} {st : List zV} {w : zW} {Q : Option zV → zW → Prop} (hk : zk w h = 11) : zR 42 84 [l0, l1, l2] (.inr (some h) :: st) w Q = zR 42 87 [l0, l1, l2] (.inl (zf w 122 h) :: st) w Q := zR_go (zst zT_42_84 (zget_i hk (Or.inl rfl)))
theorem zT_42_87 : zT 42 87 = some (.imul, 1, 0, []) := by decide +kernel
theorem zr_42_87 {l0 l1 l2 : Option zV} {x y : Int} {st : List zV} {w : zW} {Q : Option zV → zW → Prop}  : zR 42 87 [l0, l1, l2] (.inl y :: .inl x :: st) w Q = zR 42 88 [l0, l1, l2] (.inl (x * y) :: st) w Q := zR_go (zst zT_42_87 rfl)
theorem zT_42_88 : zT 42 88 = some (.iconst 2, 1, 0, []) := by decide +kernel
theorem zr_42_88 {l0 l1 l2 : Option zV} {st : List zV} {w : zW} {Q : Option zV → zW → Prop}  : zR 42 88 [l0, l1, l2] st w Q = zR 42 89 [l0, l1, l2] (.inl 2 :: st) w Q := zR_go (zst zT_42_88 rfl)
theorem zT_42_89 : zT 42 89 = some (.iadd, 1, 0, []) := by decide +kernel
theorem zr_42_89 {l0 l1 l2 : Option zV} {x y : Int} {st : List zV} {w : zW} {Q : Option zV → zW → Prop}  : zR 42 89 [l0, l1, l2] (.inl y :: .inl x :: st) w Q = zR 42 90 [l0, l1, l2] (.inl (x + y) :: st) w Q := zR_go (zst zT_42_89 rfl)
theorem zT_42_90 : zT 42 90 = some (.aload_n 0, 1, 0, []) := by decide +kernel
theorem zr_42_90 {l1 l2 : Option zV} {x : Option Nat} {st : List zV} {w : zW} {Q : Option zV → zW → Prop}  : zR 42 90 [some (.inr x), l1, l2] st w Q = zR 42 91 [some (.inr x), l1, l2] (.inr x :: st) w Q := zR_go (zst zT_42_90 rfl)
theorem zT_42_91 : zT 42 91 = some (.iconst 2, 1, 0, []) := by decide +kernel
theorem zr_42_91 {l0 l1 l2 : Option zV} {st : List zV} {w : zW} {Q : Option zV → zW → Prop}  : zR 42 91 [l0, l1, l2] st w Q = zR 42 92 [l0, l1, l2] (.inl 2 :: st) w Q := zR_go (zst zT_42_91 rfl)
theorem zT_42_92 : zT 42 92 = some (.invokevirtual 177, 3, 1, [(11, 39)]) := by decide +kernel
theorem zr_42_92 {l0 l1 l2 : Option zV} {a0 : zV} {h : Nat} {st : List zV} {w : zW} {Q : Option zV → zW → Prop} (hs : st.length ≤ 8) (hk : zk w h = 11) : zR 42 92 [l0, l1, l2] (a0 :: .inr (some h) :: st) w Q = zR 39 0 [some (.inr (some h)), some a0, none] [] w (fun r w2 => zR 42 95 [l0, l1, l2] (r.toList ++ st) w2 Q) := zR_call (zst zT_42_92 (zcall_v [a0] rfl hs hk rfl))
theorem zT_42_95 : zT 42 95 = some (.iastore, 1, 0, []) := by decide +kernel
theorem zr_42_95 {l0 l1 l2 : Option zV} {j x : Int} {h : Nat} {st : List zV} {w : zW} {Q : Option zV → zW → Prop} (hk : zk w h = zNC ∧ 0 ≤ zN j ∧ zN j < zl w h) : zR 42 95 [l0, l1, l2] (.inl x :: .inl j :: .inr (some h) :: st) w Q = zR 42 96 [l0, l1, l2] st (zsa w h (zN j).toNat x) Q := zR_go (zst zT_42_95 (if_pos hk))
theorem zT_42_96 : zT 42 96 = some (.aload_n 0, 1, 0, []) := by decide +kernel
theorem zr_42_96 {l1 l2 : Option zV} {x : Option Nat} {st : List zV} {w : zW} {Q : Option zV → zW → Prop}  : zR 42 96 [some (.inr x), l1, l2] st w Q = zR 42 97 [some (.inr x), l1, l2] (.inr x :: st) w Q := zR_go (zst zT_42_96 rfl)
theorem zT_42_97 : zT 42 97 = some (.dup, 1, 0, []) := by decide +kernel
theorem zr_42_97 {l0 l1 l2 : Option zV} {v : zV} {st : List zV} {w : zW} {Q : Option zV → zW → Prop}  : zR 42 97 [l0, l1, l2] (v :: st) w Q = zR 42 98 [l0, l1, l2] (v :: v :: st) w Q := zR_go (zst zT_42_97 rfl)
theorem zT_42_98 : zT 42 98 = some (.getfield 190, 3, 0, [(11, 50)]) := by decide +kernel
theorem zr_42_98 {l0 l1 l2 : Option zV} {h : Nat} {st : List zV} {w : zW} {Q : Option zV → zW → Prop} (hk : zk w h = 11) : zR 42 98 [l0, l1, l2] (.inr (some h) :: st) w Q = zR 42 101 [l0, l1, l2] (.inl (zf w 122 h) :: st) w Q := zR_go (zst zT_42_98 (zget_i hk (Or.inl rfl)))
theorem zT_42_101 : zT 42 101 = some (.iconst 1, 1, 0, []) := by decide +kernel
theorem zr_42_101 {l0 l1 l2 : Option zV} {st : List zV} {w : zW} {Q : Option zV → zW → Prop}  : zR 42 101 [l0, l1, l2] st w Q = zR 42 102 [l0, l1, l2] (.inl 1 :: st) w Q := zR_go (zst zT_42_101 rfl)
theorem zT_42_102 : zT 42 102 = some (.iadd, 1, 0, []) := by decide +kernel
theorem zr_42_102 {l0 l1 l2 : Option zV} {x y : Int} {st : List zV} {w : zW} {Q : Option zV → zW → Prop}  : zR 42 102 [l0, l1, l2] (.inl y :: .inl x :: st) w Q = zR 42 103 [l0, l1, l2] (.inl (x + y) :: st) w Q := zR_go (zst zT_42_102 rfl)
theorem zT_42_103 : zT 42 103 = some (.putfield 190, 3, 0, [(11, 50)]) := by decide +kernel
theorem zr_42_103 {l0 l1 l2 : Option zV} {h : Nat} {x : Int} {st : List zV} {w : zW} {Q : Option zV → zW → Prop} (hk : zk w h = 11) : zR 42 103 [l0, l1, l2] (.inl x :: .inr (some h) :: st) w Q = zR 42 106 [l0, l1, l2] st (zsf w 122 h x) Q := zR_go (zst zT_42_103 (zput_i hk rfl))
theorem zT_42_106 : zT 42 106 = some (.return_, 1, 0, []) := by decide +kernel
theorem zr_42_106 {l0 l1 l2 : Option zV} {w : zW} {Q : Option zV → zW → Prop} : zR 42 106 [l0, l1, l2] [] w Q = Q none w := zR_ret (zst zT_42_106 rfl)
theorem zT_43_0 : zT 43 0 = some (.iconst 0, 1, 0, []) := by decide +kernel
theorem zr_43_0 {l0 l1 l2 l3 l4 : Option zV} {st : List zV} {w : zW} {Q : Option zV → zW → Prop}  : zR 43 0 [l0, l1, l2, l3, l4] st w Q = zR 43 1 [l0, l1, l2, l3, l4] (.inl 0 :: st) w Q := zR_go (zst zT_43_0 rfl)
theorem zT_43_1 : zT 43 1 = some (.istore_n 3, 1, 0, []) := by decide +kernel
theorem zr_43_1 {l0 l1 l2 l3 l4 : Option zV} {x : Int} {st : List zV} {w : zW} {Q : Option zV → zW → Prop}  : zR 43 1 [l0, l1, l2, l3, l4] (.inl x :: st) w Q = zR 43 2 [l0, l1, l2, some (.inl x), l4] st w Q := zR_go (zst zT_43_1 rfl)
theorem zT_43_2 : zT 43 2 = some (.iload_n 3, 1, 0, []) := by decide +kernel
theorem zr_43_2 {l0 l1 l2 l4 : Option zV} {x : Int} {st : List zV} {w : zW} {Q : Option zV → zW → Prop}  : zR 43 2 [l0, l1, l2, some (.inl x), l4] st w Q = zR 43 3 [l0, l1, l2, some (.inl x), l4] (.inl x :: st) w Q := zR_go (zst zT_43_2 rfl)
theorem zT_43_3 : zT 43 3 = some (.aload_n 0, 1, 0, []) := by decide +kernel
theorem zr_43_3 {l1 l2 l3 l4 : Option zV} {x : Option Nat} {st : List zV} {w : zW} {Q : Option zV → zW → Prop}  : zR 43 3 [some (.inr x), l1, l2, l3, l4] st w Q = zR 43 4 [some (.inr x), l1, l2, l3, l4] (.inr x :: st) w Q := zR_go (zst zT_43_3 rfl)
theorem zT_43_4 : zT 43 4 = some (.getfield 155, 3, 0, [(11, 41)]) := by decide +kernel
theorem zr_43_4 {l0 l1 l2 l3 l4 : Option zV} {h : Nat} {st : List zV} {w : zW} {Q : Option zV → zW → Prop} (hk : zk w h = 11) : zR 43 4 [l0, l1, l2, l3, l4] (.inr (some h) :: st) w Q = zR 43 7 [l0, l1, l2, l3, l4] (.inl (zf w 113 h) :: st) w Q := zR_go (zst zT_43_4 (zget_i hk (Or.inl rfl)))
theorem zT_43_7 : zT 43 7 = some (.if_icmp .ge 92, 3, 0, []) := by decide +kernel
theorem zr_43_7 {l0 l1 l2 l3 l4 : Option zV} {x y : Int} {st : List zV} {w : zW} {Q : Option zV → zW → Prop}  : zR 43 7 [l0, l1, l2, l3, l4] (.inl y :: .inl x :: st) w Q = (if zN y ≤ zN x then zR 43 99 [l0, l1, l2, l3, l4] st w Q else zR 43 10 [l0, l1, l2, l3, l4] st w Q) := zR_if (zstB zT_43_7 rfl) (by simp [zcmp])
theorem zT_43_10 : zT 43 10 = some (.aload_n 0, 1, 0, []) := by decide +kernel
theorem zr_43_10 {l1 l2 l3 l4 : Option zV} {x : Option Nat} {st : List zV} {w : zW} {Q : Option zV → zW → Prop}  : zR 43 10 [some (.inr x), l1, l2, l3, l4] st w Q = zR 43 11 [some (.inr x), l1, l2, l3, l4] (.inr x :: st) w Q := zR_go (zst zT_43_10 rfl)
theorem zT_43_11 : zT 43 11 = some (.getfield 128, 3, 0, [(11, 45)]) := by decide +kernel
theorem zr_43_11 {l0 l1 l2 l3 l4 : Option zV} {h : Nat} {st : List zV} {w : zW} {Q : Option zV → zW → Prop} (hk : zk w h = 11) : zR 43 11 [l0, l1, l2, l3, l4] (.inr (some h) :: st) w Q = zR 43 14 [l0, l1, l2, l3, l4] (.inr (zp w 117 h) :: st) w Q := zR_go (zst zT_43_11 (zget_r hk rfl))
theorem zT_43_14 : zT 43 14 = some (.iload_n 3, 1, 0, []) := by decide +kernel
theorem zr_43_14 {l0 l1 l2 l4 : Option zV} {x : Int} {st : List zV} {w : zW} {Q : Option zV → zW → Prop}  : zR 43 14 [l0, l1, l2, some (.inl x), l4] st w Q = zR 43 15 [l0, l1, l2, some (.inl x), l4] (.inl x :: st) w Q := zR_go (zst zT_43_14 rfl)
theorem zT_43_15 : zT 43 15 = some (.iaload, 1, 0, []) := by decide +kernel
theorem zr_43_15 {l0 l1 l2 l3 l4 : Option zV} {j : Int} {h : Nat} {st : List zV} {w : zW} {Q : Option zV → zW → Prop} (hk : (zk w h = zNC ∨ zk w h = zNC + 2) ∧ 0 ≤ zN j ∧ zN j < zl w h) : zR 43 15 [l0, l1, l2, l3, l4] (.inl j :: .inr (some h) :: st) w Q = zR 43 16 [l0, l1, l2, l3, l4] (.inl (za w h (zN j).toNat) :: st) w Q := zR_go (zst zT_43_15 (if_pos hk))
theorem zT_43_16 : zT 43 16 = some (.iconst 1, 1, 0, []) := by decide +kernel
theorem zr_43_16 {l0 l1 l2 l3 l4 : Option zV} {st : List zV} {w : zW} {Q : Option zV → zW → Prop}  : zR 43 16 [l0, l1, l2, l3, l4] st w Q = zR 43 17 [l0, l1, l2, l3, l4] (.inl 1 :: st) w Q := zR_go (zst zT_43_16 rfl)
theorem zT_43_17 : zT 43 17 = some (.if_icmp .ne 76, 3, 0, []) := by decide +kernel
theorem zr_43_17 {l0 l1 l2 l3 l4 : Option zV} {x y : Int} {st : List zV} {w : zW} {Q : Option zV → zW → Prop}  : zR 43 17 [l0, l1, l2, l3, l4] (.inl y :: .inl x :: st) w Q = (if zN x ≠ zN y then zR 43 93 [l0, l1, l2, l3, l4] st w Q else zR 43 20 [l0, l1, l2, l3, l4] st w Q) := zR_if (zstB zT_43_17 rfl) (by simp [zcmp])
theorem zT_43_20 : zT 43 20 = some (.aload_n 0, 1, 0, []) := by decide +kernel
theorem zr_43_20 {l1 l2 l3 l4 : Option zV} {x : Option Nat} {st : List zV} {w : zW} {Q : Option zV → zW → Prop}  : zR 43 20 [some (.inr x), l1, l2, l3, l4] st w Q = zR 43 21 [some (.inr x), l1, l2, l3, l4] (.inr x :: st) w Q := zR_go (zst zT_43_20 rfl)
theorem zT_43_21 : zT 43 21 = some (.getfield 119, 3, 0, [(11, 42)]) := by decide +kernel
theorem zr_43_21 {l0 l1 l2 l3 l4 : Option zV} {h : Nat} {st : List zV} {w : zW} {Q : Option zV → zW → Prop} (hk : zk w h = 11) : zR 43 21 [l0, l1, l2, l3, l4] (.inr (some h) :: st) w Q = zR 43 24 [l0, l1, l2, l3, l4] (.inr (zp w 114 h) :: st) w Q := zR_go (zst zT_43_21 (zget_r hk rfl))
theorem zT_43_24 : zT 43 24 = some (.iload_n 3, 1, 0, []) := by decide +kernel
theorem zr_43_24 {l0 l1 l2 l4 : Option zV} {x : Int} {st : List zV} {w : zW} {Q : Option zV → zW → Prop}  : zR 43 24 [l0, l1, l2, some (.inl x), l4] st w Q = zR 43 25 [l0, l1, l2, some (.inl x), l4] (.inl x :: st) w Q := zR_go (zst zT_43_24 rfl)
theorem zT_43_25 : zT 43 25 = some (.iaload, 1, 0, []) := by decide +kernel
theorem zr_43_25 {l0 l1 l2 l3 l4 : Option zV} {j : Int} {h : Nat} {st : List zV} {w : zW} {Q : Option zV → zW → Prop} (hk : (zk w h = zNC ∨ zk w h = zNC + 2) ∧ 0 ≤ zN j ∧ zN j < zl w h) : zR 43 25 [l0, l1, l2, l3, l4] (.inl j :: .inr (some h) :: st) w Q = zR 43 26 [l0, l1, l2, l3, l4] (.inl (za w h (zN j).toNat) :: st) w Q := zR_go (zst zT_43_25 (if_pos hk))
theorem zT_43_26 : zT 43 26 = some (.iload_n 1, 1, 0, []) := by decide +kernel
theorem zr_43_26 {l0 l2 l3 l4 : Option zV} {x : Int} {st : List zV} {w : zW} {Q : Option zV → zW → Prop}  : zR 43 26 [l0, some (.inl x), l2, l3, l4] st w Q = zR 43 27 [l0, some (.inl x), l2, l3, l4] (.inl x :: st) w Q := zR_go (zst zT_43_26 rfl)
theorem zT_43_27 : zT 43 27 = some (.if_icmp .ne 66, 3, 0, []) := by decide +kernel
theorem zr_43_27 {l0 l1 l2 l3 l4 : Option zV} {x y : Int} {st : List zV} {w : zW} {Q : Option zV → zW → Prop}  : zR 43 27 [l0, l1, l2, l3, l4] (.inl y :: .inl x :: st) w Q = (if zN x ≠ zN y then zR 43 93 [l0, l1, l2, l3, l4] st w Q else zR 43 30 [l0, l1, l2, l3, l4] st w Q) := zR_if (zstB zT_43_27 rfl) (by simp [zcmp])
theorem zT_43_30 : zT 43 30 = some (.iload_n 3, 1, 0, []) := by decide +kernel
theorem zr_43_30 {l0 l1 l2 l4 : Option zV} {x : Int} {st : List zV} {w : zW} {Q : Option zV → zW → Prop}  : zR 43 30 [l0, l1, l2, some (.inl x), l4] st w Q = zR 43 31 [l0, l1, l2, some (.inl x), l4] (.inl x :: st) w Q := zR_go (zst zT_43_30 rfl)
theorem zT_43_31 : zT 43 31 = some (.bipush 8, 2, 0, []) := by decide +kernel
theorem zr_43_31 {l0 l1 l2 l3 l4 : Option zV} {st : List zV} {w : zW} {Q : Option zV → zW → Prop}  : zR 43 31 [l0, l1, l2, l3, l4] st w Q = zR 43 33 [l0, l1, l2, l3, l4] (.inl 8 :: st) w Q := zR_go (zst zT_43_31 rfl)
theorem zT_43_33 : zT 43 33 = some (.irem, 1, 0, []) := by decide +kernel
theorem zr_43_33 {l0 l1 l2 l3 l4 : Option zV} {x y : Int} {st : List zV} {w : zW} {Q : Option zV → zW → Prop} (hy : ¬ zN y = 0) : zR 43 33 [l0, l1, l2, l3, l4] (.inl y :: .inl x :: st) w Q = zR 43 34 [l0, l1, l2, l3, l4] (.inl (zo_rem x y) :: st) w Q := zR_go (zst zT_43_33 (if_neg hy))
theorem zT_43_34 : zT 43 34 = some (.iload_n 2, 1, 0, []) := by decide +kernel
theorem zr_43_34 {l0 l1 l3 l4 : Option zV} {x : Int} {st : List zV} {w : zW} {Q : Option zV → zW → Prop}  : zR 43 34 [l0, l1, some (.inl x), l3, l4] st w Q = zR 43 35 [l0, l1, some (.inl x), l3, l4] (.inl x :: st) w Q := zR_go (zst zT_43_34 rfl)
theorem zT_43_35 : zT 43 35 = some (.if_icmp .ne 58, 3, 0, []) := by decide +kernel
theorem zr_43_35 {l0 l1 l2 l3 l4 : Option zV} {x y : Int} {st : List zV} {w : zW} {Q : Option zV → zW → Prop}  : zR 43 35 [l0, l1, l2, l3, l4] (.inl y :: .inl x :: st) w Q = (if zN x ≠ zN y then zR 43 93 [l0, l1, l2, l3, l4] st w Q else zR 43 38 [l0, l1, l2, l3, l4] st w Q) := zR_if (zstB zT_43_35 rfl) (by simp [zcmp])
theorem zT_43_38 : zT 43 38 = some (.aload_n 0, 1, 0, []) := by decide +kernel
theorem zr_43_38 {l1 l2 l3 l4 : Option zV} {x : Option Nat} {st : List zV} {w : zW} {Q : Option zV → zW → Prop}  : zR 43 38 [some (.inr x), l1, l2, l3, l4] st w Q = zR 43 39 [some (.inr x), l1, l2, l3, l4] (.inr x :: st) w Q := zR_go (zst zT_43_38 rfl)
theorem zT_43_39 : zT 43 39 = some (.getfield 128, 3, 0, [(11, 45)]) := by decide +kernel
theorem zr_43_39 {l0 l1 l2 l3 l4 : Option zV} {h : Nat} {st : List zV} {w : zW} {Q : Option zV → zW → Prop} (hk : zk w h = 11) : zR 43 39 [l0, l1, l2, l3, l4] (.inr (some h) :: st) w Q = zR 43 42 [l0, l1, l2, l3, l4] (.inr (zp w 117 h) :: st) w Q := zR_go (zst zT_43_39 (zget_r hk rfl))
theorem zT_43_42 : zT 43 42 = some (.iload_n 3, 1, 0, []) := by decide +kernel
theorem zr_43_42 {l0 l1 l2 l4 : Option zV} {x : Int} {st : List zV} {w : zW} {Q : Option zV → zW → Prop}  : zR 43 42 [l0, l1, l2, some (.inl x), l4] st w Q = zR 43 43 [l0, l1, l2, some (.inl x), l4] (.inl x :: st) w Q := zR_go (zst zT_43_42 rfl)
theorem zT_43_43 : zT 43 43 = some (.iconst 2, 1, 0, []) := by decide +kernel
theorem zr_43_43 {l0 l1 l2 l3 l4 : Option zV} {st : List zV} {w : zW} {Q : Option zV → zW → Prop}  : zR 43 43 [l0, l1, l2, l3, l4] st w Q = zR 43 44 [l0, l1, l2, l3, l4] (.inl 2 :: st) w Q := zR_go (zst zT_43_43 rfl)
theorem zT_43_44 : zT 43 44 = some (.iastore, 1, 0, []) := by decide +kernel
theorem zr_43_44 {l0 l1 l2 l3 l4 : Option zV} {j x : Int} {h : Nat} {st : List zV} {w : zW} {Q : Option zV → zW → Prop} (hk : zk w h = zNC ∧ 0 ≤ zN j ∧ zN j < zl w h) : zR 43 44 [l0, l1, l2, l3, l4] (.inl x :: .inl j :: .inr (some h) :: st) w Q = zR 43 45 [l0, l1, l2, l3, l4] st (zsa w h (zN j).toNat x) Q := zR_go (zst zT_43_44 (if_pos hk))
theorem zT_43_45 : zT 43 45 = some (.aload_n 0, 1, 0, []) := by decide +kernel
theorem zr_43_45 {l1 l2 l3 l4 : Option zV} {x : Option Nat} {st : List zV} {w : zW} {Q : Option zV → zW → Prop}  : zR 43 45 [some (.inr x), l1, l2, l3, l4] st w Q = zR 43 46 [some (.inr x), l1, l2, l3, l4] (.inr x :: st) w Q := zR_go (zst zT_43_45 rfl)
theorem zT_43_46 : zT 43 46 = some (.getfield 137, 3, 0, [(11, 48)]) := by decide +kernel
theorem zr_43_46 {l0 l1 l2 l3 l4 : Option zV} {h : Nat} {st : List zV} {w : zW} {Q : Option zV → zW → Prop} (hk : zk w h = 11) : zR 43 46 [l0, l1, l2, l3, l4] (.inr (some h) :: st) w Q = zR 43 49 [l0, l1, l2, l3, l4] (.inr (zp w 120 h) :: st) w Q := zR_go (zst zT_43_46 (zget_r hk rfl))
theorem zT_43_49 : zT 43 49 = some (.iload_n 3, 1, 0, []) := by decide +kernel
theorem zr_43_49 {l0 l1 l2 l4 : Option zV} {x : Int} {st : List zV} {w : zW} {Q : Option zV → zW → Prop}  : zR 43 49 [l0, l1, l2, some (.inl x), l4] st w Q = zR 43 50 [l0, l1, l2, some (.inl x), l4] (.inl x :: st) w Q := zR_go (zst zT_43_49 rfl)
theorem zT_43_50 : zT 43 50 = some (.aload_n 0, 1, 0, []) := by decide +kernel
theorem zr_43_50 {l1 l2 l3 l4 : Option zV} {x : Option Nat} {st : List zV} {w : zW} {Q : Option zV → zW → Prop}  : zR 43 50 [some (.inr x), l1, l2, l3, l4] st w Q = zR 43 51 [some (.inr x), l1, l2, l3, l4] (.inr x :: st) w Q := zR_go (zst zT_43_50 rfl)
theorem zT_43_51 : zT 43 51 = some (.getfield 163, 3, 0, [(11, 39)]) := by decide +kernel
theorem zr_43_51 {l0 l1 l2 l3 l4 : Option zV} {h : Nat} {st : List zV} {w : zW} {Q : Option zV → zW → Prop} (hk : zk w h = 11) : zR 43 51 [l0, l1, l2, l3, l4] (.inr (some h) :: st) w Q = zR 43 54 [l0, l1, l2, l3, l4] (.inl (zf w 111 h) :: st) w Q := zR_go (zst zT_43_51 (zget_i hk (Or.inl rfl)))
theorem zT_43_54 : zT 43 54 = some (.iastore, 1, 0, []) := by decide +kernel
theorem zr_43_54 {l0 l1 l2 l3 l4 : Option zV} {j x : Int} {h : Nat} {st : List zV} {w : zW} {Q : Option zV → zW → Prop} (hk : zk w h = zNC ∧ 0 ≤ zN j ∧ zN j < zl w h) : zR 43 54 [l0, l1, l2, l3, l4] (.inl x :: .inl j :: .inr (some h) :: st) w Q = zR 43 55 [l0, l1, l2, l3, l4] st (zsa w h (zN j).toNat x) Q := zR_go (zst zT_43_54 (if_pos hk))
theorem zT_43_55 : zT 43 55 = some (.iconst 0, 1, 0, []) := by decide +kernel
theorem zr_43_55 {l0 l1 l2 l3 l4 : Option zV} {st : List zV} {w : zW} {Q : Option zV → zW → Prop}  : zR 43 55 [l0, l1, l2, l3, l4] st w Q = zR 43 56 [l0, l1, l2, l3, l4] (.inl 0 :: st) w Q := zR_go (zst zT_43_55 rfl)
theorem zT_43_56 : zT 43 56 = some (.istore 4, 2, 0, []) := by decide +kernel
theorem zr_43_56 {l0 l1 l2 l3 l4 : Option zV} {x : Int} {st : List zV} {w : zW} {Q : Option zV → zW → Prop}  : zR 43 56 [l0, l1, l2, l3, l4] (.inl x :: st) w Q = zR 43 58 [l0, l1, l2, l3, some (.inl x)] st w Q := zR_go (zst zT_43_56 rfl)
theorem zT_43_58 : zT 43 58 = some (.iload 4, 2, 0, []) := by decide +kernel
theorem zr_43_58 {l0 l1 l2 l3 : Option zV} {x : Int} {st : List zV} {w : zW} {Q : Option zV → zW → Prop}  : zR 43 58 [l0, l1, l2, l3, some (.inl x)] st w Q = zR 43 60 [l0, l1, l2, l3, some (.inl x)] (.inl x :: st) w Q := zR_go (zst zT_43_58 rfl)
theorem zT_43_60 : zT 43 60 = some (.aload_n 0, 1, 0, []) := by decide +kernel
theorem zr_43_60 {l1 l2 l3 l4 : Option zV} {x : Option Nat} {st : List zV} {w : zW} {Q : Option zV → zW → Prop}  : zR 43 60 [some (.inr x), l1, l2, l3, l4] st w Q = zR 43 61 [some (.inr x), l1, l2, l3, l4] (.inr x :: st) w Q := zR_go (zst zT_43_60 rfl)
theorem zT_43_61 : zT 43 61 = some (.getfield 163, 3, 0, [(11, 39)]) := by decide +kernel
theorem zr_43_61 {l0 l1 l2 l3 l4 : Option zV} {h : Nat} {st : List zV} {w : zW} {Q : Option zV → zW → Prop} (hk : zk w h = 11) : zR 43 61 [l0, l1, l2, l3, l4] (.inr (some h) :: st) w Q = zR 43 64 [l0, l1, l2, l3, l4] (.inl (zf w 111 h) :: st) w Q := zR_go (zst zT_43_61 (zget_i hk (Or.inl rfl)))
theorem zT_43_64 : zT 43 64 = some (.if_icmp .ge 28, 3, 0, []) := by decide +kernel
theorem zr_43_64 {l0 l1 l2 l3 l4 : Option zV} {x y : Int} {st : List zV} {w : zW} {Q : Option zV → zW → Prop}  : zR 43 64 [l0, l1, l2, l3, l4] (.inl y :: .inl x :: st) w Q = (if zN y ≤ zN x then zR 43 92 [l0, l1, l2, l3, l4] st w Q else zR 43 67 [l0, l1, l2, l3, l4] st w Q) := zR_if (zstB zT_43_64 rfl) (by simp [zcmp])
theorem zT_43_67 : zT 43 67 = some (.aload_n 0, 1, 0, []) := by decide +kernel
theorem zr_43_67 {l1 l2 l3 l4 : Option zV} {x : Option Nat} {st : List zV} {w : zW} {Q : Option zV → zW → Prop}  : zR 43 67 [some (.inr x), l1, l2, l3, l4] st w Q = zR 43 68 [some (.inr x), l1, l2, l3, l4] (.inr x :: st) w Q := zR_go (zst zT_43_67 rfl)
theorem zT_43_68 : zT 43 68 = some (.getfield 140, 3, 0, [(11, 49)]) := by decide +kernel
theorem zr_43_68 {l0 l1 l2 l3 l4 : Option zV} {h : Nat} {st : List zV} {w : zW} {Q : Option zV → zW → Prop} (hk : zk w h = 11) : zR 43 68 [l0, l1, l2, l3, l4] (.inr (some h) :: st) w Q = zR 43 71 [l0, l1, l2, l3, l4] (.inr (zp w 121 h) :: st) w Q := zR_go (zst zT_43_68 (zget_r hk rfl))
theorem zT_43_71 : zT 43 71 = some (.bipush 32, 2, 0, []) := by decide +kernel
theorem zr_43_71 {l0 l1 l2 l3 l4 : Option zV} {st : List zV} {w : zW} {Q : Option zV → zW → Prop}  : zR 43 71 [l0, l1, l2, l3, l4] st w Q = zR 43 73 [l0, l1, l2, l3, l4] (.inl 32 :: st) w Q := zR_go (zst zT_43_71 rfl)
theorem zT_43_73 : zT 43 73 = some (.iload_n 3, 1, 0, []) := by decide +kernel
theorem zr_43_73 {l0 l1 l2 l4 : Option zV} {x : Int} {st : List zV} {w : zW} {Q : Option zV → zW → Prop}  : zR 43 73 [l0, l1, l2, some (.inl x), l4] st w Q = zR 43 74 [l0, l1, l2, some (.inl x), l4] (.inl x :: st) w Q := zR_go (zst zT_43_73 rfl)
theorem zT_43_74 : zT 43 74 = some (.imul, 1, 0, []) := by decide +kernel
theorem zr_43_74 {l0 l1 l2 l3 l4 : Option zV} {x y : Int} {st : List zV} {w : zW} {Q : Option zV → zW → Prop}  : zR 43 74 [l0, l1, l2, l3, l4] (.inl y :: .inl x :: st) w Q = zR 43 75 [l0, l1, l2, l3, l4] (.inl (x * y) :: st) w Q := zR_go (zst zT_43_74 rfl)
theorem zT_43_75 : zT 43 75 = some (.iload 4, 2, 0, []) := by decide +kernel
theorem zr_43_75 {l0 l1 l2 l3 : Option zV} {x : Int} {st : List zV} {w : zW} {Q : Option zV → zW → Prop}  : zR 43 75 [l0, l1, l2, l3, some (.inl x)] st w Q = zR 43 77 [l0, l1, l2, l3, some (.inl x)] (.inl x :: st) w Q := zR_go (zst zT_43_75 rfl)
theorem zT_43_77 : zT 43 77 = some (.iadd, 1, 0, []) := by decide +kernel
theorem zr_43_77 {l0 l1 l2 l3 l4 : Option zV} {x y : Int} {st : List zV} {w : zW} {Q : Option zV → zW → Prop}  : zR 43 77 [l0, l1, l2, l3, l4] (.inl y :: .inl x :: st) w Q = zR 43 78 [l0, l1, l2, l3, l4] (.inl (x + y) :: st) w Q := zR_go (zst zT_43_77 rfl)
theorem zT_43_78 : zT 43 78 = some (.aload_n 0, 1, 0, []) := by decide +kernel
theorem zr_43_78 {l1 l2 l3 l4 : Option zV} {x : Option Nat} {st : List zV} {w : zW} {Q : Option zV → zW → Prop}  : zR 43 78 [some (.inr x), l1, l2, l3, l4] st w Q = zR 43 79 [some (.inr x), l1, l2, l3, l4] (.inr x :: st) w Q := zR_go (zst zT_43_78 rfl)
theorem zT_43_79 : zT 43 79 = some (.getfield 113, 3, 0, [(11, 38)]) := by decide +kernel
theorem zr_43_79 {l0 l1 l2 l3 l4 : Option zV} {h : Nat} {st : List zV} {w : zW} {Q : Option zV → zW → Prop} (hk : zk w h = 11) : zR 43 79 [l0, l1, l2, l3, l4] (.inr (some h) :: st) w Q = zR 43 82 [l0, l1, l2, l3, l4] (.inr (zp w 110 h) :: st) w Q := zR_go (zst zT_43_79 (zget_r hk rfl))
theorem zT_43_82 : zT 43 82 = some (.iload 4, 2, 0, []) := by decide +kernel
theorem zr_43_82 {l0 l1 l2 l3 : Option zV} {x : Int} {st : List zV} {w : zW} {Q : Option zV → zW → Prop}  : zR 43 82 [l0, l1, l2, l3, some (.inl x)] st w Q = zR 43 84 [l0, l1, l2, l3, some (.inl x)] (.inl x :: st) w Q := zR_go (zst zT_43_82 rfl)
theorem zT_43_84 : zT 43 84 = some (.iaload, 1, 0, []) := by decide +kernel
theorem zr_43_84 {l0 l1 l2 l3 l4 : Option zV} {j : Int} {h : Nat} {st : List zV} {w : zW} {Q : Option zV → zW → Prop} (hk : (zk w h = zNC ∨ zk w h = zNC + 2) ∧ 0 ≤ zN j ∧ zN j < zl w h) : zR 43 84 [l0, l1, l2, l3, l4] (.inl j :: .inr (some h) :: st) w Q = zR 43 85 [l0, l1, l2, l3, l4] (.inl (za w h (zN j).toNat) :: st) w Q := zR_go (zst zT_43_84 (if_pos hk))
theorem zT_43_85 : zT 43 85 = some (.iastore, 1, 0, []) := by decide +kernel
theorem zr_43_85 {l0 l1 l2 l3 l4 : Option zV} {j x : Int} {h : Nat} {st : List zV} {w : zW} {Q : Option zV → zW → Prop} (hk : zk w h = zNC ∧ 0 ≤ zN j ∧ zN j < zl w h) : zR 43 85 [l0, l1, l2, l3, l4] (.inl x :: .inl j :: .inr (some h) :: st) w Q = zR 43 86 [l0, l1, l2, l3, l4] st (zsa w h (zN j).toNat x) Q := zR_go (zst zT_43_85 (if_pos hk))
theorem zT_43_86 : zT 43 86 = some (.iinc 4 1, 3, 0, []) := by decide +kernel
theorem zr_43_86 {l0 l1 l2 l3 : Option zV} {x : Int} {st : List zV} {w : zW} {Q : Option zV → zW → Prop}  : zR 43 86 [l0, l1, l2, l3, some (.inl x)] st w Q = zR 43 89 [l0, l1, l2, l3, some (.inl (x + 1))] st w Q := zR_go (zst zT_43_86 rfl)
theorem zT_43_89 : zT 43 89 = some (.goto (-31), 3, 0, []) := by decide +kernel
theorem zr_43_89 {l0 l1 l2 l3 l4 : Option zV} {st : List zV} {w : zW} {Q : Option zV → zW → Prop}  : zR 43 89 [l0, l1, l2, l3, l4] st w Q = zR 43 58 [l0, l1, l2, l3, l4] st w Q := zR_go (zst zT_43_89 rfl)
theorem zT_43_92 : zT 43 92 = some (.return_, 1, 0, []) := by decide +kernel
theorem zr_43_92 {l0 l1 l2 l3 l4 : Option zV} {w : zW} {Q : Option zV → zW → Prop} : zR 43 92 [l0, l1, l2, l3, l4] [] w Q = Q none w := zR_ret (zst zT_43_92 rfl)
theorem zT_43_93 : zT 43 93 = some (.iinc 3 1, 3, 0, []) := by decide +kernel
theorem zr_43_93 {l0 l1 l2 l4 : Option zV} {x : Int} {st : List zV} {w : zW} {Q : Option zV → zW → Prop}  : zR 43 93 [l0, l1, l2, some (.inl x), l4] st w Q = zR 43 96 [l0, l1, l2, some (.inl (x + 1)), l4] st w Q := zR_go (zst zT_43_93 rfl)
theorem zT_43_96 : zT 43 96 = some (.goto (-94), 3, 0, []) := by decide +kernel
theorem zr_43_96 {l0 l1 l2 l3 l4 : Option zV} {st : List zV} {w : zW} {Q : Option zV → zW → Prop}  : zR 43 96 [l0, l1, l2, l3, l4] st w Q = zR 43 2 [l0, l1, l2, l3, l4] st w Q := zR_go (zst zT_43_96 rfl)
theorem zT_43_99 : zT 43 99 = some (.return_, 1, 0, []) := by decide +kernel
theorem zr_43_99 {l0 l1 l2 l3 l4 : Option zV} {w : zW} {Q : Option zV → zW → Prop} : zR 43 99 [l0, l1, l2, l3, l4] [] w Q = Q none w := zR_ret (zst zT_43_99 rfl)
theorem zT_44_0 : zT 44 0 = some (.aload_n 0, 1, 0, []) := by decide +kernel
theorem zr_44_0 {l1 l2 l3 l4 l5 l6 l7 : Option zV} {x : Option Nat} {st : List zV} {w : zW} {Q : Option zV → zW → Prop}  : zR 44 0 [some (.inr x), l1, l2, l3, l4, l5, l6, l7] st w Q = zR 44 1 [some (.inr x), l1, l2, l3, l4, l5, l6, l7] (.inr x :: st) w Q := zR_go (zst zT_44_0 rfl)
theorem zT_44_1 : zT 44 1 = some (.getfield 110, 3, 0, [(11, 37)]) := by decide +kernel
theorem zr_44_1 {l0 l1 l2 l3 l4 l5 l6 l7 : Option zV} {h : Nat} {st : List zV} {w : zW} {Q : Option zV → zW → Prop} (hk : zk w h = 11) : zR 44 1 [l0, l1, l2, l3, l4, l5, l6, l7] (.inr (some h) :: st) w Q = zR 44 4 [l0, l1, l2, l3, l4, l5, l6, l7] (.inr (zp w 109 h) :: st) w Q := zR_go (zst zT_44_1 (zget_r hk rfl))
theorem zT_44_4 : zT 44 4 = some (.iconst 1, 1, 0, []) := by decide +kernel
theorem zr_44_4 {l0 l1 l2 l3 l4 l5 l6 l7 : Option zV} {st : List zV} {w : zW} {Q : Option zV → zW → Prop}  : zR 44 4 [l0, l1, l2, l3, l4, l5, l6, l7] st w Q = zR 44 5 [l0, l1, l2, l3, l4, l5, l6, l7] (.inl 1 :: st) w Q := zR_go (zst zT_44_4 rfl)
theorem zT_44_5 : zT 44 5 = some (.iaload, 1, 0, []) := by decide +kernel
theorem zr_44_5 {l0 l1 l2 l3 l4 l5 l6 l7 : Option zV} {j : Int} {h : Nat} {st : List zV} {w : zW} {Q : Option zV → zW → Prop} (hk : (zk w h = zNC ∨ zk w h = zNC + 2) ∧ 0 ≤ zN j ∧ zN j < zl w h) : zR 44 5 [l0, l1, l2, l3, l4, l5, l6, l7] (.inl j :: .inr (some h) :: st) w Q = zR 44 6 [l0, l1, l2, l3, l4, l5, l6, l7] (.inl (za w h (zN j).toNat) :: st) w Q := zR_go (zst zT_44_5 (if_pos hk))
theorem zT_44_6 : zT 44 6 = some (.istore_n 2, 1, 0, []) := by decide +kernel
theorem zr_44_6 {l0 l1 l2 l3 l4 l5 l6 l7 : Option zV} {x : Int} {st : List zV} {w : zW} {Q : Option zV → zW → Prop}  : zR 44 6 [l0, l1, l2, l3, l4, l5, l6, l7] (.inl x :: st) w Q = zR 44 7 [l0, l1, some (.inl x), l3, l4, l5, l6, l7] st w Q := zR_go (zst zT_44_6 rfl)
theorem zT_44_7 : zT 44 7 = some (.iload_n 2, 1, 0, []) := by decide +kernel
theorem zr_44_7 {l0 l1 l3 l4 l5 l6 l7 : Option zV} {x : Int} {st : List zV} {w : zW} {Q : Option zV → zW → Prop}  : zR 44 7 [l0, l1, some (.inl x), l3, l4, l5, l6, l7] st w Q = zR 44 8 [l0, l1, some (.inl x), l3, l4, l5, l6, l7] (.inl x :: st) w Q := zR_go (zst zT_44_7 rfl)
theorem zT_44_8 : zT 44 8 = some (.bipush 63, 2, 0, []) := by decide +kernel
theorem zr_44_8 {l0 l1 l2 l3 l4 l5 l6 l7 : Option zV} {st : List zV} {w : zW} {Q : Option zV → zW → Prop}  : zR 44 8 [l0, l1, l2, l3, l4, l5, l6, l7] st w Q = zR 44 10 [l0, l1, l2, l3, l4, l5, l6, l7] (.inl 63 :: st) w Q := zR_go (zst zT_44_8 rfl)
theorem zT_44_10 : zT 44 10 = some (.if_icmp .le 4, 3, 0, []) := by decide +kernel
theorem zr_44_10 {l0 l1 l2 l3 l4 l5 l6 l7 : Option zV} {x y : Int} {st : List zV} {w : zW} {Q : Option zV → zW → Prop}  : zR 44 10 [l0, l1, l2, l3, l4, l5, l6, l7] (.inl y :: .inl x :: st) w Q = (if zN x ≤ zN y then zR 44 14 [l0, l1, l2, l3, l4, l5, l6, l7] st w Q else zR 44 13 [l0, l1, l2, l3, l4, l5, l6, l7] st w Q) := zR_if (zstB zT_44_10 rfl) (by simp [zcmp])
theorem zT_44_13 : zT 44 13 = some (.return_, 1, 0, []) := by decide +kernel
theorem zr_44_13 {l0 l1 l2 l3 l4 l5 l6 l7 : Option zV} {w : zW} {Q : Option zV → zW → Prop} : zR 44 13 [l0, l1, l2, l3, l4, l5, l6, l7] [] w Q = Q none w := zR_ret (zst zT_44_13 rfl)
theorem zT_44_14 : zT 44 14 = some (.bipush 64, 2, 0, []) := by decide +kernel
theorem zr_44_14 {l0 l1 l2 l3 l4 l5 l6 l7 : Option zV} {st : List zV} {w : zW} {Q : Option zV → zW → Prop}  : zR 44 14 [l0, l1, l2, l3, l4, l5, l6, l7] st w Q = zR 44 16 [l0, l1, l2, l3, l4, l5, l6, l7] (.inl 64 :: st) w Q := zR_go (zst zT_44_14 rfl)
theorem zT_44_16 : zT 44 16 = some (.iload_n 1, 1, 0, []) := by decide +kernel
theorem zr_44_16 {l0 l2 l3 l4 l5 l6 l7 : Option zV} {x : Int} {st : List zV} {w : zW} {Q : Option zV → zW → Prop}  : zR 44 16 [l0, some (.inl x), l2, l3, l4, l5, l6, l7] st w Q = zR 44 17 [l0, some (.inl x), l2, l3, l4, l5, l6, l7] (.inl x :: st) w Q := zR_go (zst zT_44_16 rfl)
theorem zT_44_17 : zT 44 17 = some (.imul, 1, 0, []) := by decide +kernel
theorem zr_44_17 {l0 l1 l2 l3 l4 l5 l6 l7 : Option zV} {x y : Int} {st : List zV} {w : zW} {Q : Option zV → zW → Prop}  : zR 44 17 [l0, l1, l2, l3, l4, l5, l6, l7] (.inl y :: .inl x :: st) w Q = zR 44 18 [l0, l1, l2, l3, l4, l5, l6, l7] (.inl (x * y) :: st) w Q := zR_go (zst zT_44_17 rfl)
theorem zT_44_18 : zT 44 18 = some (.iload_n 2, 1, 0, []) := by decide +kernel
theorem zr_44_18 {l0 l1 l3 l4 l5 l6 l7 : Option zV} {x : Int} {st : List zV} {w : zW} {Q : Option zV → zW → Prop}  : zR 44 18 [l0, l1, some (.inl x), l3, l4, l5, l6, l7] st w Q = zR 44 19 [l0, l1, some (.inl x), l3, l4, l5, l6, l7] (.inl x :: st) w Q := zR_go (zst zT_44_18 rfl)
theorem zT_44_19 : zT 44 19 = some (.iadd, 1, 0, []) := by decide +kernel
theorem zr_44_19 {l0 l1 l2 l3 l4 l5 l6 l7 : Option zV} {x y : Int} {st : List zV} {w : zW} {Q : Option zV → zW → Prop}  : zR 44 19 [l0, l1, l2, l3, l4, l5, l6, l7] (.inl y :: .inl x :: st) w Q = zR 44 20 [l0, l1, l2, l3, l4, l5, l6, l7] (.inl (x + y) :: st) w Q := zR_go (zst zT_44_19 rfl)
theorem zT_44_20 : zT 44 20 = some (.istore_n 3, 1, 0, []) := by decide +kernel
theorem zr_44_20 {l0 l1 l2 l3 l4 l5 l6 l7 : Option zV} {x : Int} {st : List zV} {w : zW} {Q : Option zV → zW → Prop}  : zR 44 20 [l0, l1, l2, l3, l4, l5, l6, l7] (.inl x :: st) w Q = zR 44 21 [l0, l1, l2, some (.inl x), l4, l5, l6, l7] st w Q := zR_go (zst zT_44_20 rfl)
theorem zT_44_21 : zT 44 21 = some (.aload_n 0, 1, 0, []) := by decide +kernel
theorem zr_44_21 {l1 l2 l3 l4 l5 l6 l7 : Option zV} {x : Option Nat} {st : List zV} {w : zW} {Q : Option zV → zW → Prop}  : zR 44 21 [some (.inr x), l1, l2, l3, l4, l5, l6, l7] st w Q = zR 44 22 [some (.inr x), l1, l2, l3, l4, l5, l6, l7] (.inr x :: st) w Q := zR_go (zst zT_44_21 rfl)
theorem zT_44_22 : zT 44 22 = some (.getfield 110, 3, 0, [(11, 37)]) := by decide +kernel
theorem zr_44_22 {l0 l1 l2 l3 l4 l5 l6 l7 : Option zV} {h : Nat} {st : List zV} {w : zW} {Q : Option zV → zW → Prop} (hk : zk w h = 11) : zR 44 22 [l0, l1, l2, l3, l4, l5, l6, l7] (.inr (some h) :: st) w Q = zR 44 25 [l0, l1, l2, l3, l4, l5, l6, l7] (.inr (zp w 109 h) :: st) w Q := zR_go (zst zT_44_22 (zget_r hk rfl))
theorem zT_44_25 : zT 44 25 = some (.iconst 2, 1, 0, []) := by decide +kernel
theorem zr_44_25 {l0 l1 l2 l3 l4 l5 l6 l7 : Option zV} {st : List zV} {w : zW} {Q : Option zV → zW → Prop}  : zR 44 25 [l0, l1, l2, l3, l4, l5, l6, l7] st w Q = zR 44 26 [l0, l1, l2, l3, l4, l5, l6, l7] (.inl 2 :: st) w Q := zR_go (zst zT_44_25 rfl)
theorem zT_44_26 : zT 44 26 = some (.iaload, 1, 0, []) := by decide +kernel
theorem zr_44_26 {l0 l1 l2 l3 l4 l5 l6 l7 : Option zV} {j : Int} {h : Nat} {st : List zV} {w : zW} {Q : Option zV → zW → Prop} (hk : (zk w h = zNC ∨ zk w h = zNC + 2) ∧ 0 ≤ zN j ∧ zN j < zl w h) : zR 44 26 [l0, l1, l2, l3, l4, l5, l6, l7] (.inl j :: .inr (some h) :: st) w Q = zR 44 27 [l0, l1, l2, l3, l4, l5, l6, l7] (.inl (za w h (zN j).toNat) :: st) w Q := zR_go (zst zT_44_26 (if_pos hk))
theorem zT_44_27 : zT 44 27 = some (.istore 4, 2, 0, []) := by decide +kernel
theorem zr_44_27 {l0 l1 l2 l3 l4 l5 l6 l7 : Option zV} {x : Int} {st : List zV} {w : zW} {Q : Option zV → zW → Prop}  : zR 44 27 [l0, l1, l2, l3, l4, l5, l6, l7] (.inl x :: st) w Q = zR 44 29 [l0, l1, l2, l3, some (.inl x), l5, l6, l7] st w Q := zR_go (zst zT_44_27 rfl)
theorem zT_44_29 : zT 44 29 = some (.iload 4, 2, 0, []) := by decide +kernel
theorem zr_44_29 {l0 l1 l2 l3 l5 l6 l7 : Option zV} {x : Int} {st : List zV} {w : zW} {Q : Option zV → zW → Prop}  : zR 44 29 [l0, l1, l2, l3, some (.inl x), l5, l6, l7] st w Q = zR 44 31 [l0, l1, l2, l3, some (.inl x), l5, l6, l7] (.inl x :: st) w Q := zR_go (zst zT_44_29 rfl)
theorem zT_44_31 : zT 44 31 = some (.bipush 16, 2, 0, []) := by decide +kernel
theorem zr_44_31 {l0 l1 l2 l3 l4 l5 l6 l7 : Option zV} {st : List zV} {w : zW} {Q : Option zV → zW → Prop}  : zR 44 31 [l0, l1, l2, l3, l4, l5, l6, l7] st w Q = zR 44 33 [l0, l1, l2, l3, l4, l5, l6, l7] (.inl 16 :: st) w Q := zR_go (zst zT_44_31 rfl)
theorem zT_44_33 : zT 44 33 = some (.idiv, 1, 0, []) := by decide +kernel
theorem zr_44_33 {l0 l1 l2 l3 l4 l5 l6 l7 : Option zV} {x y : Int} {st : List zV} {w : zW} {Q : Option zV → zW → Prop} (hy : ¬ zN y = 0) : zR 44 33 [l0, l1, l2, l3, l4, l5, l6, l7] (.inl y :: .inl x :: st) w Q = zR 44 34 [l0, l1, l2, l3, l4, l5, l6, l7] (.inl (zo_div x y) :: st) w Q := zR_go (zst zT_44_33 (if_neg hy))
theorem zT_44_34 : zT 44 34 = some (.iconst 4, 1, 0, []) := by decide +kernel
theorem zr_44_34 {l0 l1 l2 l3 l4 l5 l6 l7 : Option zV} {st : List zV} {w : zW} {Q : Option zV → zW → Prop}  : zR 44 34 [l0, l1, l2, l3, l4, l5, l6, l7] st w Q = zR 44 35 [l0, l1, l2, l3, l4, l5, l6, l7] (.inl 4 :: st) w Q := zR_go (zst zT_44_34 rfl)
theorem zT_44_35 : zT 44 35 = some (.irem, 1, 0, []) := by decide +kernel
theorem zr_44_35 {l0 l1 l2 l3 l4 l5 l6 l7 : Option zV} {x y : Int} {st : List zV} {w : zW} {Q : Option zV → zW → Prop} (hy : ¬ zN y = 0) : zR 44 35 [l0, l1, l2, l3, l4, l5, l6, l7] (.inl y :: .inl x :: st) w Q = zR 44 36 [l0, l1, l2, l3, l4, l5, l6, l7] (.inl (zo_rem x y) :: st) w Q := zR_go (zst zT_44_35 (if_neg hy))
theorem zT_44_36 : zT 44 36 = some (.istore 5, 2, 0, []) := by decide +kernel
theorem zr_44_36 {l0 l1 l2 l3 l4 l5 l6 l7 : Option zV} {x : Int} {st : List zV} {w : zW} {Q : Option zV → zW → Prop}  : zR 44 36 [l0, l1, l2, l3, l4, l5, l6, l7] (.inl x :: st) w Q = zR 44 38 [l0, l1, l2, l3, l4, some (.inl x), l6, l7] st w Q := zR_go (zst zT_44_36 rfl)
theorem zT_44_38 : zT 44 38 = some (.iload 4, 2, 0, []) := by decide +kernel
theorem zr_44_38 {l0 l1 l2 l3 l5 l6 l7 : Option zV} {x : Int} {st : List zV} {w : zW} {Q : Option zV → zW → Prop}  : zR 44 38 [l0, l1, l2, l3, some (.inl x), l5, l6, l7] st w Q = zR 44 40 [l0, l1, l2, l3, some (.inl x), l5, l6, l7] (.inl x :: st) w Q := zR_go (zst zT_44_38 rfl)
theorem zT_44_40 : zT 44 40 = some (.sipush 128, 3, 0, []) := by decide +kernel
theorem zr_44_40 {l0 l1 l2 l3 l4 l5 l6 l7 : Option zV} {st : List zV} {w : zW} {Q : Option zV → zW → Prop}  : zR 44 40 [l0, l1, l2, l3, l4, l5, l6, l7] st w Q = zR 44 43 [l0, l1, l2, l3, l4, l5, l6, l7] (.inl 128 :: st) w Q := zR_go (zst zT_44_40 rfl)
theorem zT_44_43 : zT 44 43 = some (.if_icmp .lt 24, 3, 0, []) := by decide +kernel
theorem zr_44_43 {l0 l1 l2 l3 l4 l5 l6 l7 : Option zV} {x y : Int} {st : List zV} {w : zW} {Q : Option zV → zW → Prop}  : zR 44 43 [l0, l1, l2, l3, l4, l5, l6, l7] (.inl y :: .inl x :: st) w Q = (if zN x < zN y then zR 44 67 [l0, l1, l2, l3, l4, l5, l6, l7] st w Q else zR 44 46 [l0, l1, l2, l3, l4, l5, l6, l7] st w Q) := zR_if (zstB zT_44_43 rfl) (by simp [zcmp])
theorem zT_44_46 : zT 44 46 = some (.aload_n 0, 1, 0, []) := by decide +kernel
theorem zr_44_46 {l1 l2 l3 l4 l5 l6 l7 : Option zV} {x : Option Nat} {st : List zV} {w : zW} {Q : Option zV → zW → Prop}  : zR 44 46 [some (.inr x), l1, l2, l3, l4, l5, l6, l7] st w Q = zR 44 47 [some (.inr x), l1, l2, l3, l4, l5, l6, l7] (.inr x :: st) w Q := zR_go (zst zT_44_46 rfl)
theorem zT_44_47 : zT 44 47 = some (.getfield 35, 3, 0, [(11, 9)]) := by decide +kernel
theorem zr_44_47 {l0 l1 l2 l3 l4 l5 l6 l7 : Option zV} {h : Nat} {st : List zV} {w : zW} {Q : Option zV → zW → Prop} (hk : zk w h = 11) : zR 44 47 [l0, l1, l2, l3, l4, l5, l6, l7] (.inr (some h) :: st) w Q = zR 44 50 [l0, l1, l2, l3, l4, l5, l6, l7] (.inr (zp w 81 h) :: st) w Q := zR_go (zst zT_44_47 (zget_r hk rfl))
theorem zT_44_50 : zT 44 50 = some (.iload_n 3, 1, 0, []) := by decide +kernel
theorem zr_44_50 {l0 l1 l2 l4 l5 l6 l7 : Option zV} {x : Int} {st : List zV} {w : zW} {Q : Option zV → zW → Prop}  : zR 44 50 [l0, l1, l2, some (.inl x), l4, l5, l6, l7] st w Q = zR 44 51 [l0, l1, l2, some (.inl x), l4, l5, l6, l7] (.inl x :: st) w Q := zR_go (zst zT_44_50 rfl)
theorem zT_44_51 : zT 44 51 = some (.iconst 1, 1, 0, []) := by decide +kernel
theorem zr_44_51 {l0 l1 l2 l3 l4 l5 l6 l7 : Option zV} {st : List zV} {w : zW} {Q : Option zV → zW → Prop}  : zR 44 51 [l0, l1, l2, l3, l4, l5, l6, l7] st w Q = zR 44 52 [l0, l1, l2, l3, l4, l5, l6, l7] (.inl 1 :: st) w Q := zR_go (zst zT_44_51 rfl)
theorem zT_44_52 : zT 44 52 = some (.iastore, 1, 0, []) := by decide +kernel
theorem zr_44_52 {l0 l1 l2 l3 l4 l5 l6 l7 : Option zV} {j x : Int} {h : Nat} {st : List zV} {w : zW} {Q : Option zV → zW → Prop} (hk : zk w h = zNC ∧ 0 ≤ zN j ∧ zN j < zl w h) : zR 44 52 [l0, l1, l2, l3, l4, l5, l6, l7] (.inl x :: .inl j :: .inr (some h) :: st) w Q = zR 44 53 [l0, l1, l2, l3, l4, l5, l6, l7] st (zsa w h (zN j).toNat x) Q := zR_go (zst zT_44_52 (if_pos hk))
theorem zT_44_53 : zT 44 53 = some (.aload_n 0, 1, 0, []) := by decide +kernel
theorem zr_44_53 {l1 l2 l3 l4 l5 l6 l7 : Option zV} {x : Option Nat} {st : List zV} {w : zW} {Q : Option zV → zW → Prop}  : zR 44 53 [some (.inr x), l1, l2, l3, l4, l5, l6, l7] st w Q = zR 44 54 [some (.inr x), l1, l2, l3, l4, l5, l6, l7] (.inr x :: st) w Q := zR_go (zst zT_44_53 rfl)
theorem zT_44_54 : zT 44 54 = some (.getfield 38, 3, 0, [(11, 10)]) := by decide +kernel
theorem zr_44_54 {l0 l1 l2 l3 l4 l5 l6 l7 : Option zV} {h : Nat} {st : List zV} {w : zW} {Q : Option zV → zW → Prop} (hk : zk w h = 11) : zR 44 54 [l0, l1, l2, l3, l4, l5, l6, l7] (.inr (some h) :: st) w Q = zR 44 57 [l0, l1, l2, l3, l4, l5, l6, l7] (.inr (zp w 82 h) :: st) w Q := zR_go (zst zT_44_54 (zget_r hk rfl))
theorem zT_44_57 : zT 44 57 = some (.iload_n 3, 1, 0, []) := by decide +kernel
theorem zr_44_57 {l0 l1 l2 l4 l5 l6 l7 : Option zV} {x : Int} {st : List zV} {w : zW} {Q : Option zV → zW → Prop}  : zR 44 57 [l0, l1, l2, some (.inl x), l4, l5, l6, l7] st w Q = zR 44 58 [l0, l1, l2, some (.inl x), l4, l5, l6, l7] (.inl x :: st) w Q := zR_go (zst zT_44_57 rfl)
theorem zT_44_58 : zT 44 58 = some (.iload 4, 2, 0, []) := by decide +kernel
theorem zr_44_58 {l0 l1 l2 l3 l5 l6 l7 : Option zV} {x : Int} {st : List zV} {w : zW} {Q : Option zV → zW → Prop}  : zR 44 58 [l0, l1, l2, l3, some (.inl x), l5, l6, l7] st w Q = zR 44 60 [l0, l1, l2, l3, some (.inl x), l5, l6, l7] (.inl x :: st) w Q := zR_go (zst zT_44_58 rfl)
theorem zT_44_60 : zT 44 60 = some (.bipush 16, 2, 0, []) := by decide +kernel
theorem zr_44_60 {l0 l1 l2 l3 l4 l5 l6 l7 : Option zV} {st : List zV} {w : zW} {Q : Option zV → zW → Prop}  : zR 44 60 [l0, l1, l2, l3, l4, l5, l6, l7] st w Q = zR 44 62 [l0, l1, l2, l3, l4, l5, l6, l7] (.inl 16 :: st) w Q := zR_go (zst zT_44_60 rfl)
theorem zT_44_62 : zT 44 62 = some (.irem, 1, 0, []) := by decide +kernel
theorem zr_44_62 {l0 l1 l2 l3 l4 l5 l6 l7 : Option zV} {x y : Int} {st : List zV} {w : zW} {Q : Option zV → zW → Prop} (hy : ¬ zN y = 0) : zR 44 62 [l0, l1, l2, l3, l4, l5, l6, l7] (.inl y :: .inl x :: st) w Q = zR 44 63 [l0, l1, l2, l3, l4, l5, l6, l7] (.inl (zo_rem x y) :: st) w Q := zR_go (zst zT_44_62 (if_neg hy))
theorem zT_44_63 : zT 44 63 = some (.iastore, 1, 0, []) := by decide +kernel
theorem zr_44_63 {l0 l1 l2 l3 l4 l5 l6 l7 : Option zV} {j x : Int} {h : Nat} {st : List zV} {w : zW} {Q : Option zV → zW → Prop} (hk : zk w h = zNC ∧ 0 ≤ zN j ∧ zN j < zl w h) : zR 44 63 [l0, l1, l2, l3, l4, l5, l6, l7] (.inl x :: .inl j :: .inr (some h) :: st) w Q = zR 44 64 [l0, l1, l2, l3, l4, l5, l6, l7] st (zsa w h (zN j).toNat x) Q := zR_go (zst zT_44_63 (if_pos hk))
theorem zT_44_64 : zT 44 64 = some (.goto 45, 3, 0, []) := by decide +kernel
theorem zr_44_64 {l0 l1 l2 l3 l4 l5 l6 l7 : Option zV} {st : List zV} {w : zW} {Q : Option zV → zW → Prop}  : zR 44 64 [l0, l1, l2, l3, l4, l5, l6, l7] st w Q = zR 44 109 [l0, l1, l2, l3, l4, l5, l6, l7] st w Q := zR_go (zst zT_44_64 rfl)
theorem zT_44_67 : zT 44 67 = some (.aload_n 0, 1, 0, []) := by decide +kernel
theorem zr_44_67 {l1 l2 l3 l4 l5 l6 l7 : Option zV} {x : Option Nat} {st : List zV} {w : zW} {Q : Option zV → zW → Prop}  : zR 44 67 [some (.inr x), l1, l2, l3, l4, l5, l6, l7] st w Q = zR 44 68 [some (.inr x), l1, l2, l3, l4, l5, l6, l7] (.inr x :: st) w Q := zR_go (zst zT_44_67 rfl)
theorem zT_44_68 : zT 44 68 = some (.getfield 35, 3, 0, [(11, 9)]) := by decide +kernel
theorem zr_44_68 {l0 l1 l2 l3 l4 l5 l6 l7 : Option zV} {h : Nat} {st : List zV} {w : zW} {Q : Option zV → zW → Prop} (hk : zk w h = 11) : zR 44 68 [l0, l1, l2, l3, l4, l5, l6, l7] (.inr (some h) :: st) w Q = zR 44 71 [l0, l1, l2, l3, l4, l5, l6, l7] (.inr (zp w 81 h) :: st) w Q := zR_go (zst zT_44_68 (zget_r hk rfl))
theorem zT_44_71 : zT 44 71 = some (.iload_n 3, 1, 0, []) := by decide +kernel
theorem zr_44_71 {l0 l1 l2 l4 l5 l6 l7 : Option zV} {x : Int} {st : List zV} {w : zW} {Q : Option zV → zW → Prop}  : zR 44 71 [l0, l1, l2, some (.inl x), l4, l5, l6, l7] st w Q = zR 44 72 [l0, l1, l2, some (.inl x), l4, l5, l6, l7] (.inl x :: st) w Q := zR_go (zst zT_44_71 rfl)
theorem zT_44_72 : zT 44 72 = some (.iaload, 1, 0, []) := by decide +kernel
theorem zr_44_72 {l0 l1 l2 l3 l4 l5 l6 l7 : Option zV} {j : Int} {h : Nat} {st : List zV} {w : zW} {Q : Option zV → zW → Prop} (hk : (zk w h = zNC ∨ zk w h = zNC + 2) ∧ 0 ≤ zN j ∧ zN j < zl w h) : zR 44 72 [l0, l1, l2, l3, l4, l5, l6, l7] (.inl j :: .inr (some h) :: st) w Q = zR 44 73 [l0, l1, l2, l3, l4, l5, l6, l7] (.inl (za w h (zN j).toNat) :: st) w Q := zR_go (zst zT_44_72 (if_pos hk))
theorem zT_44_73 : zT 44 73 = some (.ifCond .eq 28, 3, 0, []) := by decide +kernel
theorem zr_44_73 {l0 l1 l2 l3 l4 l5 l6 l7 : Option zV} {x : Int} {st : List zV} {w : zW} {Q : Option zV → zW → Prop}  : zR 44 73 [l0, l1, l2, l3, l4, l5, l6, l7] (.inl x :: st) w Q = (if zN x = 0 then zR 44 101 [l0, l1, l2, l3, l4, l5, l6, l7] st w Q else zR 44 76 [l0, l1, l2, l3, l4, l5, l6, l7] st w Q) := zR_if (zstB zT_44_73 rfl) (by simp [zcmp])
theorem zT_44_76 : zT 44 76 = some (.aload_n 0, 1, 0, []) := by decide +kernel
theorem zr_44_76 {l1 l2 l3 l4 l5 l6 l7 : Option zV} {x : Option Nat} {st : List zV} {w : zW} {Q : Option zV → zW → Prop}  : zR 44 76 [some (.inr x), l1, l2, l3, l4, l5, l6, l7] st w Q = zR 44 77 [some (.inr x), l1, l2, l3, l4, l5, l6, l7] (.inr x :: st) w Q := zR_go (zst zT_44_76 rfl)
theorem zT_44_77 : zT 44 77 = some (.getfield 38, 3, 0, [(11, 10)]) := by decide +kernel
theorem zr_44_77 {l0 l1 l2 l3 l4 l5 l6 l7 : Option zV} {h : Nat} {st : List zV} {w : zW} {Q : Option zV → zW → Prop} (hk : zk w h = 11) : zR 44 77 [l0, l1, l2, l3, l4, l5, l6, l7] (.inr (some h) :: st) w Q = zR 44 80 [l0, l1, l2, l3, l4, l5, l6, l7] (.inr (zp w 82 h) :: st) w Q := zR_go (zst zT_44_77 (zget_r hk rfl))
theorem zT_44_80 : zT 44 80 = some (.iload_n 3, 1, 0, []) := by decide +kernel
theorem zr_44_80 {l0 l1 l2 l4 l5 l6 l7 : Option zV} {x : Int} {st : List zV} {w : zW} {Q : Option zV → zW → Prop}  : zR 44 80 [l0, l1, l2, some (.inl x), l4, l5, l6, l7] st w Q = zR 44 81 [l0, l1, l2, some (.inl x), l4, l5, l6, l7] (.inl x :: st) w Q := zR_go (zst zT_44_80 rfl)
theorem zT_44_81 : zT 44 81 = some (.iaload, 1, 0, []) := by decide +kernel
theorem zr_44_81 {l0 l1 l2 l3 l4 l5 l6 l7 : Option zV} {j : Int} {h : Nat} {st : List zV} {w : zW} {Q : Option zV → zW → Prop} (hk : (zk w h = zNC ∨ zk w h = zNC + 2) ∧ 0 ≤ zN j ∧ zN j < zl w h) : zR 44 81 [l0, l1, l2, l3, l4, l5, l6, l7] (.inl j :: .inr (some h) :: st) w Q = zR 44 82 [l0, l1, l2, l3, l4, l5, l6, l7] (.inl (za w h (zN j).toNat) :: st) w Q := zR_go (zst zT_44_81 (if_pos hk))
theorem zT_44_82 : zT 44 82 = some (.iload 4, 2, 0, []) := by decide +kernel
theorem zr_44_82 {l0 l1 l2 l3 l5 l6 l7 : Option zV} {x : Int} {st : List zV} {w : zW} {Q : Option zV → zW → Prop}  : zR 44 82 [l0, l1, l2, l3, some (.inl x), l5, l6, l7] st w Q = zR 44 84 [l0, l1, l2, l3, some (.inl x), l5, l6, l7] (.inl x :: st) w Q := zR_go (zst zT_44_82 rfl)
theorem zT_44_84 : zT 44 84 = some (.bipush 16, 2, 0, []) := by decide +kernel
theorem zr_44_84 {l0 l1 l2 l3 l4 l5 l6 l7 : Option zV} {st : List zV} {w : zW} {Q : Option zV → zW → Prop}  : zR 44 84 [l0, l1, l2, l3, l4, l5, l6, l7] st w Q = zR 44 86 [l0, l1, l2, l3, l4, l5, l6, l7] (.inl 16 :: st) w Q := zR_go (zst zT_44_84 rfl)
theorem zT_44_86 : zT 44 86 = some (.irem, 1, 0, []) := by decide +kernel
theorem zr_44_86 {l0 l1 l2 l3 l4 l5 l6 l7 : Option zV} {x y : Int} {st : List zV} {w : zW} {Q : Option zV → zW → Prop} (hy : ¬ zN y = 0) : zR 44 86 [l0, l1, l2, l3, l4, l5, l6, l7] (.inl y :: .inl x :: st) w Q = zR 44 87 [l0, l1, l2, l3, l4, l5, l6, l7] (.inl (zo_rem x y) :: st) w Q := zR_go (zst zT_44_86 (if_neg hy))
theorem zT_44_87 : zT 44 87 = some (.if_icmp .ne 14, 3, 0, []) := by decide +kernel
theorem zr_44_87 {l0 l1 l2 l3 l4 l5 l6 l7 : Option zV} {x y : Int} {st : List zV} {w : zW} {Q : Option zV → zW → Prop}  : zR 44 87 [l0, l1, l2, l3, l4, l5, l6, l7] (.inl y :: .inl x :: st) w Q = (if zN x ≠ zN y then zR 44 101 [l0, l1, l2, l3, l4, l5, l6, l7] st w Q else zR 44 90 [l0, l1, l2, l3, l4, l5, l6, l7] st w Q) := zR_if (zstB zT_44_87 rfl) (by simp [zcmp])
theorem zT_44_90 : zT 44 90 = some (.aload_n 0, 1, 0, []) := by decide +kernel
theorem zr_44_90 {l1 l2 l3 l4 l5 l6 l7 : Option zV} {x : Option Nat} {st : List zV} {w : zW} {Q : Option zV → zW → Prop}  : zR 44 90 [some (.inr x), l1, l2, l3, l4, l5, l6, l7] st w Q = zR 44 91 [some (.inr x), l1, l2, l3, l4, l5, l6, l7] (.inr x :: st) w Q := zR_go (zst zT_44_90 rfl)
theorem zT_44_91 : zT 44 91 = some (.getfield 41, 3, 0, [(11, 11)]) := by decide +kernel
theorem zr_44_91 {l0 l1 l2 l3 l4 l5 l6 l7 : Option zV} {h : Nat} {st : List zV} {w : zW} {Q : Option zV → zW → Prop} (hk : zk w h = 11) : zR 44 91 [l0, l1, l2, l3, l4, l5, l6, l7] (.inr (some h) :: st) w Q = zR 44 94 [l0, l1, l2, l3, l4, l5, l6, l7] (.inr (zp w 83 h) :: st) w Q := zR_go (zst zT_44_91 (zget_r hk rfl))
theorem zT_44_94 : zT 44 94 = some (.iload_n 3, 1, 0, []) := by decide +kernel
theorem zr_44_94 {l0 l1 l2 l4 l5 l6 l7 : Option zV} {x : Int} {st : List zV} {w : zW} {Q : Option zV → zW → Prop}  : zR 44 94 [l0, l1, l2, some (.inl x), l4, l5, l6, l7] st w Q = zR 44 95 [l0, l1, l2, some (.inl x), l4, l5, l6, l7] (.inl x :: st) w Q := zR_go (zst zT_44_94 rfl)
theorem zT_44_95 : zT 44 95 = some (.iaload, 1, 0, []) := by decide +kernel
theorem zr_44_95 {l0 l1 l2 l3 l4 l5 l6 l7 : Option zV} {j : Int} {h : Nat} {st : List zV} {w : zW} {Q : Option zV → zW → Prop} (hk : (zk w h = zNC ∨ zk w h = zNC + 2) ∧ 0 ≤ zN j ∧ zN j < zl w h) : zR 44 95 [l0, l1, l2, l3, l4, l5, l6, l7] (.inl j :: .inr (some h) :: st) w Q = zR 44 96 [l0, l1, l2, l3, l4, l5, l6, l7] (.inl (za w h (zN j).toNat) :: st) w Q := zR_go (zst zT_44_95 (if_pos hk))
theorem zT_44_96 : zT 44 96 = some (.iload 5, 2, 0, []) := by decide +kernel
theorem zr_44_96 {l0 l1 l2 l3 l4 l6 l7 : Option zV} {x : Int} {st : List zV} {w : zW} {Q : Option zV → zW → Prop}  : zR 44 96 [l0, l1, l2, l3, l4, some (.inl x), l6, l7] st w Q = zR 44 98 [l0, l1, l2, l3, l4, some (.inl x), l6, l7] (.inl x :: st) w Q := zR_go (zst zT_44_96 rfl)
theorem zT_44_98 : zT 44 98 = some (.if_icmp .eq 11, 3, 0, []) := by decide +kernel
theorem zr_44_98 {l0 l1 l2 l3 l4 l5 l6 l7 : Option zV} {x y : Int} {st : List zV} {w : zW} {Q : Option zV → zW → Prop}  : zR 44 98 [l0, l1, l2, l3, l4, l5, l6, l7] (.inl y :: .inl x :: st) w Q = (if zN x = zN y then zR 44 109 [l0, l1, l2, l3, l4, l5, l6, l7] st w Q else zR 44 101 [l0, l1, l2, l3, l4, l5, l6, l7] st w Q) := zR_if (zstB zT_44_98 rfl) (by simp [zcmp])
theorem zT_44_101 : zT 44 101 = some (.aload_n 0, 1, 0, []) := by decide +kernel
theorem zr_44_101 {l1 l2 l3 l4 l5 l6 l7 : Option zV} {x : Option Nat} {st : List zV} {w : zW} {Q : Option zV → zW → Prop}  : zR 44 101 [some (.inr x), l1, l2, l3, l4, l5, l6, l7] st w Q = zR 44 102 [some (.inr x), l1, l2, l3, l4, l5, l6, l7] (.inr x :: st) w Q := zR_go (zst zT_44_101 rfl)
theorem zT_44_102 : zT 44 102 = some (.getfield 35, 3, 0, [(11, 9)]) := by decide +kernel
theorem zr_44_102 {l0 l1 l2 l3 l4 l5 l6 l7 : Option zV} {h : Nat} {st : List zV} {w : zW} {Q : Option zV → zW → Prop} (hk : zk w h = 11) : zR 44 102 [l0, l1, l2, l3, l4, l5, l6, l7] (.inr (some h) :: st) w Q = zR 44 105 [l0, l1, l2, l3, l4, l5, l6, l7] (.inr (zp w 81 h) :: st) w Q := zR_go (zst zT_44_102 (zget_r hk rfl))
theorem zT_44_105 : zT 44 105 = some (.iload_n 3, 1, 0, []) := by decide +kernel
theorem zr_44_105 {l0 l1 l2 l4 l5 l6 l7 : Option zV} {x : Int} {st : List zV} {w : zW} {Q : Option zV → zW → Prop}  : zR 44 105 [l0, l1, l2, some (.inl x), l4, l5, l6, l7] st w Q = zR 44 106 [l0, l1, l2, some (.inl x), l4, l5, l6, l7] (.inl x :: st) w Q := zR_go (zst zT_44_105 rfl)
theorem zT_44_106 : zT 44 106 = some (.iconst 0, 1, 0, []) := by decide +kernel
theorem zr_44_106 {l0 l1 l2 l3 l4 l5 l6 l7 : Option zV} {st : List zV} {w : zW} {Q : Option zV → zW → Prop}  : zR 44 106 [l0, l1, l2, l3, l4, l5, l6, l7] st w Q = zR 44 107 [l0, l1, l2, l3, l4, l5, l6, l7] (.inl 0 :: st) w Q := zR_go (zst zT_44_106 rfl)
theorem zT_44_107 : zT 44 107 = some (.iastore, 1, 0, []) := by decide +kernel
theorem zr_44_107 {l0 l1 l2 l3 l4 l5 l6 l7 : Option zV} {j x : Int} {h : Nat} {st : List zV} {w : zW} {Q : Option zV → zW → Prop} (hk : zk w h = zNC ∧ 0 ≤ zN j ∧ zN j < zl w h) : zR 44 107 [l0, l1, l2, l3, l4, l5, l6, l7] (.inl x :: .inl j :: .inr (some h) :: st) w Q = zR 44 108 [l0, l1, l2, l3, l4, l5, l6, l7] st (zsa w h (zN j).toNat x) Q := zR_go (zst zT_44_107 (if_pos hk))
theorem zT_44_108 : zT 44 108 = some (.return_, 1, 0, []) := by decide +kernel
theorem zr_44_108 {l0 l1 l2 l3 l4 l5 l6 l7 : Option zV} {w : zW} {Q : Option zV → zW → Prop} : zR 44 108 [l0, l1, l2, l3, l4, l5, l6, l7] [] w Q = Q none w := zR_ret (zst zT_44_108 rfl)
theorem zT_44_109 : zT 44 109 = some (.aload_n 0, 1, 0, []) := by decide +kernel
theorem zr_44_109 {l1 l2 l3 l4 l5 l6 l7 : Option zV} {x : Option Nat} {st : List zV} {w : zW} {Q : Option zV → zW → Prop}  : zR 44 109 [some (.inr x), l1, l2, l3, l4, l5, l6, l7] st w Q = zR 44 110 [some (.inr x), l1, l2, l3, l4, l5, l6, l7] (.inr x :: st) w Q := zR_go (zst zT_44_109 rfl)
theorem zT_44_110 : zT 44 110 = some (.getfield 41, 3, 0, [(11, 11)]) := by decide +kernel
theorem zr_44_110 {l0 l1 l2 l3 l4 l5 l6 l7 : Option zV} {h : Nat} {st : List zV} {w : zW} {Q : Option zV → zW → Prop} (hk : zk w h = 11) : zR 44 110 [l0, l1, l2, l3, l4, l5, l6, l7] (.inr (some h) :: st) w Q = zR 44 113 [l0, l1, l2, l3, l4, l5, l6, l7] (.inr (zp w 83 h) :: st) w Q := zR_go (zst zT_44_110 (zget_r hk rfl))
theorem zT_44_113 : zT 44 113 = some (.iload_n 3, 1, 0, []) := by decide +kernel
theorem zr_44_113 {l0 l1 l2 l4 l5 l6 l7 : Option zV} {x : Int} {st : List zV} {w : zW} {Q : Option zV → zW → Prop}  : zR 44 113 [l0, l1, l2, some (.inl x), l4, l5, l6, l7] st w Q = zR 44 114 [l0, l1, l2, some (.inl x), l4, l5, l6, l7] (.inl x :: st) w Q := zR_go (zst zT_44_113 rfl)
theorem zT_44_114 : zT 44 114 = some (.iload 5, 2, 0, []) := by decide +kernel
theorem zr_44_114 {l0 l1 l2 l3 l4 l6 l7 : Option zV} {x : Int} {st : List zV} {w : zW} {Q : Option zV → zW → Prop}  : zR 44 114 [l0, l1, l2, l3, l4, some (.inl x), l6, l7] st w Q = zR 44 116 [l0, l1, l2, l3, l4, some (.inl x), l6, l7] (.inl x :: st) w Q := zR_go (zst zT_44_114 rfl)
theorem zT_44_116 : zT 44 116 = some (.iconst 1, 1, 0, []) := by decide +kernel
theorem zr_44_116 {l0 l1 l2 l3 l4 l5 l6 l7 : Option zV} {st : List zV} {w : zW} {Q : Option zV → zW → Prop}  : zR 44 116 [l0, l1, l2, l3, l4, l5, l6, l7] st w Q = zR 44 117 [l0, l1, l2, l3, l4, l5, l6, l7] (.inl 1 :: st) w Q := zR_go (zst zT_44_116 rfl)
theorem zT_44_117 : zT 44 117 = some (.iadd, 1, 0, []) := by decide +kernel
theorem zr_44_117 {l0 l1 l2 l3 l4 l5 l6 l7 : Option zV} {x y : Int} {st : List zV} {w : zW} {Q : Option zV → zW → Prop}  : zR 44 117 [l0, l1, l2, l3, l4, l5, l6, l7] (.inl y :: .inl x :: st) w Q = zR 44 118 [l0, l1, l2, l3, l4, l5, l6, l7] (.inl (x + y) :: st) w Q := zR_go (zst zT_44_117 rfl)
theorem zT_44_118 : zT 44 118 = some (.iconst 4, 1, 0, []) := by decide +kernel
theorem zr_44_118 {l0 l1 l2 l3 l4 l5 l6 l7 : Option zV} {st : List zV} {w : zW} {Q : Option zV → zW → Prop}  : zR 44 118 [l0, l1, l2, l3, l4, l5, l6, l7] st w Q = zR 44 119 [l0, l1, l2, l3, l4, l5, l6, l7] (.inl 4 :: st) w Q := zR_go (zst zT_44_118 rfl)
theorem zT_44_119 : zT 44 119 = some (.irem, 1, 0, []) := by decide +kernel
theorem zr_44_119 {l0 l1 l2 l3 l4 l5 l6 l7 : Option zV} {x y : Int} {st : List zV} {w : zW} {Q : Option zV → zW → Prop} (hy : ¬ zN y = 0) : zR 44 119 [l0, l1, l2, l3, l4, l5, l6, l7] (.inl y :: .inl x :: st) w Q = zR 44 120 [l0, l1, l2, l3, l4, l5, l6, l7] (.inl (zo_rem x y) :: st) w Q := zR_go (zst zT_44_119 (if_neg hy))
theorem zT_44_120 : zT 44 120 = some (.iastore, 1, 0, []) := by decide +kernel
theorem zr_44_120 {l0 l1 l2 l3 l4 l5 l6 l7 : Option zV} {j x : Int} {h : Nat} {st : List zV} {w : zW} {Q : Option zV → zW → Prop} (hk : zk w h = zNC ∧ 0 ≤ zN j ∧ zN j < zl w h) : zR 44 120 [l0, l1, l2, l3, l4, l5, l6, l7] (.inl x :: .inl j :: .inr (some h) :: st) w Q = zR 44 121 [l0, l1, l2, l3, l4, l5, l6, l7] st (zsa w h (zN j).toNat x) Q := zR_go (zst zT_44_120 (if_pos hk))
theorem zT_44_121 : zT 44 121 = some (.aload_n 0, 1, 0, []) := by decide +kernel
theorem zr_44_121 {l1 l2 l3 l4 l5 l6 l7 : Option zV} {x : Option Nat} {st : List zV} {w : zW} {Q : Option zV → zW → Prop}  : zR 44 121 [some (.inr x), l1, l2, l3, l4, l5, l6, l7] st w Q = zR 44 122 [some (.inr x), l1, l2, l3, l4, l5, l6, l7] (.inr x :: st) w Q := zR_go (zst zT_44_121 rfl)
theorem zT_44_122 : zT 44 122 = some (.getfield 35, 3, 0, [(11, 9)]) := by decide +kernel
theorem zr_44_122 {l0 l1 l2 l3 l4 l5 l6 l7 : Option zV} {h : Nat} {st : List zV} {w : zW} {Q : Option zV → zW → Prop} (hk : zk w h = 11) : zR 44 122 [l0, l1, l2, l3, l4, l5, l6, l7] (.inr (some h) :: st) w Q = zR 44 125 [l0, l1, l2, l3, l4, l5, l6, l7] (.inr (zp w 81 h) :: st) w Q := zR_go (zst zT_44_122 (zget_r hk rfl))
theorem zT_44_125 : zT 44 125 = some (.iload_n 3, 1, 0, []) := by decide +kernel
theorem zr_44_125 {l0 l1 l2 l4 l5 l6 l7 : Option zV} {x : Int} {st : List zV} {w : zW} {Q : Option zV → zW → Prop}  : zR 44 125 [l0, l1, l2, some (.inl x), l4, l5, l6, l7] st w Q = zR 44 126 [l0, l1, l2, some (.inl x), l4, l5, l6, l7] (.inl x :: st) w Q := zR_go (zst zT_44_125 rfl)
theorem zT_44_126 : zT 44 126 = some (.iaload, 1, 0, []) := by decide +kernel
theorem zr_44_126 {l0 l1 l2 l3 l4 l5 l6 l7 : Option zV} {j : Int} {h : Nat} {st : List zV} {w : zW} {Q : Option zV → zW → Prop} (hk : (zk w h = zNC ∨ zk w h = zNC + 2) ∧ 0 ≤ zN j ∧ zN j < zl w h) : zR 44 126 [l0, l1, l2, l3, l4, l5, l6, l7] (.inl j :: .inr (some h) :: st) w Q = zR 44 127 [l0, l1, l2, l3, l4, l5, l6, l7] (.inl (za w h (zN j).toNat) :: st) w Q := zR_go (zst zT_44_126 (if_pos hk))
theorem zT_44_127 : zT 44 127 = some (.iconst 1, 1, 0, []) := by decide +kernel
theorem zr_44_127 {l0 l1 l2 l3 l4 l5 l6 l7 : Option zV} {st : List zV} {w : zW} {Q : Option zV → zW → Prop}  : zR 44 127 [l0, l1, l2, l3, l4, l5, l6, l7] st w Q = zR 44 128 [l0, l1, l2, l3, l4, l5, l6, l7] (.inl 1 :: st) w Q := zR_go (zst zT_44_127 rfl)
theorem zT_44_128 : zT 44 128 = some (.isub, 1, 0, []) := by decide +kernel
theorem zr_44_128 {l0 l1 l2 l3 l4 l5 l6 l7 : Option zV} {x y : Int} {st : List zV} {w : zW} {Q : Option zV → zW → Prop}  : zR 44 128 [l0, l1, l2, l3, l4, l5, l6, l7] (.inl y :: .inl x :: st) w Q = zR 44 129 [l0, l1, l2, l3, l4, l5, l6, l7] (.inl (x - y) :: st) w Q := zR_go (zst zT_44_128 rfl)
theorem zT_44_129 : zT 44 129 = some (.istore 6, 2, 0, []) := by decide +kernel
theorem zr_44_129 {l0 l1 l2 l3 l4 l5 l6 l7 : Option zV} {x : Int} {st : List zV} {w : zW} {Q : Option zV → zW → Prop}  : zR 44 129 [l0, l1, l2, l3, l4, l5, l6, l7] (.inl x :: st) w Q = zR 44 131 [l0, l1, l2, l3, l4, l5, some (.inl x), l7] st w Q := zR_go (zst zT_44_129 rfl)
theorem zT_44_131 : zT 44 131 = some (.iload 6, 2, 0, []) := by decide +kernel
theorem zr_44_131 {l0 l1 l2 l3 l4 l5 l7 : Option zV} {x : Int} {st : List zV} {w : zW} {Q : Option zV → zW → Prop}  : zR 44 131 [l0, l1, l2, l3, l4, l5, some (.inl x), l7] st w Q = zR 44 133 [l0, l1, l2, l3, l4, l5, some (.inl x), l7] (.inl x :: st) w Q := zR_go (zst zT_44_131 rfl)
theorem zT_44_133 : zT 44 133 = some (.aload_n 0, 1, 0, []) := by decide +kernel
theorem zr_44_133 {l1 l2 l3 l4 l5 l6 l7 : Option zV} {x : Option Nat} {st : List zV} {w : zW} {Q : Option zV → zW → Prop}  : zR 44 133 [some (.inr x), l1, l2, l3, l4, l5, l6, l7] st w Q = zR 44 134 [some (.inr x), l1, l2, l3, l4, l5, l6, l7] (.inr x :: st) w Q := zR_go (zst zT_44_133 rfl)
theorem zT_44_134 : zT 44 134 = some (.getfield 110, 3, 0, [(11, 37)]) := by decide +kernel
theorem zr_44_134 {l0 l1 l2 l3 l4 l5 l6 l7 : Option zV} {h : Nat} {st : List zV} {w : zW} {Q : Option zV → zW → Prop} (hk : zk w h = 11) : zR 44 134 [l0, l1, l2, l3, l4, l5, l6, l7] (.inr (some h) :: st) w Q = zR 44 137 [l0, l1, l2, l3, l4, l5, l6, l7] (.inr (zp w 109 h) :: st) w Q := zR_go (zst zT_44_134 (zget_r hk rfl))
theorem zT_44_137 : zT 44 137 = some (.iconst 3, 1, 0, []) := by decide +kernel
theorem zr_44_137 {l0 l1 l2 l3 l4 l5 l6 l7 : Option zV} {st : List zV} {w : zW} {Q : Option zV → zW → Prop}  : zR 44 137 [l0, l1, l2, l3, l4, l5, l6, l7] st w Q = zR 44 138 [l0, l1, l2, l3, l4, l5, l6, l7] (.inl 3 :: st) w Q := zR_go (zst zT_44_137 rfl)
theorem zT_44_138 : zT 44 138 = some (.iaload, 1, 0, []) := by decide +kernel
theorem zr_44_138 {l0 l1 l2 l3 l4 l5 l6 l7 : Option zV} {j : Int} {h : Nat} {st : List zV} {w : zW} {Q : Option zV → zW → Prop} (hk : (zk w h = zNC ∨ zk w h = zNC + 2) ∧ 0 ≤ zN j ∧ zN j < zl w h) : zR 44 138 [l0, l1, l2, l3, l4, l5, l6, l7] (.inl j :: .inr (some h) :: st) w Q = zR 44 139 [l0, l1, l2, l3, l4, l5, l6, l7] (.inl (za w h (zN j).toNat) :: st) w Q := zR_go (zst zT_44_138 (if_pos hk))
theorem zT_44_139 : zT 44 139 = some (.iadd, 1, 0, []) := by decide +kernel
theorem zr_44_139 {l0 l1 l2 l3 l4 l5 l6 l7 : Option zV} {x y : Int} {st : List zV} {w : zW} {Q : Option zV → zW → Prop}  : zR 44 139 [l0, l1, l2, l3, l4, l5, l6, l7] (.inl y :: .inl x :: st) w Q = zR 44 140 [l0, l1, l2, l3, l4, l5, l6, l7] (.inl (x + y) :: st) w Q := zR_go (zst zT_44_139 rfl)
theorem zT_44_140 : zT 44 140 = some (.bipush 32, 2, 0, []) := by decide +kernel
theorem zr_44_140 {l0 l1 l2 l3 l4 l5 l6 l7 : Option zV} {st : List zV} {w : zW} {Q : Option zV → zW → Prop}  : zR 44 140 [l0, l1, l2, l3, l4, l5, l6, l7] st w Q = zR 44 142 [l0, l1, l2, l3, l4, l5, l6, l7] (.inl 32 :: st) w Q := zR_go (zst zT_44_140 rfl)
theorem zT_44_142 : zT 44 142 = some (.if_icmp .le 11, 3, 0, []) := by decide +kernel
theorem zr_44_142 {l0 l1 l2 l3 l4 l5 l6 l7 : Option zV} {x y : Int} {st : List zV} {w : zW} {Q : Option zV → zW → Prop}  : zR 44 142 [l0, l1, l2, l3, l4, l5, l6, l7] (.inl y :: .inl x :: st) w Q = (if zN x ≤ zN y then zR 44 153 [l0, l1, l2, l3, l4, l5, l6, l7] st w Q else zR 44 145 [l0, l1, l2, l3, l4, l5, l6, l7] st w Q) := zR_if (zstB zT_44_142 rfl) (by simp [zcmp])
theorem zT_44_145 : zT 44 145 = some (.aload_n 0, 1, 0, []) := by decide +kernel
theorem zr_44_145 {l1 l2 l3 l4 l5 l6 l7 : Option zV} {x : Option Nat} {st : List zV} {w : zW} {Q : Option zV → zW → Prop}  : zR 44 145 [some (.inr x), l1, l2, l3, l4, l5, l6, l7] st w Q = zR 44 146 [some (.inr x), l1, l2, l3, l4, l5, l6, l7] (.inr x :: st) w Q := zR_go (zst zT_44_145 rfl)
theorem zT_44_146 : zT 44 146 = some (.getfield 35, 3, 0, [(11, 9)]) := by decide +kernel
theorem zr_44_146 {l0 l1 l2 l3 l4 l5 l6 l7 : Option zV} {h : Nat} {st : List zV} {w : zW} {Q : Option zV → zW → Prop} (hk : zk w h = 11) : zR 44 146 [l0, l1, l2, l3, l4, l5, l6, l7] (.inr (some h) :: st) w Q = zR 44 149 [l0, l1, l2, l3, l4, l5, l6, l7] (.inr (zp w 81 h) :: st) w Q := zR_go (zst zT_44_146 (zget_r hk rfl))
theorem zT_44_149 : zT 44 149 = some (.iload_n 3, 1, 0, []) := by decide +kernel
theorem zr_44_149 {l0 l1 l2 l4 l5 l6 l7 : Option zV} {x : Int} {st : List zV} {w : zW} {Q : Option zV → zW → Prop}  : zR 44 149 [l0, l1, l2, some (.inl x), l4, l5, l6, l7] st w Q = zR 44 150 [l0, l1, l2, some (.inl x), l4, l5, l6, l7] (.inl x :: st) w Q := zR_go (zst zT_44_149 rfl)
theorem zT_44_150 : zT 44 150 = some (.iconst 0, 1, 0, []) := by decide +kernel
theorem zr_44_150 {l0 l1 l2 l3 l4 l5 l6 l7 : Option zV} {st : List zV} {w : zW} {Q : Option zV → zW → Prop}  : zR 44 150 [l0, l1, l2, l3, l4, l5, l6, l7] st w Q = zR 44 151 [l0, l1, l2, l3, l4, l5, l6, l7] (.inl 0 :: st) w Q := zR_go (zst zT_44_150 rfl)
theorem zT_44_151 : zT 44 151 = some (.iastore, 1, 0, []) := by decide +kernel
theorem zr_44_151 {l0 l1 l2 l3 l4 l5 l6 l7 : Option zV} {j x : Int} {h : Nat} {st : List zV} {w : zW} {Q : Option zV → zW → Prop} (hk : zk w h = zNC ∧ 0 ≤ zN j ∧ zN j < zl w h) : zR 44 151 [l0, l1, l2, l3, l4, l5, l6, l7] (.inl x :: .inl j :: .inr (some h) :: st) w Q = zR 44 152 [l0, l1, l2, l3, l4, l5, l6, l7] st (zsa w h (zN j).toNat x) Q := zR_go (zst zT_44_151 (if_pos hk))
theorem zT_44_152 : zT 44 152 = some (.return_, 1, 0, []) := by decide +kernel
theorem zr_44_152 {l0 l1 l2 l3 l4 l5 l6 l7 : Option zV} {w : zW} {Q : Option zV → zW → Prop} : zR 44 152 [l0, l1, l2, l3, l4, l5, l6, l7] [] w Q = Q none w := zR_ret (zst zT_44_152 rfl)
theorem zT_44_153 : zT 44 153 = some (.iconst 0, 1, 0, []) := by decide +kernel
theorem zr_44_153 {l0 l1 l2 l3 l4 l5 l6 l7 : Option zV} {st : List zV} {w : zW} {Q : Option zV → zW → Prop}  : zR 44 153 [l0, l1, l2, l3, l4, l5, l6, l7] st w Q = zR 44 154 [l0, l1, l2, l3, l4, l5, l6, l7] (.inl 0 :: st) w Q := zR_go (zst zT_44_153 rfl)
theorem zT_44_154 : zT 44 154 = some (.istore 7, 2, 0, []) := by decide +kernel
theorem zr_44_154 {l0 l1 l2 l3 l4 l5 l6 l7 : Option zV} {x : Int} {st : List zV} {w : zW} {Q : Option zV → zW → Prop}  : zR 44 154 [l0, l1, l2, l3, l4, l5, l6, l7] (.inl x :: st) w Q = zR 44 156 [l0, l1, l2, l3, l4, l5, l6, some (.inl x)] st w Q := zR_go (zst zT_44_154 rfl)
theorem zT_44_156 : zT 44 156 = some (.iload 7, 2, 0, []) := by decide +kernel
theorem zr_44_156 {l0 l1 l2 l3 l4 l5 l6 : Option zV} {x : Int} {st : List zV} {w : zW} {Q : Option zV → zW → Prop}  : zR 44 156 [l0, l1, l2, l3, l4, l5, l6, some (.inl x)] st w Q = zR 44 158 [l0, l1, l2, l3, l4, l5, l6, some (.inl x)] (.inl x :: st) w Q := zR_go (zst zT_44_156 rfl)
theorem zT_44_158 : zT 44 158 = some (.aload_n 0, 1, 0, []) := by decide +kernel
theorem zr_44_158 {l1 l2 l3 l4 l5 l6 l7 : Option zV} {x : Option Nat} {st : List zV} {w : zW} {Q : Option zV → zW → Prop}  : zR 44 158 [some (.inr x), l1, l2, l3, l4, l5, l6, l7] st w Q = zR 44 159 [some (.inr x), l1, l2, l3, l4, l5, l6, l7] (.inr x :: st) w Q := zR_go (zst zT_44_158 rfl)
theorem zT_44_159 : zT 44 159 = some (.getfield 110, 3, 0, [(11, 37)]) := by decide +kernel
theorem zr_44_159 {l0 l1 l2 l3 l4 l5 l6 l7 : Option zV} {h : Nat} {st : List zV} {w : zW} {Q : Option zV → zW → Prop} (hk : zk w h = 11) : zR 44 159 [l0, l1, l2, l3, l4, l5, l6, l7] (.inr (some h) :: st) w Q = zR 44 162 [l0, l1, l2, l3, l4, l5, l6, l7] (.inr (zp w 109 h) :: st) w Q := zR_go (zst zT_44_159 (zget_r hk rfl))
theorem zT_44_162 : zT 44 162 = some (.iconst 3, 1, 0, []) := by decide +kernel
theorem zr_44_162 {l0 l1 l2 l3 l4 l5 l6 l7 : Option zV} {st : List zV} {w : zW} {Q : Option zV → zW → Prop}  : zR 44 162 [l0, l1, l2, l3, l4, l5, l6, l7] st w Q = zR 44 163 [l0, l1, l2, l3, l4, l5, l6, l7] (.inl 3 :: st) w Q := zR_go (zst zT_44_162 rfl)
theorem zT_44_163 : zT 44 163 = some (.iaload, 1, 0, []) := by decide +kernel
theorem zr_44_163 {l0 l1 l2 l3 l4 l5 l6 l7 : Option zV} {j : Int} {h : Nat} {st : List zV} {w : zW} {Q : Option zV → zW → Prop} (hk : (zk w h = zNC ∨ zk w h = zNC + 2) ∧ 0 ≤ zN j ∧ zN j < zl w h) : zR 44 163 [l0, l1, l2, l3, l4, l5, l6, l7] (.inl j :: .inr (some h) :: st) w Q = zR 44 164 [l0, l1, l2, l3, l4, l5, l6, l7] (.inl (za w h (zN j).toNat) :: st) w Q := zR_go (zst zT_44_163 (if_pos hk))
theorem zT_44_164 : zT 44 164 = some (.if_icmp .ge 33, 3, 0, []) := by decide +kernel
theorem zr_44_164 {l0 l1 l2 l3 l4 l5 l6 l7 : Option zV} {x y : Int} {st : List zV} {w : zW} {Q : Option zV → zW → Prop}  : zR 44 164 [l0, l1, l2, l3, l4, l5, l6, l7] (.inl y :: .inl x :: st) w Q = (if zN y ≤ zN x then zR 44 197 [l0, l1, l2, l3, l4, l5, l6, l7] st w Q else zR 44 167 [l0, l1, l2, l3, l4, l5, l6, l7] st w Q) := zR_if (zstB zT_44_164 rfl) (by simp [zcmp])
theorem zT_44_167 : zT 44 167 = some (.aload_n 0, 1, 0, []) := by decide +kernel
theorem zr_44_167 {l1 l2 l3 l4 l5 l6 l7 : Option zV} {x : Option Nat} {st : List zV} {w : zW} {Q : Option zV → zW → Prop}  : zR 44 167 [some (.inr x), l1, l2, l3, l4, l5, l6, l7] st w Q = zR 44 168 [some (.inr x), l1, l2, l3, l4, l5, l6, l7] (.inr x :: st) w Q := zR_go (zst zT_44_167 rfl)
theorem zT_44_168 : zT 44 168 = some (.getfield 44, 3, 0, [(11, 12)]) := by decide +kernel
theorem zr_44_168 {l0 l1 l2 l3 l4 l5 l6 l7 : Option zV} {h : Nat} {st : List zV} {w : zW} {Q : Option zV → zW → Prop} (hk : zk w h = 11) : zR 44 168 [l0, l1, l2, l3, l4, l5, l6, l7] (.inr (some h) :: st) w Q = zR 44 171 [l0, l1, l2, l3, l4, l5, l6, l7] (.inr (zp w 84 h) :: st) w Q := zR_go (zst zT_44_168 (zget_r hk rfl))
theorem zT_44_171 : zT 44 171 = some (.bipush 32, 2, 0, []) := by decide +kernel
theorem zr_44_171 {l0 l1 l2 l3 l4 l5 l6 l7 : Option zV} {st : List zV} {w : zW} {Q : Option zV → zW → Prop}  : zR 44 171 [l0, l1, l2, l3, l4, l5, l6, l7] st w Q = zR 44 173 [l0, l1, l2, l3, l4, l5, l6, l7] (.inl 32 :: st) w Q := zR_go (zst zT_44_171 rfl)
theorem zT_44_173 : zT 44 173 = some (.iload_n 3, 1, 0, []) := by decide +kernel
theorem zr_44_173 {l0 l1 l2 l4 l5 l6 l7 : Option zV} {x : Int} {st : List zV} {w : zW} {Q : Option zV → zW → Prop}  : zR 44 173 [l0, l1, l2, some (.inl x), l4, l5, l6, l7] st w Q = zR 44 174 [l0, l1, l2, some (.inl x), l4, l5, l6, l7] (.inl x :: st) w Q := zR_go (zst zT_44_173 rfl)
theorem zT_44_174 : zT 44 174 = some (.imul, 1, 0, []) := by decide +kernel
theorem zr_44_174 {l0 l1 l2 l3 l4 l5 l6 l7 : Option zV} {x y : Int} {st : List zV} {w : zW} {Q : Option zV → zW → Prop}  : zR 44 174 [l0, l1, l2, l3, l4, l5, l6, l7] (.inl y :: .inl x :: st) w Q = zR 44 175 [l0, l1, l2, l3, l4, l5, l6, l7] (.inl (x * y) :: st) w Q := zR_go (zst zT_44_174 rfl)
theorem zT_44_175 : zT 44 175 = some (.iload 6, 2, 0, []) := by decide +kernel
theorem zr_44_175 {l0 l1 l2 l3 l4 l5 l7 : Option zV} {x : Int} {st : List zV} {w : zW} {Q : Option zV → zW → Prop}  : zR 44 175 [l0, l1, l2, l3, l4, l5, some (.inl x), l7] st w Q = zR 44 177 [l0, l1, l2, l3, l4, l5, some (.inl x), l7] (.inl x :: st) w Q := zR_go (zst zT_44_175 rfl)
theorem zT_44_177 : zT 44 177 = some (.iadd, 1, 0, []) := by decide +kernel
theorem zr_44_177 {l0 l1 l2 l3 l4 l5 l6 l7 : Option zV} {x y : Int} {st : List zV} {w : zW} {Q : Option zV → zW → Prop}  : zR 44 177 [l0, l1, l2, l3, l4, l5, l6, l7] (.inl y :: .inl x :: st) w Q = zR 44 178 [l0, l1, l2, l3, l4, l5, l6, l7] (.inl (x + y) :: st) w Q := zR_go (zst zT_44_177 rfl)
theorem zT_44_178 : zT 44 178 = some (.iload 7, 2, 0, []) := by decide +kernel
theorem zr_44_178 {l0 l1 l2 l3 l4 l5 l6 : Option zV} {x : Int} {st : List zV} {w : zW} {Q : Option zV → zW → Prop}  : zR 44 178 [l0, l1, l2, l3, l4, l5, l6, some (.inl x)] st w Q = zR 44 180 [l0, l1, l2, l3, l4, l5, l6, some (.inl x)] (.inl x :: st) w Q := zR_go (zst zT_44_178 rfl)
theorem zT_44_180 : zT 44 180 = some (.iadd, 1, 0, []) := by decide +kernel
theorem zr_44_180 {l0 l1 l2 l3 l4 l5 l6 l7 : Option zV} {x y : Int} {st : List zV} {w : zW} {Q : Option zV → zW → Prop}  : zR 44 180 [l0, l1, l2, l3, l4, l5, l6, l7] (.inl y :: .inl x :: st) w Q = zR 44 181 [l0, l1, l2, l3, l4, l5, l6, l7] (.inl (x + y) :: st) w Q := zR_go (zst zT_44_180 rfl)
theorem zT_44_181 : zT 44 181 = some (.aload_n 0, 1, 0, []) := by decide +kernel
theorem zr_44_181 {l1 l2 l3 l4 l5 l6 l7 : Option zV} {x : Option Nat} {st : List zV} {w : zW} {Q : Option zV → zW → Prop}  : zR 44 181 [some (.inr x), l1, l2, l3, l4, l5, l6, l7] st w Q = zR 44 182 [some (.inr x), l1, l2, l3, l4, l5, l6, l7] (.inr x :: st) w Q := zR_go (zst zT_44_181 rfl)
theorem zT_44_182 : zT 44 182 = some (.getfield 110, 3, 0, [(11, 37)]) := by decide +kernel
theorem zr_44_182 {l0 l1 l2 l3 l4 l5 l6 l7 : Option zV} {h : Nat} {st : List zV} {w : zW} {Q : Option zV → zW → Prop} (hk : zk w h = 11) : zR 44 182 [l0, l1, l2, l3, l4, l5, l6, l7] (.inr (some h) :: st) w Q = zR 44 185 [l0, l1, l2, l3, l4, l5, l6, l7] (.inr (zp w 109 h) :: st) w Q := zR_go (zst zT_44_182 (zget_r hk rfl))
theorem zT_44_185 : zT 44 185 = some (.iconst 4, 1, 0, []) := by decide +kernel
theorem zr_44_185 {l0 l1 l2 l3 l4 l5 l6 l7 : Option zV} {st : List zV} {w : zW} {Q : Option zV → zW → Prop}  : zR 44 185 [l0, l1, l2, l3, l4, l5, l6, l7] st w Q = zR 44 186 [l0, l1, l2, l3, l4, l5, l6, l7] (.inl 4 :: st) w Q := zR_go (zst zT_44_185 rfl)
theorem zT_44_186 : zT 44 186 = some (.iload 7, 2, 0, []) := by decide +kernel
theorem zr_44_186 {l0 l1 l2 l3 l4 l5 l6 : Option zV} {x : Int} {st : List zV} {w : zW} {Q : Option zV → zW → Prop}  : zR 44 186 [l0, l1, l2, l3, l4, l5, l6, some (.inl x)] st w Q = zR 44 188 [l0, l1, l2, l3, l4, l5, l6, some (.inl x)] (.inl x :: st) w Q := zR_go (zst zT_44_186 rfl)
theorem zT_44_188 : zT 44 188 = some (.iadd, 1, 0, []) := by decide +kernel
theorem zr_44_188 {l0 l1 l2 l3 l4 l5 l6 l7 : Option zV} {x y : Int} {st : List zV} {w : zW} {Q : Option zV → zW → Prop}  : zR 44 188 [l0, l1, l2, l3, l4, l5, l6, l7] (.inl y :: .inl x :: st) w Q = zR 44 189 [l0, l1, l2, l3, l4, l5, l6, l7] (.inl (x + y) :: st) w Q := zR_go (zst zT_44_188 rfl)
theorem zT_44_189 : zT 44 189 = some (.iaload, 1, 0, []) := by decide +kernel
theorem zr_44_189 {l0 l1 l2 l3 l4 l5 l6 l7 : Option zV} {j : Int} {h : Nat} {st : List zV} {w : zW} {Q : Option zV → zW → Prop} (hk : (zk w h = zNC ∨ zk w h = zNC + 2) ∧ 0 ≤ zN j ∧ zN j < zl w h) : zR 44 189 [l0, l1, l2, l3, l4, l5, l6, l7] (.inl j :: .inr (some h) :: st) w Q = zR 44 190 [l0, l1, l2, l3, l4, l5, l6, l7] (.inl (za w h (zN j).toNat) :: st) w Q := zR_go (zst zT_44_189 (if_pos hk))
theorem zT_44_190 : zT 44 190 = some (.iastore, 1, 0, []) := by decide +kernel
theorem zr_44_190 {l0 l1 l2 l3 l4 l5 l6 l7 : Option zV} {j x : Int} {h : Nat} {st : List zV} {w : zW} {Q : Option zV → zW → Prop} (hk : zk w h = zNC ∧ 0 ≤ zN j ∧ zN j < zl w h) : zR 44 190 [l0, l1, l2, l3, l4, l5, l6, l7] (.inl x :: .inl j :: .inr (some h) :: st) w Q = zR 44 191 [l0, l1, l2, l3, l4, l5, l6, l7] st (zsa w h (zN j).toNat x) Q := zR_go (zst zT_44_190 (if_pos hk))
theorem zT_44_191 : zT 44 191 = some (.iinc 7 1, 3, 0, []) := by decide +kernel
theorem zr_44_191 {l0 l1 l2 l3 l4 l5 l6 : Option zV} {x : Int} {st : List zV} {w : zW} {Q : Option zV → zW → Prop}  : zR 44 191 [l0, l1, l2, l3, l4, l5, l6, some (.inl x)] st w Q = zR 44 194 [l0, l1, l2, l3, l4, l5, l6, some (.inl (x + 1))] st w Q := zR_go (zst zT_44_191 rfl)
theorem zT_44_194 : zT 44 194 = some (.goto (-38), 3, 0, []) := by decide +kernel
theorem zr_44_194 {l0 l1 l2 l3 l4 l5 l6 l7 : Option zV} {st : List zV} {w : zW} {Q : Option zV → zW → Prop}  : zR 44 194 [l0, l1, l2, l3, l4, l5, l6, l7] st w Q = zR 44 156 [l0, l1, l2, l3, l4, l5, l6, l7] st w Q := zR_go (zst zT_44_194 rfl)
theorem zT_44_197 : zT 44 197 = some (.aload_n 0, 1, 0, []) := by decide +kernel
theorem zr_44_197 {l1 l2 l3 l4 l5 l6 l7 : Option zV} {x : Option Nat} {st : List zV} {w : zW} {Q : Option zV → zW → Prop}  : zR 44 197 [some (.inr x), l1, l2, l3, l4, l5, l6, l7] st w Q = zR 44 198 [some (.inr x), l1, l2, l3, l4, l5, l6, l7] (.inr x :: st) w Q := zR_go (zst zT_44_197 rfl)
theorem zT_44_198 : zT 44 198 = some (.getfield 35, 3, 0, [(11, 9)]) := by decide +kernel
theorem zr_44_198 {l0 l1 l2 l3 l4 l5 l6 l7 : Option zV} {h : Nat} {st : List zV} {w : zW} {Q : Option zV → zW → Prop} (hk : zk w h = 11) : zR 44 198 [l0, l1, l2, l3, l4, l5, l6, l7] (.inr (some h) :: st) w Q = zR 44 201 [l0, l1, l2, l3, l4, l5, l6, l7] (.inr (zp w 81 h) :: st) w Q := zR_go (zst zT_44_198 (zget_r hk rfl))
theorem zT_44_201 : zT 44 201 = some (.iload_n 3, 1, 0, []) := by decide +kernel
theorem zr_44_201 {l0 l1 l2 l4 l5 l6 l7 : Option zV} {x : Int} {st : List zV} {w : zW} {Q : Option zV → zW → Prop}  : zR 44 201 [l0, l1, l2, some (.inl x), l4, l5, l6, l7] st w Q = zR 44 202 [l0, l1, l2, some (.inl x), l4, l5, l6, l7] (.inl x :: st) w Q := zR_go (zst zT_44_201 rfl)
theorem zT_44_202 : zT 44 202 = some (.dup2, 1, 0, []) := by decide +kernel
theorem zr_44_202 {l0 l1 l2 l3 l4 l5 l6 l7 : Option zV} {u v : zV} {st : List zV} {w : zW} {Q : Option zV → zW → Prop}  : zR 44 202 [l0, l1, l2, l3, l4, l5, l6, l7] (v :: u :: st) w Q = zR 44 203 [l0, l1, l2, l3, l4, l5, l6, l7] (v :: u :: v :: u :: st) w Q := zR_go (zst zT_44_202 rfl)
theorem zT_44_203 : zT 44 203 = some (.iaload, 1, 0, []) := by decide +kernel
theorem zr_44_203 {l0 l1 l2 l3 l4 l5 l6 l7 : Option zV} {j : Int} {h : Nat} {st : List zV} {w : zW} {Q : Option zV → zW → Prop} (hk : (zk w h = zNC ∨ zk w h = zNC + 2) ∧ 0 ≤ zN j ∧ zN j < zl w h) : zR 44 203 [l0, l1, l2, l3, l4, l5, l6, l7] (.inl j :: .inr (some h) :: st) w Q = zR 44 204 [l0, l1, l2, l3, l4, l5, l6, l7] (.inl (za w h (zN j).toNat) :: st) w Q := zR_go (zst zT_44_203 (if_pos hk))
theorem zT_44_204 : zT 44 204 = some (.aload_n 0, 1, 0, []) := by decide +kernel
theorem zr_44_204 {l1 l2 l3 l4 l5 l6 l7 : Option zV} {x : Option Nat} {st : List zV} {w : zW} {Q : Option zV → zW → Prop}  : zR 44 204 [some (.inr x), l1, l2, l3, l4, l5, l6, l7] st w Q = zR 44 205 [some (.inr x), l1, l2, l3, l4, l5, l6, l7] (.inr x :: st) w Q := zR_go (zst zT_44_204 rfl)
theorem zT_44_205 : zT 44 205 = some (.getfield 110, 3, 0, [(11, 37)]) := by decide +kernel
theorem zr_44_205 {l0 l1 l2 l3 l4 l5 l6 l7 : Option zV} {h : Nat} {st : List zV} {w : zW} {Q : Option zV → zW → Prop} (hk : zk w h = 11) : zR 44 205 [l0, l1, l2, l3, l4, l5, l6, l7] (.inr (some h) :: st) w Q = zR 44 208 [l0, l1, l2, l3, l4, l5, l6, l7] (.inr (zp w 109 h) :: st) w Q := zR_go (zst zT_44_205 (zget_r hk rfl))
theorem zT_44_208 : zT 44 208 = some (.iconst 3, 1, 0, []) := by decide +kernel
theorem zr_44_208 {l0 l1 l2 l3 l4 l5 l6 l7 : Option zV} {st : List zV} {w : zW} {Q : Option zV → zW → Prop}  : zR 44 208 [l0, l1, l2, l3, l4, l5, l6, l7] st w Q = zR 44 209 [l0, l1, l2, l3, l4, l5, l6, l7] (.inl 3 :: st) w Q := zR_go (zst zT_44_208 rfl)
theorem zT_44_209 : zT 44 209 = some (.iaload, 1, 0, []) := by decide +kernel
theorem zr_44_209 {l0 l1 l2 l3 l4 l5 l6 l7 : Option zV} {j : Int} {h : Nat} {st : List zV} {w : zW} {Q : Option zV → zW → Prop} (hk : (zk w h = zNC ∨ zk w h = zNC + 2) ∧ 0 ≤ zN j ∧ zN j < zl w h) : zR 44 209 [l0, l1, l2, l3, l4, l5, l6, l7] (.inl j :: .inr (some h) :: st) w Q = zR 44 210 [l0, l1, l2, l3, l4, l5, l6, l7] (.inl (za w h (zN j).toNat) :: st) w Q := zR_go (zst zT_44_209 (if_pos hk))
theorem zT_44_210 : zT 44 210 = some (.iadd, 1, 0, []) := by decide +kernel
theorem zr_44_210 {l0 l1 l2 l3 l4 l5 l6 l7 : Option zV} {x y : Int} {st : List zV} {w : zW} {Q : Option zV → zW → Prop}  : zR 44 210 [l0, l1, l2, l3, l4, l5, l6, l7] (.inl y :: .inl x :: st) w Q = zR 44 211 [l0, l1, l2, l3, l4, l5, l6, l7] (.inl (x + y) :: st) w Q := zR_go (zst zT_44_210 rfl)
theorem zT_44_211 : zT 44 211 = some (.iastore, 1, 0, []) := by decide +kernel
theorem zr_44_211 {l0 l1 l2 l3 l4 l5 l6 l7 : Option zV} {j x : Int} {h : Nat} {st : List zV} {w : zW} {Q : Option zV → zW → Prop} (hk : zk w h = zNC ∧ 0 ≤ zN j ∧ zN j < zl w h) : zR 44 211 [l0, l1, l2, l3, l4, l5, l6, l7] (.inl x :: .inl j :: .inr (some h) :: st) w Q = zR 44 212 [l0, l1, l2, l3, l4, l5, l6, l7] st (zsa w h (zN j).toNat x) Q := zR_go (zst zT_44_211 (if_pos hk))
theorem zT_44_212 : zT 44 212 = some (.iload 4, 2, 0, []) := by decide +kernel
theorem zr_44_212 {l0 l1 l2 l3 l5 l6 l7 : Option zV} {x : Int} {st : List zV} {w : zW} {Q : Option zV → zW → Prop}  : zR 44 212 [l0, l1, l2, l3, some (.inl x), l5, l6, l7] st w Q = zR 44 214 [l0, l1, l2, l3, some (.inl x), l5, l6, l7] (.inl x :: st) w Q := zR_go (zst zT_44_212 rfl)
theorem zT_44_214 : zT 44 214 = some (.bipush 64, 2, 0, []) := by decide +kernel
theorem zr_44_214 {l0 l1 l2 l3 l4 l5 l6 l7 : Option zV} {st : List zV} {w : zW} {Q : Option zV → zW → Prop}  : zR 44 214 [l0, l1, l2, l3, l4, l5, l6, l7] st w Q = zR 44 216 [l0, l1, l2, l3, l4, l5, l6, l7] (.inl 64 :: st) w Q := zR_go (zst zT_44_214 rfl)
theorem zT_44_216 : zT 44 216 = some (.idiv, 1, 0, []) := by decide +kernel
theorem zr_44_216 {l0 l1 l2 l3 l4 l5 l6 l7 : Option zV} {x y : Int} {st : List zV} {w : zW} {Q : Option zV → zW → Prop} (hy : ¬ zN y = 0) : zR 44 216 [l0, l1, l2, l3, l4, l5, l6, l7] (.inl y :: .inl x :: st) w Q = zR 44 217 [l0, l1, l2, l3, l4, l5, l6, l7] (.inl (zo_div x y) :: st) w Q := zR_go (zst zT_44_216 (if_neg hy))
theorem zT_44_217 : zT 44 217 = some (.iconst 2, 1, 0, []) := by decide +kernel
theorem zr_44_217 {l0 l1 l2 l3 l4 l5 l6 l7 : Option zV} {st : List zV} {w : zW} {Q : Option zV → zW → Prop}  : zR 44 217 [l0, l1, l2, l3, l4, l5, l6, l7] st w Q = zR 44 218 [l0, l1, l2, l3, l4, l5, l6, l7] (.inl 2 :: st) w Q := zR_go (zst zT_44_217 rfl)
theorem zT_44_218 : zT 44 218 = some (.irem, 1, 0, []) := by decide +kernel
theorem zr_44_218 {l0 l1 l2 l3 l4 l5 l6 l7 : Option zV} {x y : Int} {st : List zV} {w : zW} {Q : Option zV → zW → Prop} (hy : ¬ zN y = 0) : zR 44 218 [l0, l1, l2, l3, l4, l5, l6, l7] (.inl y :: .inl x :: st) w Q = zR 44 219 [l0, l1, l2, l3, l4, l5, l6, l7] (.inl (zo_rem x y) :: st) w Q := zR_go (zst zT_44_218 (if_neg hy))
theorem zT_44_219 : zT 44 219 = some (.iconst 1, 1, 0, []) := by decide +kernel
theorem zr_44_219 {l0 l1 l2 l3 l4 l5 l6 l7 : Option zV} {st : List zV} {w : zW} {Q : Option zV → zW → Prop}  : zR 44 219 [l0, l1, l2, l3, l4, l5, l6, l7] st w Q = zR 44 220 [l0, l1, l2, l3, l4, l5, l6, l7] (.inl 1 :: st) w Q := zR_go (zst zT_44_219 rfl)
theorem zT_44_220 : zT 44 220 = some (.if_icmp .ne 71, 3, 0, []) := by decide +kernel
theorem zr_44_220 {l0 l1 l2 l3 l4 l5 l6 l7 : Option zV} {x y : Int} {st : List zV} {w : zW} {Q : Option zV → zW → Prop}  : zR 44 220 [l0, l1, l2, l3, l4, l5, l6, l7] (.inl y :: .inl x :: st) w Q = (if zN x ≠ zN y then zR 44 291 [l0, l1, l2, l3, l4, l5, l6, l7] st w Q else zR 44 223 [l0, l1, l2, l3, l4, l5, l6, l7] st w Q) := zR_if (zstB zT_44_220 rfl) (by simp [zcmp])
theorem zT_44_223 : zT 44 223 = some (.aload_n 0, 1, 0, []) := by decide +kernel
theorem zr_44_223 {l1 l2 l3 l4 l5 l6 l7 : Option zV} {x : Option Nat} {st : List zV} {w : zW} {Q : Option zV → zW → Prop}  : zR 44 223 [some (.inr x), l1, l2, l3, l4, l5, l6, l7] st w Q = zR 44 224 [some (.inr x), l1, l2, l3, l4, l5, l6, l7] (.inr x :: st) w Q := zR_go (zst zT_44_223 rfl)
theorem zT_44_224 : zT 44 224 = some (.aload_n 0, 1, 0, []) := by decide +kernel
theorem zr_44_224 {l1 l2 l3 l4 l5 l6 l7 : Option zV} {x : Option Nat} {st : List zV} {w : zW} {Q : Option zV → zW → Prop}  : zR 44 224 [some (.inr x), l1, l2, l3, l4, l5, l6, l7] st w Q = zR 44 225 [some (.inr x), l1, l2, l3, l4, l5, l6, l7] (.inr x :: st) w Q := zR_go (zst zT_44_224 rfl)
theorem zT_44_225 : zT 44 225 = some (.getfield 35, 3, 0, [(11, 9)]) := by decide +kernel
theorem zr_44_225 {l0 l1 l2 l3 l4 l5 l6 l7 : Option zV} {h : Nat} {st : List zV} {w : zW} {Q : Option zV → zW → Prop} (hk : zk w h = 11) : zR 44 225 [l0, l1, l2, l3, l4, l5, l6, l7] (.inr (some h) :: st) w Q = zR 44 228 [l0, l1, l2, l3, l4, l5, l6, l7] (.inr (zp w 81 h) :: st) w Q := zR_go (zst zT_44_225 (zget_r hk rfl))
theorem zT_44_228 : zT 44 228 = some (.iload_n 3, 1, 0, []) := by decide +kernel
theorem zr_44_228 {l0 l1 l2 l4 l5 l6 l7 : Option zV} {x : Int} {st : List zV} {w : zW} {Q : Option zV → zW → Prop}  : zR 44 228 [l0, l1, l2, some (.inl x), l4, l5, l6, l7] st w Q = zR 44 229 [l0, l1, l2, some (.inl x), l4, l5, l6, l7] (.inl x :: st) w Q := zR_go (zst zT_44_228 rfl)
theorem zT_44_229 : zT 44 229 = some (.iaload, 1, 0, []) := by decide +kernel
theorem zr_44_229 {l0 l1 l2 l3 l4 l5 l6 l7 : Option zV} {j : Int} {h : Nat} {st : List zV} {w : zW} {Q : Option zV → zW → Prop} (hk : (zk w h = zNC ∨ zk w h = zNC + 2) ∧ 0 ≤ zN j ∧ zN j < zl w h) : zR 44 229 [l0, l1, l2, l3, l4, l5, l6, l7] (.inl j :: .inr (some h) :: st) w Q = zR 44 230 [l0, l1, l2, l3, l4, l5, l6, l7] (.inl (za w h (zN j).toNat) :: st) w Q := zR_go (zst zT_44_229 (if_pos hk))
theorem zT_44_230 : zT 44 230 = some (.iconst 1, 1, 0, []) := by decide +kernel
theorem zr_44_230 {l0 l1 l2 l3 l4 l5 l6 l7 : Option zV} {st : List zV} {w : zW} {Q : Option zV → zW → Prop}  : zR 44 230 [l0, l1, l2, l3, l4, l5, l6, l7] st w Q = zR 44 231 [l0, l1, l2, l3, l4, l5, l6, l7] (.inl 1 :: st) w Q := zR_go (zst zT_44_230 rfl)
theorem zT_44_231 : zT 44 231 = some (.isub, 1, 0, []) := by decide +kernel
theorem zr_44_231 {l0 l1 l2 l3 l4 l5 l6 l7 : Option zV} {x y : Int} {st : List zV} {w : zW} {Q : Option zV → zW → Prop}  : zR 44 231 [l0, l1, l2, l3, l4, l5, l6, l7] (.inl y :: .inl x :: st) w Q = zR 44 232 [l0, l1, l2, l3, l4, l5, l6, l7] (.inl (x - y) :: st) w Q := zR_go (zst zT_44_231 rfl)
theorem zT_44_232 : zT 44 232 = some (.putfield 163, 3, 0, [(11, 39)]) := by decide +kernel
theorem zr_44_232 {l0 l1 l2 l3 l4 l5 l6 l7 : Option zV} {h : Nat} {x : Int} {st : List zV} {w : zW} {Q : Option zV → zW → Prop} (hk : zk w h = 11) : zR 44 232 [l0, l1, l2, l3, l4, l5, l6, l7] (.inl x :: .inr (some h) :: st) w Q = zR 44 235 [l0, l1, l2, l3, l4, l5, l6, l7] st (zsf w 111 h x) Q := zR_go (zst zT_44_232 (zput_i hk rfl))
theorem zT_44_235 : zT 44 235 = some (.aload_n 0, 1, 0, []) := by decide +kernel
theorem zr_44_235 {l1 l2 l3 l4 l5 l6 l7 : Option zV} {x : Option Nat} {st : List zV} {w : zW} {Q : Option zV → zW → Prop}  : zR 44 235 [some (.inr x), l1, l2, l3, l4, l5, l6, l7] st w Q = zR 44 236 [some (.inr x), l1, l2, l3, l4, l5, l6, l7] (.inr x :: st) w Q := zR_go (zst zT_44_235 rfl)
theorem zT_44_236 : zT 44 236 = some (.getfield 35, 3, 0, [(11, 9)]) := by decide +kernel
theorem zr_44_236 {l0 l1 l2 l3 l4 l5 l6 l7 : Option zV} {h : Nat} {st : List zV} {w : zW} {Q : Option zV → zW → Prop} (hk : zk w h = 11) : zR 44 236 [l0, l1, l2, l3, l4, l5, l6, l7] (.inr (some h) :: st) w Q = zR 44 239 [l0, l1, l2, l3, l4, l5, l6, l7] (.inr (zp w 81 h) :: st) w Q := zR_go (zst zT_44_236 (zget_r hk rfl))
theorem zT_44_239 : zT 44 239 = some (.iload_n 3, 1, 0, []) := by decide +kernel
theorem zr_44_239 {l0 l1 l2 l4 l5 l6 l7 : Option zV} {x : Int} {st : List zV} {w : zW} {Q : Option zV → zW → Prop}  : zR 44 239 [l0, l1, l2, some (.inl x), l4, l5, l6, l7] st w Q = zR 44 240 [l0, l1, l2, some (.inl x), l4, l5, l6, l7] (.inl x :: st) w Q := zR_go (zst zT_44_239 rfl)
theorem zT_44_240 : zT 44 240 = some (.iconst 0, 1, 0, []) := by decide +kernel
theorem zr_44_240 {l0 l1 l2 l3 l4 l5 l6 l7 : Option zV} {st : List zV} {w : zW} {Q : Option zV → zW → Prop}  : zR 44 240 [l0, l1, l2, l3, l4, l5, l6, l7] st w Q = zR 44 241 [l0, l1, l2, l3, l4, l5, l6, l7] (.inl 0 :: st) w Q := zR_go (zst zT_44_240 rfl)
theorem zT_44_241 : zT 44 241 = some (.iastore, 1, 0, []) := by decide +kernel
theorem zr_44_241 {l0 l1 l2 l3 l4 l5 l6 l7 : Option zV} {j x : Int} {h : Nat} {st : List zV} {w : zW} {Q : Option zV → zW → Prop} (hk : zk w h = zNC ∧ 0 ≤ zN j ∧ zN j < zl w h) : zR 44 241 [l0, l1, l2, l3, l4, l5, l6, l7] (.inl x :: .inl j :: .inr (some h) :: st) w Q = zR 44 242 [l0, l1, l2, l3, l4, l5, l6, l7] st (zsa w h (zN j).toNat x) Q := zR_go (zst zT_44_241 (if_pos hk))
theorem zT_44_242 : zT 44 242 = some (.iconst 0, 1, 0, []) := by decide +kernel
theorem zr_44_242 {l0 l1 l2 l3 l4 l5 l6 l7 : Option zV} {st : List zV} {w : zW} {Q : Option zV → zW → Prop}  : zR 44 242 [l0, l1, l2, l3, l4, l5, l6, l7] st w Q = zR 44 243 [l0, l1, l2, l3, l4, l5, l6, l7] (.inl 0 :: st) w Q := zR_go (zst zT_44_242 rfl)
theorem zT_44_243 : zT 44 243 = some (.istore 7, 2, 0, []) := by decide +kernel
theorem zr_44_243 {l0 l1 l2 l3 l4 l5 l6 l7 : Option zV} {x : Int} {st : List zV} {w : zW} {Q : Option zV → zW → Prop}  : zR 44 243 [l0, l1, l2, l3, l4, l5, l6, l7] (.inl x :: st) w Q = zR 44 245 [l0, l1, l2, l3, l4, l5, l6, some (.inl x)] st w Q := zR_go (zst zT_44_243 rfl)
theorem zT_44_245 : zT 44 245 = some (.iload 7, 2, 0, []) := by decide +kernel
theorem zr_44_245 {l0 l1 l2 l3 l4 l5 l6 : Option zV} {x : Int} {st : List zV} {w : zW} {Q : Option zV → zW → Prop}  : zR 44 245 [l0, l1, l2, l3, l4, l5, l6, some (.inl x)] st w Q = zR 44 247 [l0, l1, l2, l3, l4, l5, l6, some (.inl x)] (.inl x :: st) w Q := zR_go (zst zT_44_245 rfl)
theorem zT_44_247 : zT 44 247 = some (.aload_n 0, 1, 0, []) := by decide +kernel
theorem zr_44_247 {l1 l2 l3 l4 l5 l6 l7 : Option zV} {x : Option Nat} {st : List zV} {w : zW} {Q : Option zV → zW → Prop}  : zR 44 247 [some (.inr x), l1, l2, l3, l4, l5, l6, l7] st w Q = zR 44 248 [some (.inr x), l1, l2, l3, l4, l5, l6, l7] (.inr x :: st) w Q := zR_go (zst zT_44_247 rfl)
theorem zT_44_248 : zT 44 248 = some (.getfield 163, 3, 0, [(11, 39)]) := by decide +kernel
theorem zr_44_248 {l0 l1 l2 l3 l4 l5 l6 l7 : Option zV} {h : Nat} {st : List zV} {w : zW} {Q : Option zV → zW → Prop} (hk : zk w h = 11) : zR 44 248 [l0, l1, l2, l3, l4, l5, l6, l7] (.inr (some h) :: st) w Q = zR 44 251 [l0, l1, l2, l3, l4, l5, l6, l7] (.inl (zf w 111 h) :: st) w Q := zR_go (zst zT_44_248 (zget_i hk (Or.inl rfl)))
theorem zT_44_251 : zT 44 251 = some (.if_icmp .ge 28, 3, 0, []) := by decide +kernel
theorem zr_44_251 {l0 l1 l2 l3 l4 l5 l6 l7 : Option zV} {x y : Int} {st : List zV} {w : zW} {Q : Option zV → zW → Prop}  : zR 44 251 [l0, l1, l2, l3, l4, l5, l6, l7] (.inl y :: .inl x :: st) w Q = (if zN y ≤ zN x then zR 44 279 [l0, l1, l2, l3, l4, l5, l6, l7] st w Q else zR 44 254 [l0, l1, l2, l3, l4, l5, l6, l7] st w Q) := zR_if (zstB zT_44_251 rfl) (by simp [zcmp])
theorem zT_44_254 : zT 44 254 = some (.aload_n 0, 1, 0, []) := by decide +kernel
theorem zr_44_254 {l1 l2 l3 l4 l5 l6 l7 : Option zV} {x : Option Nat} {st : List zV} {w : zW} {Q : Option zV → zW → Prop}  : zR 44 254 [some (.inr x), l1, l2, l3, l4, l5, l6, l7] st w Q = zR 44 255 [some (.inr x), l1, l2, l3, l4, l5, l6, l7] (.inr x :: st) w Q := zR_go (zst zT_44_254 rfl)
theorem zT_44_255 : zT 44 255 = some (.getfield 113, 3, 0, [(11, 38)]) := by decide +kernel
theorem zr_44_255 {l0 l1 l2 l3 l4 l5 l6 l7 : Option zV} {h : Nat} {st : List zV} {w : zW} {Q : Option zV → zW → Prop} (hk : zk w h = 11) : zR 44 255 [l0, l1, l2, l3, l4, l5, l6, l7] (.inr (some h) :: st) w Q = zR 44 258 [l0, l1, l2, l3, l4, l5, l6, l7] (.inr (zp w 110 h) :: st) w Q := zR_go (zst zT_44_255 (zget_r hk rfl))
theorem zT_44_258 : zT 44 258 = some (.iload 7, 2, 0, []) := by decide +kernel
theorem zr_44_258 {l0 l1 l2 l3 l4 l5 l6 : Option zV} {x : Int} {st : List zV} {w : zW} {Q : Option zV → zW → Prop}  : zR 44 258 [l0, l1, l2, l3, l4, l5, l6, some (.inl x)] st w Q = zR 44 260 [l0, l1, l2, l3, l4, l5, l6, some (.inl x)] (.inl x :: st) w Q := zR_go (zst zT_44_258 rfl)
theorem zT_44_260 : zT 44 260 = some (.aload_n 0, 1, 0, []) := by decide +kernel
theorem zr_44_260 {l1 l2 l3 l4 l5 l6 l7 : Option zV} {x : Option Nat} {st : List zV} {w : zW} {Q : Option zV → zW → Prop}  : zR 44 260 [some (.inr x), l1, l2, l3, l4, l5, l6, l7] st w Q = zR 44 261 [some (.inr x), l1, l2, l3, l4, l5, l6, l7] (.inr x :: st) w Q := zR_go (zst zT_44_260 rfl)
theorem zT_44_261 : zT 44 261 = some (.getfield 44, 3, 0, [(11, 12)]) := by decide +kernel
theorem zr_44_261 {l0 l1 l2 l3 l4 l5 l6 l7 : Option zV} {h : Nat} {st : List zV} {w : zW} {Q : Option zV → zW → Prop} (hk : zk w h = 11) : zR 44 261 [l0, l1, l2, l3, l4, l5, l6, l7] (.inr (some h) :: st) w Q = zR 44 264 [l0, l1, l2, l3, l4, l5, l6, l7] (.inr (zp w 84 h) :: st) w Q := zR_go (zst zT_44_261 (zget_r hk rfl))
theorem zT_44_264 : zT 44 264 = some (.bipush 32, 2, 0, []) := by decide +kernel
theorem zr_44_264 {l0 l1 l2 l3 l4 l5 l6 l7 : Option zV} {st : List zV} {w : zW} {Q : Option zV → zW → Prop}  : zR 44 264 [l0, l1, l2, l3, l4, l5, l6, l7] st w Q = zR 44 266 [l0, l1, l2, l3, l4, l5, l6, l7] (.inl 32 :: st) w Q := zR_go (zst zT_44_264 rfl)
theorem zT_44_266 : zT 44 266 = some (.iload_n 3, 1, 0, []) := by decide +kernel
theorem zr_44_266 {l0 l1 l2 l4 l5 l6 l7 : Option zV} {x : Int} {st : List zV} {w : zW} {Q : Option zV → zW → Prop}  : zR 44 266 [l0, l1, l2, some (.inl x), l4, l5, l6, l7] st w Q = zR 44 267 [l0, l1, l2, some (.inl x), l4, l5, l6, l7] (.inl x :: st) w Q := zR_go (zst zT_44_266 rfl)
theorem zT_44_267 : zT 44 267 = some (.imul, 1, 0, []) := by decide +kernel
theorem zr_44_267 {l0 l1 l2 l3 l4 l5 l6 l7 : Option zV} {x y : Int} {st : List zV} {w : zW} {Q : Option zV → zW → Prop}  : zR 44 267 [l0, l1, l2, l3, l4, l5, l6, l7] (.inl y :: .inl x :: st) w Q = zR 44 268 [l0, l1, l2, l3, l4, l5, l6, l7] (.inl (x * y) :: st) w Q := zR_go (zst zT_44_267 rfl)
theorem zT_44_268 : zT 44 268 = some (.iload 7, 2, 0, []) := by decide +kernel
theorem zr_44_268 {l0 l1 l2 l3 l4 l5 l6 : Option zV} {x : Int} {st : List zV} {w : zW} {Q : Option zV → zW → Prop}  : zR 44 268 [l0, l1, l2, l3, l4, l5, l6, some (.inl x)] st w Q = zR 44 270 [l0, l1, l2, l3, l4, l5, l6, some (.inl x)] (.inl x :: st) w Q := zR_go (zst zT_44_268 rfl)
theorem zT_44_270 : zT 44 270 = some (.iadd, 1, 0, []) := by decide +kernel
theorem zr_44_270 {l0 l1 l2 l3 l4 l5 l6 l7 : Option zV} {x y : Int} {st : List zV} {w : zW} {Q : Option zV → zW → Prop}  : zR 44 270 [l0, l1, l2, l3, l4, l5, l6, l7] (.inl y :: .inl x :: st) w Q = zR 44 271 [l0, l1, l2, l3, l4, l5, l6, l7] (.inl (x + y) :: st) w Q := zR_go (zst zT_44_270 rfl)
theorem zT_44_271 : zT 44 271 = some (.iaload, 1, 0, []) := by decide +kernel
theorem zr_44_271 {l0 l1 l2 l3 l4 l5 l6 l7 : Option zV} {j : Int} {h : Nat} {st : List zV} {w : zW} {Q : Option zV → zW → Prop} (hk : (zk w h = zNC ∨ zk w h = zNC + 2) ∧ 0 ≤ zN j ∧ zN j < zl w h) : zR 44 271 [l0, l1, l2, l3, l4, l5, l6, l7] (.inl j :: .inr (some h) :: st) w Q = zR 44 272 [l0, l1, l2, l3, l4, l5, l6, l7] (.inl (za w h (zN j).toNat) :: st) w Q := zR_go (zst zT_44_271 (if_pos hk))
theorem zT_44_272 : zT 44 272 = some (.iastore, 1, 0, []) := by decide +kernel
theorem zr_44_272 {l0 l1 l2 l3 l4 l5 l6 l7 : Option zV} {j x : Int} {h : Nat} {st : List zV} {w : zW} {Q : Option zV → zW → Prop} (hk : zk w h = zNC ∧ 0 ≤ zN j ∧ zN j < zl w h) : zR 44 272 [l0, l1, l2, l3, l4, l5, l6, l7] (.inl x :: .inl j :: .inr (some h) :: st) w Q = zR 44 273 [l0, l1, l2, l3, l4, l5, l6, l7] st (zsa w h (zN j).toNat x) Q := zR_go (zst zT_44_272 (if_pos hk))
theorem zT_44_273 : zT 44 273 = some (.iinc 7 1, 3, 0, []) := by decide +kernel
theorem zr_44_273 {l0 l1 l2 l3 l4 l5 l6 : Option zV} {x : Int} {st : List zV} {w : zW} {Q : Option zV → zW → Prop}  : zR 44 273 [l0, l1, l2, l3, l4, l5, l6, some (.inl x)] st w Q = zR 44 276 [l0, l1, l2, l3, l4, l5, l6, some (.inl (x + 1))] st w Q := zR_go (zst zT_44_273 rfl)
theorem zT_44_276 : zT 44 276 = some (.goto (-31), 3, 0, []) := by decide +kernel
theorem zr_44_276 {l0 l1 l2 l3 l4 l5 l6 l7 : Option zV} {st : List zV} {w : zW} {Q : Option zV → zW → Prop}  : zR 44 276 [l0, l1, l2, l3, l4, l5, l6, l7] st w Q = zR 44 245 [l0, l1, l2, l3, l4, l5, l6, l7] st w Q := zR_go (zst zT_44_276 rfl)
theorem zT_44_279 : zT 44 279 = some (.aload_n 0, 1, 0, []) := by decide +kernel
theorem zr_44_279 {l1 l2 l3 l4 l5 l6 l7 : Option zV} {x : Option Nat} {st : List zV} {w : zW} {Q : Option zV → zW → Prop}  : zR 44 279 [some (.inr x), l1, l2, l3, l4, l5, l6, l7] st w Q = zR 44 280 [some (.inr x), l1, l2, l3, l4, l5, l6, l7] (.inr x :: st) w Q := zR_go (zst zT_44_279 rfl)
theorem zT_44_280 : zT 44 280 = some (.iload_n 1, 1, 0, []) := by decide +kernel
theorem zr_44_280 {l0 l2 l3 l4 l5 l6 l7 : Option zV} {x : Int} {st : List zV} {w : zW} {Q : Option zV → zW → Prop}  : zR 44 280 [l0, some (.inl x), l2, l3, l4, l5, l6, l7] st w Q = zR 44 281 [l0, some (.inl x), l2, l3, l4, l5, l6, l7] (.inl x :: st) w Q := zR_go (zst zT_44_280 rfl)
theorem zT_44_281 : zT 44 281 = some (.iload_n 2, 1, 0, []) := by decide +kernel
theorem zr_44_281 {l0 l1 l3 l4 l5 l6 l7 : Option zV} {x : Int} {st : List zV} {w : zW} {Q : Option zV → zW → Prop}  : zR 44 281 [l0, l1, some (.inl x), l3, l4, l5, l6, l7] st w Q = zR 44 282 [l0, l1, some (.inl x), l3, l4, l5, l6, l7] (.inl x :: st) w Q := zR_go (zst zT_44_281 rfl)
theorem zT_44_282 : zT 44 282 = some (.aload_n 0, 1, 0, []) := by decide +kernel
theorem zr_44_282 {l1 l2 l3 l4 l5 l6 l7 : Option zV} {x : Option Nat} {st : List zV} {w : zW} {Q : Option zV → zW → Prop}  : zR 44 282 [some (.inr x), l1, l2, l3, l4, l5, l6, l7] st w Q = zR 44 283 [some (.inr x), l1, l2, l3, l4, l5, l6, l7] (.inr x :: st) w Q := zR_go (zst zT_44_282 rfl)
theorem zT_44_283 : zT 44 283 = some (.getfield 38, 3, 0, [(11, 10)]) := by decide +kernel
theorem zr_44_283 {l0 l1 l2 l3 l4 l5 l6 l7 : Option zV} {h : Nat} {st : List zV} {w : zW} {Q : Option zV → zW → Prop} (hk : zk w h = 11) : zR 44 283 [l0, l1, l2, l3, l4, l5, l6, l7] (.inr (some h) :: st) w Q = zR 44 286 [l0, l1, l2, l3, l4, l5, l6, l7] (.inr (zp w 82 h) :: st) w Q := zR_go (zst zT_44_283 (zget_r hk rfl))
theorem zT_44_286 : zT 44 286 = some (.iload_n 3, 1, 0, []) := by decide +kernel
theorem zr_44_286 {l0 l1 l2 l4 l5 l6 l7 : Option zV} {x : Int} {st : List zV} {w : zW} {Q : Option zV → zW → Prop}  : zR 44 286 [l0, l1, l2, some (.inl x), l4, l5, l6, l7] st w Q = zR 44 287 [l0, l1, l2, some (.inl x), l4, l5, l6, l7] (.inl x :: st) w Q := zR_go (zst zT_44_286 rfl)
theorem zT_44_287 : zT 44 287 = some (.iaload, 1, 0, []) := by decide +kernel
theorem zr_44_287 {l0 l1 l2 l3 l4 l5 l6 l7 : Option zV} {j : Int} {h : Nat} {st : List zV} {w : zW} {Q : Option zV → zW → Prop} (hk : (zk w h = zNC ∨ zk w h = zNC + 2) ∧ 0 ≤ zN j ∧ zN j < zl w h) : zR 44 287 [l0, l1, l2, l3, l4, l5, l6, l7] (.inl j :: .inr (some h) :: st) w Q = zR 44 288 [l0, l1, l2, l3, l4, l5, l6, l7] (.inl (za w h (zN j).toNat) :: st) w Q := zR_go (zst zT_44_287 (if_pos hk))
theorem zT_44_288 : zT 44 288 = some (.invokevirtual 193, 3, 3, [(11, 41)]) := by decide +kernel
theorem zr_44_288 {l0 l1 l2 l3 l4 l5 l6 l7 : Option zV} {a0 a1 a2 : zV} {h : Nat} {st : List zV} {w : zW} {Q : Option zV → zW → Prop} (hs : st.length ≤ 8) (hk : zk w h = 11) : zR 44 288 [l0, l1, l2, l3, l4, l5, l6, l7] (a2 :: a1 :: a0 :: .inr (some h) :: st) w Q = zR 41 0 [some (.inr (some h)), some a0, some a1, some a2, none] [] w (fun r w2 => zR 44 291 [l0, l1, l2, l3, l4, l5, l6, l7] (r.toList ++ st) w2 Q) := zR_call (zst zT_44_288 (zcall_v [a2, a1, a0] rfl hs hk rfl))
theorem zT_44_291 : zT 44 291 = some (.return_, 1, 0, []) := by decide +kernel
theorem zr_44_291 {l0 l1 l2 l3 l4 l5 l6 l7 : Option zV} {w : zW} {Q : Option zV → zW → Prop} : zR 44 291 [l0, l1, l2, l3, l4, l5, l6, l7] [] w Q = Q none w := zR_ret (zst zT_44_291 rfl)
theorem zT_45_0 : zT 45 0 = some (.iload_n 1, 1, 0, []) := by decide +kernel
theorem zr_45_0 {l0 l2 l3 l4 l5 : Option zV} {x : Int} {st : List zV} {w : zW} {Q : Option zV → zW → Prop}  : zR 45 0 [l0, some (.inl x), l2, l3, l4, l5] st w Q = zR 45 1 [l0, some (.inl x), l2, l3, l4, l5] (.inl x :: st) w Q := zR_go (zst zT_45_0 rfl)
theorem zT_45_1 : zT 45 1 = some (.invokestatic 196, 3, 1, [(25, 1)]) := by decide +kernel
theorem zr_45_1 {l0 l1 l2 l3 l4 l5 : Option zV} {a0 : zV} {st : List zV} {w : zW} {Q : Option zV → zW → Prop} (hs : st.length ≤ 8) : zR 45 1 [l0, l1, l2, l3, l4, l5] (a0 :: st) w Q = zR 25 0 [some a0] [] w (fun r w2 => zR 45 4 [l0, l1, l2, l3, l4, l5] (r.toList ++ st) w2 Q) := zR_call (zst zT_45_1 ((zcall_s (z := 1) (pc := 1) (j := 25) (ls := [l0, l1, l2, l3, l4, l5]) (w := w) [a0] rfl hs : zi_static 1 [(25, 1)] 1 [l0, l1, l2, l3, l4, l5] ([a0] ++ st) w = _)))
theorem zT_45_4 : zT 45 4 = some (.istore_n 2, 1, 0, []) := by decide +kernel
theorem zr_45_4 {l0 l1 l2 l3 l4 l5 : Option zV} {x : Int} {st : List zV} {w : zW} {Q : Option zV → zW → Prop}  : zR 45 4 [l0, l1, l2, l3, l4, l5] (.inl x :: st) w Q = zR 45 5 [l0, l1, some (.inl x), l3, l4, l5] st w Q := zR_go (zst zT_45_4 rfl)
theorem zT_45_5 : zT 45 5 = some (.aload_n 0, 1, 0, []) := by decide +kernel
theorem zr_45_5 {l1 l2 l3 l4 l5 : Option zV} {x : Option Nat} {st : List zV} {w : zW} {Q : Option zV → zW → Prop}  : zR 45 5 [some (.inr x), l1, l2, l3, l4, l5] st w Q = zR 45 6 [some (.inr x), l1, l2, l3, l4, l5] (.inr x :: st) w Q := zR_go (zst zT_45_5 rfl)
theorem zT_45_6 : zT 45 6 = some (.getfield 110, 3, 0, [(11, 37)]) := by decide +kernel
theorem zr_45_6 {l0 l1 l2 l3 l4 l5 : Option zV} {h : Nat} {st : List zV} {w : zW} {Q : Option zV → zW → Prop} (hk : zk w h = 11) : zR 45 6 [l0, l1, l2, l3, l4, l5] (.inr (some h) :: st) w Q = zR 45 9 [l0, l1, l2, l3, l4, l5] (.inr (zp w 109 h) :: st) w Q := zR_go (zst zT_45_6 (zget_r hk rfl))
theorem zT_45_9 : zT 45 9 = some (.iconst 0, 1, 0, []) := by decide +kernel
theorem zr_45_9 {l0 l1 l2 l3 l4 l5 : Option zV} {st : List zV} {w : zW} {Q : Option zV → zW → Prop}  : zR 45 9 [l0, l1, l2, l3, l4, l5] st w Q = zR 45 10 [l0, l1, l2, l3, l4, l5] (.inl 0 :: st) w Q := zR_go (zst zT_45_9 rfl)
theorem zT_45_10 : zT 45 10 = some (.iaload, 1, 0, []) := by decide +kernel
theorem zr_45_10 {l0 l1 l2 l3 l4 l5 : Option zV} {j : Int} {h : Nat} {st : List zV} {w : zW} {Q : Option zV → zW → Prop} (hk : (zk w h = zNC ∨ zk w h = zNC + 2) ∧ 0 ≤ zN j ∧ zN j < zl w h) : zR 45 10 [l0, l1, l2, l3, l4, l5] (.inl j :: .inr (some h) :: st) w Q = zR 45 11 [l0, l1, l2, l3, l4, l5] (.inl (za w h (zN j).toNat) :: st) w Q := zR_go (zst zT_45_10 (if_pos hk))
theorem zT_45_11 : zT 45 11 = some (.istore_n 3, 1, 0, []) := by decide +kernel
theorem zr_45_11 {l0 l1 l2 l3 l4 l5 : Option zV} {x : Int} {st : List zV} {w : zW} {Q : Option zV → zW → Prop}  : zR 45 11 [l0, l1, l2, l3, l4, l5] (.inl x :: st) w Q = zR 45 12 [l0, l1, l2, some (.inl x), l4, l5] st w Q := zR_go (zst zT_45_11 rfl)
theorem zT_45_12 : zT 45 12 = some (.iload_n 3, 1, 0, []) := by decide +kernel
theorem zr_45_12 {l0 l1 l2 l4 l5 : Option zV} {x : Int} {st : List zV} {w : zW} {Q : Option zV → zW → Prop}  : zR 45 12 [l0, l1, l2, some (.inl x), l4, l5] st w Q = zR 45 13 [l0, l1, l2, some (.inl x), l4, l5] (.inl x :: st) w Q := zR_go (zst zT_45_12 rfl)
theorem zT_45_13 : zT 45 13 = some (.aload_n 0, 1, 0, []) := by decide +kernel
theorem zr_45_13 {l1 l2 l3 l4 l5 : Option zV} {x : Option Nat} {st : List zV} {w : zW} {Q : Option zV → zW → Prop}  : zR 45 13 [some (.inr x), l1, l2, l3, l4, l5] st w Q = zR 45 14 [some (.inr x), l1, l2, l3, l4, l5] (.inr x :: st) w Q := zR_go (zst zT_45_13 rfl)
theorem zT_45_14 : zT 45 14 = some (.getfield 32, 3, 0, [(11, 8)]) := by decide +kernel
theorem zr_45_14 {l0 l1 l2 l3 l4 l5 : Option zV} {h : Nat} {st : List zV} {w : zW} {Q : Option zV → zW → Prop} (hk : zk w h = 11) : zR 45 14 [l0, l1, l2, l3, l4, l5] (.inr (some h) :: st) w Q = zR 45 17 [l0, l1, l2, l3, l4, l5] (.inr (zp w 80 h) :: st) w Q := zR_go (zst zT_45_14 (zget_r hk rfl))
theorem zT_45_17 : zT 45 17 = some (.iload_n 2, 1, 0, []) := by decide +kernel
theorem zr_45_17 {l0 l1 l3 l4 l5 : Option zV} {x : Int} {st : List zV} {w : zW} {Q : Option zV → zW → Prop}  : zR 45 17 [l0, l1, some (.inl x), l3, l4, l5] st w Q = zR 45 18 [l0, l1, some (.inl x), l3, l4, l5] (.inl x :: st) w Q := zR_go (zst zT_45_17 rfl)
theorem zT_45_18 : zT 45 18 = some (.iaload, 1, 0, []) := by decide +kernel
theorem zr_45_18 {l0 l1 l2 l3 l4 l5 : Option zV} {j : Int} {h : Nat} {st : List zV} {w : zW} {Q : Option zV → zW → Prop} (hk : (zk w h = zNC ∨ zk w h = zNC + 2) ∧ 0 ≤ zN j ∧ zN j < zl w h) : zR 45 18 [l0, l1, l2, l3, l4, l5] (.inl j :: .inr (some h) :: st) w Q = zR 45 19 [l0, l1, l2, l3, l4, l5] (.inl (za w h (zN j).toNat) :: st) w Q := zR_go (zst zT_45_18 (if_pos hk))
theorem zT_45_19 : zT 45 19 = some (.if_icmp .ne 11, 3, 0, []) := by decide +kernel
theorem zr_45_19 {l0 l1 l2 l3 l4 l5 : Option zV} {x y : Int} {st : List zV} {w : zW} {Q : Option zV → zW → Prop}  : zR 45 19 [l0, l1, l2, l3, l4, l5] (.inl y :: .inl x :: st) w Q = (if zN x ≠ zN y then zR 45 30 [l0, l1, l2, l3, l4, l5] st w Q else zR 45 22 [l0, l1, l2, l3, l4, l5] st w Q) := zR_if (zstB zT_45_19 rfl) (by simp [zcmp])
theorem zT_45_22 : zT 45 22 = some (.aload_n 0, 1, 0, []) := by decide +kernel
theorem zr_45_22 {l1 l2 l3 l4 l5 : Option zV} {x : Option Nat} {st : List zV} {w : zW} {Q : Option zV → zW → Prop}  : zR 45 22 [some (.inr x), l1, l2, l3, l4, l5] st w Q = zR 45 23 [some (.inr x), l1, l2, l3, l4, l5] (.inr x :: st) w Q := zR_go (zst zT_45_22 rfl)
theorem zT_45_23 : zT 45 23 = some (.iload_n 2, 1, 0, []) := by decide +kernel
theorem zr_45_23 {l0 l1 l3 l4 l5 : Option zV} {x : Int} {st : List zV} {w : zW} {Q : Option zV → zW → Prop}  : zR 45 23 [l0, l1, some (.inl x), l3, l4, l5] st w Q = zR 45 24 [l0, l1, some (.inl x), l3, l4, l5] (.inl x :: st) w Q := zR_go (zst zT_45_23 rfl)
theorem zT_45_24 : zT 45 24 = some (.invokevirtual 199, 3, 1, [(11, 44)]) := by decide +kernel
theorem zr_45_24 {l0 l1 l2 l3 l4 l5 : Option zV} {a0 : zV} {h : Nat} {st : List zV} {w : zW} {Q : Option zV → zW → Prop} (hs : st.length ≤ 8) (hk : zk w h = 11) : zR 45 24 [l0, l1, l2, l3, l4, l5] (a0 :: .inr (some h) :: st) w Q = zR 44 0 [some (.inr (some h)), some a0, none, none, none, none, none, none] [] w (fun r w2 => zR 45 27 [l0, l1, l2, l3, l4, l5] (r.toList ++ st) w2 Q) := zR_call (zst zT_45_24 (zcall_v [a0] rfl hs hk rfl))
theorem zT_45_27 : zT 45 27 = some (.goto 116, 3, 0, []) := by decide +kernel
theorem zr_45_27 {l0 l1 l2 l3 l4 l5 : Option zV} {st : List zV} {w : zW} {Q : Option zV → zW → Prop}  : zR 45 27 [l0, l1, l2, l3, l4, l5] st w Q = zR 45 143 [l0, l1, l2, l3, l4, l5] st w Q := zR_go (zst zT_45_27 rfl)
theorem zT_45_30 : zT 45 30 = some (.iload_n 2, 1, 0, []) := by decide +kernel
theorem zr_45_30 {l0 l1 l3 l4 l5 : Option zV} {x : Int} {st : List zV} {w : zW} {Q : Option zV → zW → Prop}  : zR 45 30 [l0, l1, some (.inl x), l3, l4, l5] st w Q = zR 45 31 [l0, l1, some (.inl x), l3, l4, l5] (.inl x :: st) w Q := zR_go (zst zT_45_30 rfl)
theorem zT_45_31 : zT 45 31 = some (.iconst 1, 1, 0, []) := by decide +kernel
theorem zr_45_31 {l0 l1 l2 l3 l4 l5 : Option zV} {st : List zV} {w : zW} {Q : Option zV → zW → Prop}  : zR 45 31 [l0, l1, l2, l3, l4, l5] st w Q = zR 45 32 [l0, l1, l2, l3, l4, l5] (.inl 1 :: st) w Q := zR_go (zst zT_45_31 rfl)
theorem zT_45_32 : zT 45 32 = some (.if_icmp .ne 111, 3, 0, []) := by decide +kernel
theorem zr_45_32 {l0 l1 l2 l3 l4 l5 : Option zV} {x y : Int} {st : List zV} {w : zW} {Q : Option zV → zW → Prop}  : zR 45 32 [l0, l1, l2, l3, l4, l5] (.inl y :: .inl x :: st) w Q = (if zN x ≠ zN y then zR 45 143 [l0, l1, l2, l3, l4, l5] st w Q else zR 45 35 [l0, l1, l2, l3, l4, l5] st w Q) := zR_if (zstB zT_45_32 rfl) (by simp [zcmp])
theorem zT_45_35 : zT 45 35 = some (.aload_n 0, 1, 0, []) := by decide +kernel
theorem zr_45_35 {l1 l2 l3 l4 l5 : Option zV} {x : Option Nat} {st : List zV} {w : zW} {Q : Option zV → zW → Prop}  : zR 45 35 [some (.inr x), l1, l2, l3, l4, l5] st w Q = zR 45 36 [some (.inr x), l1, l2, l3, l4, l5] (.inr x :: st) w Q := zR_go (zst zT_45_35 rfl)
theorem zT_45_36 : zT 45 36 = some (.getfield 7, 3, 0, [(11, 1)]) := by decide +kernel
theorem zr_45_36 {l0 l1 l2 l3 l4 l5 : Option zV} {h : Nat} {st : List zV} {w : zW} {Q : Option zV → zW → Prop} (hk : zk w h = 11) : zR 45 36 [l0, l1, l2, l3, l4, l5] (.inr (some h) :: st) w Q = zR 45 39 [l0, l1, l2, l3, l4, l5] (.inr (zp w 73 h) :: st) w Q := zR_go (zst zT_45_36 (zget_r hk rfl))
theorem zT_45_39 : zT 45 39 = some (.iload_n 1, 1, 0, []) := by decide +kernel
theorem zr_45_39 {l0 l2 l3 l4 l5 : Option zV} {x : Int} {st : List zV} {w : zW} {Q : Option zV → zW → Prop}  : zR 45 39 [l0, some (.inl x), l2, l3, l4, l5] st w Q = zR 45 40 [l0, some (.inl x), l2, l3, l4, l5] (.inl x :: st) w Q := zR_go (zst zT_45_39 rfl)
theorem zT_45_40 : zT 45 40 = some (.iaload, 1, 0, []) := by decide +kernel
theorem zr_45_40 {l0 l1 l2 l3 l4 l5 : Option zV} {j : Int} {h : Nat} {st : List zV} {w : zW} {Q : Option zV → zW → Prop} (hk : (zk w h = zNC ∨ zk w h = zNC + 2) ∧ 0 ≤ zN j ∧ zN j < zl w h) : zR 45 40 [l0, l1, l2, l3, l4, l5] (.inl j :: .inr (some h) :: st) w Q = zR 45 41 [l0, l1, l2, l3, l4, l5] (.inl (za w h (zN j).toNat) :: st) w Q := zR_go (zst zT_45_40 (if_pos hk))
theorem zT_45_41 : zT 45 41 = some (.ifCond .ne 12, 3, 0, []) := by decide +kernel
theorem zr_45_41 {l0 l1 l2 l3 l4 l5 : Option zV} {x : Int} {st : List zV} {w : zW} {Q : Option zV → zW → Prop}  : zR 45 41 [l0, l1, l2, l3, l4, l5] (.inl x :: st) w Q = (if zN x ≠ 0 then zR 45 53 [l0, l1, l2, l3, l4, l5] st w Q else zR 45 44 [l0, l1, l2, l3, l4, l5] st w Q) := zR_if (zstB zT_45_41 rfl) (by simp [zcmp])
theorem zT_45_44 : zT 45 44 = some (.iload_n 3, 1, 0, []) := by decide +kernel
theorem zr_45_44 {l0 l1 l2 l4 l5 : Option zV} {x : Int} {st : List zV} {w : zW} {Q : Option zV → zW → Prop}  : zR 45 44 [l0, l1, l2, some (.inl x), l4, l5] st w Q = zR 45 45 [l0, l1, l2, some (.inl x), l4, l5] (.inl x :: st) w Q := zR_go (zst zT_45_44 rfl)
theorem zT_45_45 : zT 45 45 = some (.bipush 32, 2, 0, []) := by decide +kernel
theorem zr_45_45 {l0 l1 l2 l3 l4 l5 : Option zV} {st : List zV} {w : zW} {Q : Option zV → zW → Prop}  : zR 45 45 [l0, l1, l2, l3, l4, l5] st w Q = zR 45 47 [l0, l1, l2, l3, l4, l5] (.inl 32 :: st) w Q := zR_go (zst zT_45_45 rfl)
theorem zT_45_47 : zT 45 47 = some (.if_icmp .lt 96, 3, 0, []) := by decide +kernel
theorem zr_45_47 {l0 l1 l2 l3 l4 l5 : Option zV} {x y : Int} {st : List zV} {w : zW} {Q : Option zV → zW → Prop}  : zR 45 47 [l0, l1, l2, l3, l4, l5] (.inl y :: .inl x :: st) w Q = (if zN x < zN y then zR 45 143 [l0, l1, l2, l3, l4, l5] st w Q else zR 45 50 [l0, l1, l2, l3, l4, l5] st w Q) := zR_if (zstB zT_45_47 rfl) (by simp [zcmp])
theorem zT_45_50 : zT 45 50 = some (.goto 9, 3, 0, []) := by decide +kernel
theorem zr_45_50 {l0 l1 l2 l3 l4 l5 : Option zV} {st : List zV} {w : zW} {Q : Option zV → zW → Prop}  : zR 45 50 [l0, l1, l2, l3, l4, l5] st w Q = zR 45 59 [l0, l1, l2, l3, l4, l5] st w Q := zR_go (zst zT_45_50 rfl)
theorem zT_45_53 : zT 45 53 = some (.iload_n 3, 1, 0, []) := by decide +kernel
theorem zr_45_53 {l0 l1 l2 l4 l5 : Option zV} {x : Int} {st : List zV} {w : zW} {Q : Option zV → zW → Prop}  : zR 45 53 [l0, l1, l2, some (.inl x), l4, l5] st w Q = zR 45 54 [l0, l1, l2, some (.inl x), l4, l5] (.inl x :: st) w Q := zR_go (zst zT_45_53 rfl)
theorem zT_45_54 : zT 45 54 = some (.bipush 32, 2, 0, []) := by decide +kernel
theorem zr_45_54 {l0 l1 l2 l3 l4 l5 : Option zV} {st : List zV} {w : zW} {Q : Option zV → zW → Prop}  : zR 45 54 [l0, l1, l2, l3, l4, l5] st w Q = zR 45 56 [l0, l1, l2, l3, l4, l5] (.inl 32 :: st) w Q := zR_go (zst zT_45_54 rfl)
theorem zT_45_56 : zT 45 56 = some (.if_icmp .ge 87, 3, 0, []) := by decide +kernel
theorem zr_45_56 {l0 l1 l2 l3 l4 l5 : Option zV} {x y : Int} {st : List zV} {w : zW} {Q : Option zV → zW → Prop}  : zR 45 56 [l0, l1, l2, l3, l4, l5] (.inl y :: .inl x :: st) w Q = (if zN y ≤ zN x then zR 45 143 [l0, l1, l2, l3, l4, l5] st w Q else zR 45 59 [l0, l1, l2, l3, l4, l5] st w Q) := zR_if (zstB zT_45_56 rfl) (by simp [zcmp])
theorem zT_45_59 : zT 45 59 = some (.iload_n 1, 1, 0, []) := by decide +kernel
theorem zr_45_59 {l0 l2 l3 l4 l5 : Option zV} {x : Int} {st : List zV} {w : zW} {Q : Option zV → zW → Prop}  : zR 45 59 [l0, some (.inl x), l2, l3, l4, l5] st w Q = zR 45 60 [l0, some (.inl x), l2, l3, l4, l5] (.inl x :: st) w Q := zR_go (zst zT_45_59 rfl)
theorem zT_45_60 : zT 45 60 = some (.bipush 7, 2, 0, []) := by decide +kernel
theorem zr_45_60 {l0 l1 l2 l3 l4 l5 : Option zV} {st : List zV} {w : zW} {Q : Option zV → zW → Prop}  : zR 45 60 [l0, l1, l2, l3, l4, l5] st w Q = zR 45 62 [l0, l1, l2, l3, l4, l5] (.inl 7 :: st) w Q := zR_go (zst zT_45_60 rfl)
theorem zT_45_62 : zT 45 62 = some (.if_icmp .ne 7, 3, 0, []) := by decide +kernel
theorem zr_45_62 {l0 l1 l2 l3 l4 l5 : Option zV} {x y : Int} {st : List zV} {w : zW} {Q : Option zV → zW → Prop}  : zR 45 62 [l0, l1, l2, l3, l4, l5] (.inl y :: .inl x :: st) w Q = (if zN x ≠ zN y then zR 45 69 [l0, l1, l2, l3, l4, l5] st w Q else zR 45 65 [l0, l1, l2, l3, l4, l5] st w Q) := zR_if (zstB zT_45_62 rfl) (by simp [zcmp])
theorem zT_45_65 : zT 45 65 = some (.iconst 1, 1, 0, []) := by decide +kernel
theorem zr_45_65 {l0 l1 l2 l3 l4 l5 : Option zV} {st : List zV} {w : zW} {Q : Option zV → zW → Prop}  : zR 45 65 [l0, l1, l2, l3, l4, l5] st w Q = zR 45 66 [l0, l1, l2, l3, l4, l5] (.inl 1 :: st) w Q := zR_go (zst zT_45_65 rfl)
theorem zT_45_66 : zT 45 66 = some (.goto 5, 3, 0, []) := by decide +kernel
theorem zr_45_66 {l0 l1 l2 l3 l4 l5 : Option zV} {st : List zV} {w : zW} {Q : Option zV → zW → Prop}  : zR 45 66 [l0, l1, l2, l3, l4, l5] st w Q = zR 45 71 [l0, l1, l2, l3, l4, l5] st w Q := zR_go (zst zT_45_66 rfl)
theorem zT_45_69 : zT 45 69 = some (.bipush 7, 2, 0, []) := by decide +kernel
theorem zr_45_69 {l0 l1 l2 l3 l4 l5 : Option zV} {st : List zV} {w : zW} {Q : Option zV → zW → Prop}  : zR 45 69 [l0, l1, l2, l3, l4, l5] st w Q = zR 45 71 [l0, l1, l2, l3, l4, l5] (.inl 7 :: st) w Q := zR_go (zst zT_45_69 rfl)
theorem zT_45_71 : zT 45 71 = some (.istore 4, 2, 0, []) := by decide +kernel
theorem zr_45_71 {l0 l1 l2 l3 l4 l5 : Option zV} {x : Int} {st : List zV} {w : zW} {Q : Option zV → zW → Prop}  : zR 45 71 [l0, l1, l2, l3, l4, l5] (.inl x :: st) w Q = zR 45 73 [l0, l1, l2, l3, some (.inl x), l5] st w Q := zR_go (zst zT_45_71 rfl)
theorem zT_45_73 : zT 45 73 = some (.aload_n 0, 1, 0, []) := by decide +kernel
theorem zr_45_73 {l1 l2 l3 l4 l5 : Option zV} {x : Option Nat} {st : List zV} {w : zW} {Q : Option zV → zW → Prop}  : zR 45 73 [some (.inr x), l1, l2, l3, l4, l5] st w Q = zR 45 74 [some (.inr x), l1, l2, l3, l4, l5] (.inr x :: st) w Q := zR_go (zst zT_45_73 rfl)
theorem zT_45_74 : zT 45 74 = some (.getfield 26, 3, 0, [(11, 6)]) := by decide +kernel
theorem zr_45_74 {l0 l1 l2 l3 l4 l5 : Option zV} {h : Nat} {st : List zV} {w : zW} {Q : Option zV → zW → Prop} (hk : zk w h = 11) : zR 45 74 [l0, l1, l2, l3, l4, l5] (.inr (some h) :: st) w Q = zR 45 77 [l0, l1, l2, l3, l4, l5] (.inr (zp w 78 h) :: st) w Q := zR_go (zst zT_45_74 (zget_r hk rfl))
theorem zT_45_77 : zT 45 77 = some (.iload 4, 2, 0, []) := by decide +kernel
theorem zr_45_77 {l0 l1 l2 l3 l5 : Option zV} {x : Int} {st : List zV} {w : zW} {Q : Option zV → zW → Prop}  : zR 45 77 [l0, l1, l2, l3, some (.inl x), l5] st w Q = zR 45 79 [l0, l1, l2, l3, some (.inl x), l5] (.inl x :: st) w Q := zR_go (zst zT_45_77 rfl)
theorem zT_45_79 : zT 45 79 = some (.iaload, 1, 0, []) := by decide +kernel
theorem zr_45_79 {l0 l1 l2 l3 l4 l5 : Option zV} {j : Int} {h : Nat} {st : List zV} {w : zW} {Q : Option zV → zW → Prop} (hk : (zk w h = zNC ∨ zk w h = zNC + 2) ∧ 0 ≤ zN j ∧ zN j < zl w h) : zR 45 79 [l0, l1, l2, l3, l4, l5] (.inl j :: .inr (some h) :: st) w Q = zR 45 80 [l0, l1, l2, l3, l4, l5] (.inl (za w h (zN j).toNat) :: st) w Q := zR_go (zst zT_45_79 (if_pos hk))
theorem zT_45_80 : zT 45 80 = some (.bipush 8, 2, 0, []) := by decide +kernel
theorem zr_45_80 {l0 l1 l2 l3 l4 l5 : Option zV} {st : List zV} {w : zW} {Q : Option zV → zW → Prop}  : zR 45 80 [l0, l1, l2, l3, l4, l5] st w Q = zR 45 82 [l0, l1, l2, l3, l4, l5] (.inl 8 :: st) w Q := zR_go (zst zT_45_80 rfl)
theorem zT_45_82 : zT 45 82 = some (.if_icmp .ge 61, 3, 0, []) := by decide +kernel
theorem zr_45_82 {l0 l1 l2 l3 l4 l5 : Option zV} {x y : Int} {st : List zV} {w : zW} {Q : Option zV → zW → Prop}  : zR 45 82 [l0, l1, l2, l3, l4, l5] (.inl y :: .inl x :: st) w Q = (if zN y ≤ zN x then zR 45 143 [l0, l1, l2, l3, l4, l5] st w Q else zR 45 85 [l0, l1, l2, l3, l4, l5] st w Q) := zR_if (zstB zT_45_82 rfl) (by simp [zcmp])
theorem zT_45_85 : zT 45 85 = some (.iconst 0, 1, 0, []) := by decide +kernel
theorem zr_45_85 {l0 l1 l2 l3 l4 l5 : Option zV} {st : List zV} {w : zW} {Q : Option zV → zW → Prop}  : zR 45 85 [l0, l1, l2, l3, l4, l5] st w Q = zR 45 86 [l0, l1, l2, l3, l4, l5] (.inl 0 :: st) w Q := zR_go (zst zT_45_85 rfl)
theorem zT_45_86 : zT 45 86 = some (.istore 5, 2, 0, []) := by decide +kernel
theorem zr_45_86 {l0 l1 l2 l3 l4 l5 : Option zV} {x : Int} {st : List zV} {w : zW} {Q : Option zV → zW → Prop}  : zR 45 86 [l0, l1, l2, l3, l4, l5] (.inl x :: st) w Q = zR 45 88 [l0, l1, l2, l3, l4, some (.inl x)] st w Q := zR_go (zst zT_45_86 rfl)
theorem zT_45_88 : zT 45 88 = some (.iload 5, 2, 0, []) := by decide +kernel
theorem zr_45_88 {l0 l1 l2 l3 l4 : Option zV} {x : Int} {st : List zV} {w : zW} {Q : Option zV → zW → Prop}  : zR 45 88 [l0, l1, l2, l3, l4, some (.inl x)] st w Q = zR 45 90 [l0, l1, l2, l3, l4, some (.inl x)] (.inl x :: st) w Q := zR_go (zst zT_45_88 rfl)
theorem zT_45_90 : zT 45 90 = some (.bipush 12, 2, 0, []) := by decide +kernel
theorem zr_45_90 {l0 l1 l2 l3 l4 l5 : Option zV} {st : List zV} {w : zW} {Q : Option zV → zW → Prop}  : zR 45 90 [l0, l1, l2, l3, l4, l5] st w Q = zR 45 92 [l0, l1, l2, l3, l4, l5] (.inl 12 :: st) w Q := zR_go (zst zT_45_90 rfl)
theorem zT_45_92 : zT 45 92 = some (.if_icmp .ge 40, 3, 0, []) := by decide +kernel
theorem zr_45_92 {l0 l1 l2 l3 l4 l5 : Option zV} {x y : Int} {st : List zV} {w : zW} {Q : Option zV → zW → Prop}  : zR 45 92 [l0, l1, l2, l3, l4, l5] (.inl y :: .inl x :: st) w Q = (if zN y ≤ zN x then zR 45 132 [l0, l1, l2, l3, l4, l5] st w Q else zR 45 95 [l0, l1, l2, l3, l4, l5] st w Q) := zR_if (zstB zT_45_92 rfl) (by simp [zcmp])
theorem zT_45_95 : zT 45 95 = some (.aload_n 0, 1, 0, []) := by decide +kernel
theorem zr_45_95 {l1 l2 l3 l4 l5 : Option zV} {x : Option Nat} {st : List zV} {w : zW} {Q : Option zV → zW → Prop}  : zR 45 95 [some (.inr x), l1, l2, l3, l4, l5] st w Q = zR 45 96 [some (.inr x), l1, l2, l3, l4, l5] (.inr x :: st) w Q := zR_go (zst zT_45_95 rfl)
theorem zT_45_96 : zT 45 96 = some (.getfield 29, 3, 0, [(11, 7)]) := by decide +kernel
theorem zr_45_96 {l0 l1 l2 l3 l4 l5 : Option zV} {h : Nat} {st : List zV} {w : zW} {Q : Option zV → zW → Prop} (hk : zk w h = 11) : zR 45 96 [l0, l1, l2, l3, l4, l5] (.inr (some h) :: st) w Q = zR 45 99 [l0, l1, l2, l3, l4, l5] (.inr (zp w 79 h) :: st) w Q := zR_go (zst zT_45_96 (zget_r hk rfl))
theorem zT_45_99 : zT 45 99 = some (.bipush 12, 2, 0, []) := by decide +kernel
theorem zr_45_99 {l0 l1 l2 l3 l4 l5 : Option zV} {st : List zV} {w : zW} {Q : Option zV → zW → Prop}  : zR 45 99 [l0, l1, l2, l3, l4, l5] st w Q = zR 45 101 [l0, l1, l2, l3, l4, l5] (.inl 12 :: st) w Q := zR_go (zst zT_45_99 rfl)
theorem zT_45_101 : zT 45 101 = some (.bipush 8, 2, 0, []) := by decide +kernel
theorem zr_45_101 {l0 l1 l2 l3 l4 l5 : Option zV} {st : List zV} {w : zW} {Q : Option zV → zW → Prop}  : zR 45 101 [l0, l1, l2, l3, l4, l5] st w Q = zR 45 103 [l0, l1, l2, l3, l4, l5] (.inl 8 :: st) w Q := zR_go (zst zT_45_101 rfl)
theorem zT_45_103 : zT 45 103 = some (.iload 4, 2, 0, []) := by decide +kernel
theorem zr_45_103 {l0 l1 l2 l3 l5 : Option zV} {x : Int} {st : List zV} {w : zW} {Q : Option zV → zW → Prop}  : zR 45 103 [l0, l1, l2, l3, some (.inl x), l5] st w Q = zR 45 105 [l0, l1, l2, l3, some (.inl x), l5] (.inl x :: st) w Q := zR_go (zst zT_45_103 rfl)
theorem zT_45_105 : zT 45 105 = some (.imul, 1, 0, []) := by decide +kernel
theorem zr_45_105 {l0 l1 l2 l3 l4 l5 : Option zV} {x y : Int} {st : List zV} {w : zW} {Q : Option zV → zW → Prop}  : zR 45 105 [l0, l1, l2, l3, l4, l5] (.inl y :: .inl x :: st) w Q = zR 45 106 [l0, l1, l2, l3, l4, l5] (.inl (x * y) :: st) w Q := zR_go (zst zT_45_105 rfl)
theorem zT_45_106 : zT 45 106 = some (.aload_n 0, 1, 0, []) := by decide +kernel
theorem zr_45_106 {l1 l2 l3 l4 l5 : Option zV} {x : Option Nat} {st : List zV} {w : zW} {Q : Option zV → zW → Prop}  : zR 45 106 [some (.inr x), l1, l2, l3, l4, l5] st w Q = zR 45 107 [some (.inr x), l1, l2, l3, l4, l5] (.inr x :: st) w Q := zR_go (zst zT_45_106 rfl)
theorem zT_45_107 : zT 45 107 = some (.getfield 26, 3, 0, [(11, 6)]) := by decide +kernel
theorem zr_45_107 {l0 l1 l2 l3 l4 l5 : Option zV} {h : Nat} {st : List zV} {w : zW} {Q : Option zV → zW → Prop} (hk : zk w h = 11) : zR 45 107 [l0, l1, l2, l3, l4, l5] (.inr (some h) :: st) w Q = zR 45 110 [l0, l1, l2, l3, l4, l5] (.inr (zp w 78 h) :: st) w Q := zR_go (zst zT_45_107 (zget_r hk rfl))
theorem zT_45_110 : zT 45 110 = some (.iload 4, 2, 0, []) := by decide +kernel
theorem zr_45_110 {l0 l1 l2 l3 l5 : Option zV} {x : Int} {st : List zV} {w : zW} {Q : Option zV → zW → Prop}  : zR 45 110 [l0, l1, l2, l3, some (.inl x), l5] st w Q = zR 45 112 [l0, l1, l2, l3, some (.inl x), l5] (.inl x :: st) w Q := zR_go (zst zT_45_110 rfl)
theorem zT_45_112 : zT 45 112 = some (.iaload, 1, 0, []) := by decide +kernel
theorem zr_45_112 {l0 l1 l2 l3 l4 l5 : Option zV} {j : Int} {h : Nat} {st : List zV} {w : zW} {Q : Option zV → zW → Prop} (hk : (zk w h = zNC ∨ zk w h = zNC + 2) ∧ 0 ≤ zN j ∧ zN j < zl w h) : zR 45 112 [l0, l1, l2, l3, l4, l5] (.inl j :: .inr (some h) :: st) w Q = zR 45 113 [l0, l1, l2, l3, l4, l5] (.inl (za w h (zN j).toNat) :: st) w Q := zR_go (zst zT_45_112 (if_pos hk))
theorem zT_45_113 : zT 45 113 = some (.iadd, 1, 0, []) := by decide +kernel
theorem zr_45_113 {l0 l1 l2 l3 l4 l5 : Option zV} {x y : Int} {st : List zV} {w : zW} {Q : Option zV → zW → Prop}  : zR 45 113 [l0, l1, l2, l3, l4, l5] (.inl y :: .inl x :: st) w Q = zR 45 114 [l0, l1, l2, l3, l4, l5] (.inl (x + y) :: st) w Q := zR_go (zst zT_45_113 rfl)
theorem zT_45_114 : zT 45 114 = some (.imul, 1, 0, []) := by decide +kernel
theorem zr_45_114 {l0 l1 l2 l3 l4 l5 : Option zV} {x y : Int} {st : List zV} {w : zW} {Q : Option zV → zW → Prop}  : zR 45 114 [l0, l1, l2, l3, l4, l5] (.inl y :: .inl x :: st) w Q = zR 45 115 [l0, l1, l2, l3, l4, l5] (.inl (x * y) :: st) w Q := zR_go (zst zT_45_114 rfl)
theorem zT_45_115 : zT 45 115 = some (.iload 5, 2, 0, []) := by decide +kernel
theorem zr_45_115 {l0 l1 l2 l3 l4 : Option zV} {x : Int} {st : List zV} {w : zW} {Q : Option zV → zW → Prop}  : zR 45 115 [l0, l1, l2, l3, l4, some (.inl x)] st w Q = zR 45 117 [l0, l1, l2, l3, l4, some (.inl x)] (.inl x :: st) w Q := zR_go (zst zT_45_115 rfl)
theorem zT_45_117 : zT 45 117 = some (.iadd, 1, 0, []) := by decide +kernel
theorem zr_45_117 {l0 l1 l2 l3 l4 l5 : Option zV} {x y : Int} {st : List zV} {w : zW} {Q : Option zV → zW → Prop}  : zR 45 117 [l0, l1, l2, l3, l4, l5] (.inl y :: .inl x :: st) w Q = zR 45 118 [l0, l1, l2, l3, l4, l5] (.inl (x + y) :: st) w Q := zR_go (zst zT_45_117 rfl)
theorem zT_45_118 : zT 45 118 = some (.aload_n 0, 1, 0, []) := by decide +kernel
theorem zr_45_118 {l1 l2 l3 l4 l5 : Option zV} {x : Option Nat} {st : List zV} {w : zW} {Q : Option zV → zW → Prop}  : zR 45 118 [some (.inr x), l1, l2, l3, l4, l5] st w Q = zR 45 119 [some (.inr x), l1, l2, l3, l4, l5] (.inr x :: st) w Q := zR_go (zst zT_45_118 rfl)
theorem zT_45_119 : zT 45 119 = some (.getfield 110, 3, 0, [(11, 37)]) := by decide +kernel
theorem zr_45_119 {l0 l1 l2 l3 l4 l5 : Option zV} {h : Nat} {st : List zV} {w : zW} {Q : Option zV → zW → Prop} (hk : zk w h = 11) : zR 45 119 [l0, l1, l2, l3, l4, l5] (.inr (some h) :: st) w Q = zR 45 122 [l0, l1, l2, l3, l4, l5] (.inr (zp w 109 h) :: st) w Q := zR_go (zst zT_45_119 (zget_r hk rfl))
theorem zT_45_122 : zT 45 122 = some (.iload 5, 2, 0, []) := by decide +kernel
theorem zr_45_122 {l0 l1 l2 l3 l4 : Option zV} {x : Int} {st : List zV} {w : zW} {Q : Option zV → zW → Prop}  : zR 45 122 [l0, l1, l2, l3, l4, some (.inl x)] st w Q = zR 45 124 [l0, l1, l2, l3, l4, some (.inl x)] (.inl x :: st) w Q := zR_go (zst zT_45_122 rfl)
theorem zT_45_124 : zT 45 124 = some (.iaload, 1, 0, []) := by decide +kernel
theorem zr_45_124 {l0 l1 l2 l3 l4 l5 : Option zV} {j : Int} {h : Nat} {st : List zV} {w : zW} {Q : Option zV → zW → Prop} (hk : (zk w h = zNC ∨ zk w h = zNC + 2) ∧ 0 ≤ zN j ∧ zN j < zl w h) : zR 45 124 [l0, l1, l2, l3, l4, l5] (.inl j :: .inr (some h) :: st) w Q = zR 45 125 [l0, l1, l2, l3, l4, l5] (.inl (za w h (zN j).toNat) :: st) w Q := zR_go (zst zT_45_124 (if_pos hk))
theorem zT_45_125 : zT 45 125 = some (.iastore, 1, 0, []) := by decide +kernel
theorem zr_45_125 {l0 l1 l2 l3 l4 l5 : Option zV} {j x : Int} {h : Nat} {st : List zV} {w : zW} {Q : Option zV → zW → Prop} (hk : zk w h = zNC ∧ 0 ≤ zN j ∧ zN j < zl w h) : zR 45 125 [l0, l1, l2, l3, l4, l5] (.inl x :: .inl j :: .inr (some h) :: st) w Q = zR 45 126 [l0, l1, l2, l3, l4, l5] st (zsa w h (zN j).toNat x) Q := zR_go (zst zT_45_125 (if_pos hk))
theorem zT_45_126 : zT 45 126 = some (.iinc 5 1, 3, 0, []) := by decide +kernel
theorem zr_45_126 {l0 l1 l2 l3 l4 : Option zV} {x : Int} {st : List zV} {w : zW} {Q : Option zV → zW → Prop}  : zR 45 126 [l0, l1, l2, l3, l4, some (.inl x)] st w Q = zR 45 129 [l0, l1, l2, l3, l4, some (.inl (x + 1))] st w Q := zR_go (zst zT_45_126 rfl)
theorem zT_45_129 : zT 45 129 = some (.goto (-41), 3, 0, []) := by decide +kernel
theorem zr_45_129 {l0 l1 l2 l3 l4 l5 : Option zV} {st : List zV} {w : zW} {Q : Option zV → zW → Prop}  : zR 45 129 [l0, l1, l2, l3, l4, l5] st w Q = zR 45 88 [l0, l1, l2, l3, l4, l5] st w Q := zR_go (zst zT_45_129 rfl)
theorem zT_45_132 : zT 45 132 = some (.aload_n 0, 1, 0, []) := by decide +kernel
theorem zr_45_132 {l1 l2 l3 l4 l5 : Option zV} {x : Option Nat} {st : List zV} {w : zW} {Q : Option zV → zW → Prop}  : zR 45 132 [some (.inr x), l1, l2, l3, l4, l5] st w Q = zR 45 133 [some (.inr x), l1, l2, l3, l4, l5] (.inr x :: st) w Q := zR_go (zst zT_45_132 rfl)
theorem zT_45_133 : zT 45 133 = some (.getfield 26, 3, 0, [(11, 6)]) := by decide +kernel
theorem zr_45_133 {l0 l1 l2 l3 l4 l5 : Option zV} {h : Nat} {st : List zV} {w : zW} {Q : Option zV → zW → Prop} (hk : zk w h = 11) : zR 45 133 [l0, l1, l2, l3, l4, l5] (.inr (some h) :: st) w Q = zR 45 136 [l0, l1, l2, l3, l4, l5] (.inr (zp w 78 h) :: st) w Q := zR_go (zst zT_45_133 (zget_r hk rfl))
theorem zT_45_136 : zT 45 136 = some (.iload 4, 2, 0, []) := by decide +kernel
theorem zr_45_136 {l0 l1 l2 l3 l5 : Option zV} {x : Int} {st : List zV} {w : zW} {Q : Option zV → zW → Prop}  : zR 45 136 [l0, l1, l2, l3, some (.inl x), l5] st w Q = zR 45 138 [l0, l1, l2, l3, some (.inl x), l5] (.inl x :: st) w Q := zR_go (zst zT_45_136 rfl)
theorem zT_45_138 : zT 45 138 = some (.dup2, 1, 0, []) := by decide +kernel
theorem zr_45_138 {l0 l1 l2 l3 l4 l5 : Option zV} {u v : zV} {st : List zV} {w : zW} {Q : Option zV → zW → Prop}  : zR 45 138 [l0, l1, l2, l3, l4, l5] (v :: u :: st) w Q = zR 45 139 [l0, l1, l2, l3, l4, l5] (v :: u :: v :: u :: st) w Q := zR_go (zst zT_45_138 rfl)
theorem zT_45_139 : zT 45 139 = some (.iaload, 1, 0, []) := by decide +kernel
theorem zr_45_139 {l0 l1 l2 l3 l4 l5 : Option zV} {j : Int} {h : Nat} {st : List zV} {w : zW} {Q : Option zV → zW → Prop} (hk : (zk w h = zNC ∨ zk w h = zNC + 2) ∧ 0 ≤ zN j ∧ zN j < zl w h) : zR 45 139 [l0, l1, l2, l3, l4, l5] (.inl j :: .inr (some h) :: st) w Q = zR 45 140 [l0, l1, l2, l3, l4, l5] (.inl (za w h (zN j).toNat) :: st) w Q := zR_go (zst zT_45_139 (if_pos hk))
theorem zT_45_140 : zT 45 140 = some (.iconst 1, 1, 0, []) := by decide +kernel
theorem zr_45_140 {l0 l1 l2 l3 l4 l5 : Option zV} {st : List zV} {w : zW} {Q : Option zV → zW → Prop}  : zR 45 140 [l0, l1, l2, l3, l4, l5] st w Q = zR 45 141 [l0, l1, l2, l3, l4, l5] (.inl 1 :: st) w Q := zR_go (zst zT_45_140 rfl)
theorem zT_45_141 : zT 45 141 = some (.iadd, 1, 0, []) := by decide +kernel
theorem zr_45_141 {l0 l1 l2 l3 l4 l5 : Option zV} {x y : Int} {st : List zV} {w : zW} {Q : Option zV → zW → Prop}  : zR 45 141 [l0, l1, l2, l3, l4, l5] (.inl y :: .inl x :: st) w Q = zR 45 142 [l0, l1, l2, l3, l4, l5] (.inl (x + y) :: st) w Q := zR_go (zst zT_45_141 rfl)
theorem zT_45_142 : zT 45 142 = some (.iastore, 1, 0, []) := by decide +kernel
theorem zr_45_142 {l0 l1 l2 l3 l4 l5 : Option zV} {j x : Int} {h : Nat} {st : List zV} {w : zW} {Q : Option zV → zW → Prop} (hk : zk w h = zNC ∧ 0 ≤ zN j ∧ zN j < zl w h) : zR 45 142 [l0, l1, l2, l3, l4, l5] (.inl x :: .inl j :: .inr (some h) :: st) w Q = zR 45 143 [l0, l1, l2, l3, l4, l5] st (zsa w h (zN j).toNat x) Q := zR_go (zst zT_45_142 (if_pos hk))
theorem zT_45_143 : zT 45 143 = some (.return_, 1, 0, []) := by decide +kernel
theorem zr_45_143 {l0 l1 l2 l3 l4 l5 : Option zV} {w : zW} {Q : Option zV → zW → Prop} : zR 45 143 [l0, l1, l2, l3, l4, l5] [] w Q = Q none w := zR_ret (zst zT_45_143 rfl)
theorem zT_46_0 : zT 46 0 = some (.aload_n 0, 1, 0, []) := by decide +kernel
theorem zr_46_0 {l1 l2 : Option zV} {x : Option Nat} {st : List zV} {w : zW} {Q : Option zV → zW → Prop}  : zR 46 0 [some (.inr x), l1, l2] st w Q = zR 46 1 [some (.inr x), l1, l2] (.inr x :: st) w Q := zR_go (zst zT_46_0 rfl)
theorem zT_46_1 : zT 46 1 = some (.getfield 29, 3, 0, [(11, 7)]) := by decide +kernel
theorem zr_46_1 {l0 l1 l2 : Option zV} {h : Nat} {st : List zV} {w : zW} {Q : Option zV → zW → Prop} (hk : zk w h = 11) : zR 46 1 [l0, l1, l2] (.inr (some h) :: st) w Q = zR 46 4 [l0, l1, l2] (.inr (zp w 79 h) :: st) w Q := zR_go (zst zT_46_1 (zget_r hk rfl))
theorem zT_46_4 : zT 46 4 = some (.bipush 96, 2, 0, []) := by decide +kernel
theorem zr_46_4 {l0 l1 l2 : Option zV} {st : List zV} {w : zW} {Q : Option zV → zW → Prop}  : zR 46 4 [l0, l1, l2] st w Q = zR 46 6 [l0, l1, l2] (.inl 96 :: st) w Q := zR_go (zst zT_46_4 rfl)
theorem zT_46_6 : zT 46 6 = some (.iload_n 1, 1, 0, []) := by decide +kernel
theorem zr_46_6 {l0 l2 : Option zV} {x : Int} {st : List zV} {w : zW} {Q : Option zV → zW → Prop}  : zR 46 6 [l0, some (.inl x), l2] st w Q = zR 46 7 [l0, some (.inl x), l2] (.inl x :: st) w Q := zR_go (zst zT_46_6 rfl)
theorem zT_46_7 : zT 46 7 = some (.imul, 1, 0, []) := by decide +kernel
theorem zr_46_7 {l0 l1 l2 : Option zV} {x y : Int} {st : List zV} {w : zW} {Q : Option zV → zW → Prop}  : zR 46 7 [l0, l1, l2] (.inl y :: .inl x :: st) w Q = zR 46 8 [l0, l1, l2] (.inl (x * y) :: st) w Q := zR_go (zst zT_46_7 rfl)
theorem zT_46_8 : zT 46 8 = some (.iaload, 1, 0, []) := by decide +kernel
theorem zr_46_8 {l0 l1 l2 : Option zV} {j : Int} {h : Nat} {st : List zV} {w : zW} {Q : Option zV → zW → Prop} (hk : (zk w h = zNC ∨ zk w h = zNC + 2) ∧ 0 ≤ zN j ∧ zN j < zl w h) : zR 46 8 [l0, l1, l2] (.inl j :: .inr (some h) :: st) w Q = zR 46 9 [l0, l1, l2] (.inl (za w h (zN j).toNat) :: st) w Q := zR_go (zst zT_46_8 (if_pos hk))
theorem zT_46_9 : zT 46 9 = some (.istore_n 2, 1, 0, []) := by decide +kernel
theorem zr_46_9 {l0 l1 l2 : Option zV} {x : Int} {st : List zV} {w : zW} {Q : Option zV → zW → Prop}  : zR 46 9 [l0, l1, l2] (.inl x :: st) w Q = zR 46 10 [l0, l1, some (.inl x)] st w Q := zR_go (zst zT_46_9 rfl)
theorem zT_46_10 : zT 46 10 = some (.iload_n 1, 1, 0, []) := by decide +kernel
theorem zr_46_10 {l0 l2 : Option zV} {x : Int} {st : List zV} {w : zW} {Q : Option zV → zW → Prop}  : zR 46 10 [l0, some (.inl x), l2] st w Q = zR 46 11 [l0, some (.inl x), l2] (.inl x :: st) w Q := zR_go (zst zT_46_10 rfl)
theorem zT_46_11 : zT 46 11 = some (.bipush 7, 2, 0, []) := by decide +kernel
theorem zr_46_11 {l0 l1 l2 : Option zV} {st : List zV} {w : zW} {Q : Option zV → zW → Prop}  : zR 46 11 [l0, l1, l2] st w Q = zR 46 13 [l0, l1, l2] (.inl 7 :: st) w Q := zR_go (zst zT_46_11 rfl)
theorem zT_46_13 : zT 46 13 = some (.if_icmp .ne 8, 3, 0, []) := by decide +kernel
theorem zr_46_13 {l0 l1 l2 : Option zV} {x y : Int} {st : List zV} {w : zW} {Q : Option zV → zW → Prop}  : zR 46 13 [l0, l1, l2] (.inl y :: .inl x :: st) w Q = (if zN x ≠ zN y then zR 46 21 [l0, l1, l2] st w Q else zR 46 16 [l0, l1, l2] st w Q) := zR_if (zstB zT_46_13 rfl) (by simp [zcmp])
theorem zT_46_16 : zT 46 16 = some (.iload_n 2, 1, 0, []) := by decide +kernel
theorem zr_46_16 {l0 l1 : Option zV} {x : Int} {st : List zV} {w : zW} {Q : Option zV → zW → Prop}  : zR 46 16 [l0, l1, some (.inl x)] st w Q = zR 46 17 [l0, l1, some (.inl x)] (.inl x :: st) w Q := zR_go (zst zT_46_16 rfl)
theorem zT_46_17 : zT 46 17 = some (.bipush 16, 2, 0, []) := by decide +kernel
theorem zr_46_17 {l0 l1 l2 : Option zV} {st : List zV} {w : zW} {Q : Option zV → zW → Prop}  : zR 46 17 [l0, l1, l2] st w Q = zR 46 19 [l0, l1, l2] (.inl 16 :: st) w Q := zR_go (zst zT_46_17 rfl)
theorem zT_46_19 : zT 46 19 = some (.isub, 1, 0, []) := by decide +kernel
theorem zr_46_19 {l0 l1 l2 : Option zV} {x y : Int} {st : List zV} {w : zW} {Q : Option zV → zW → Prop}  : zR 46 19 [l0, l1, l2] (.inl y :: .inl x :: st) w Q = zR 46 20 [l0, l1, l2] (.inl (x - y) :: st) w Q := zR_go (zst zT_46_19 rfl)
theorem zT_46_20 : zT 46 20 = some (.ireturn, 1, 0, []) := by decide +kernel
theorem zr_46_20 {l0 l1 l2 : Option zV} {x : Int} {w : zW} {Q : Option zV → zW → Prop}  : zR 46 20 [l0, l1, l2] [.inl x] w Q = Q (some (.inl x)) w := zR_ret (zst zT_46_20 rfl)
theorem zT_46_21 : zT 46 21 = some (.iload_n 1, 1, 0, []) := by decide +kernel
theorem zr_46_21 {l0 l2 : Option zV} {x : Int} {st : List zV} {w : zW} {Q : Option zV → zW → Prop}  : zR 46 21 [l0, some (.inl x), l2] st w Q = zR 46 22 [l0, some (.inl x), l2] (.inl x :: st) w Q := zR_go (zst zT_46_21 rfl)
theorem zT_46_22 : zT 46 22 = some (.ifCond .le 6, 3, 0, []) := by decide +kernel
theorem zr_46_22 {l0 l1 l2 : Option zV} {x : Int} {st : List zV} {w : zW} {Q : Option zV → zW → Prop}  : zR 46 22 [l0, l1, l2] (.inl x :: st) w Q = (if zN x ≤ 0 then zR 46 28 [l0, l1, l2] st w Q else zR 46 25 [l0, l1, l2] st w Q) := zR_if (zstB zT_46_22 rfl) (by simp [zcmp])
theorem zT_46_25 : zT 46 25 = some (.bipush 8, 2, 0, []) := by decide +kernel
theorem zr_46_25 {l0 l1 l2 : Option zV} {st : List zV} {w : zW} {Q : Option zV → zW → Prop}  : zR 46 25 [l0, l1, l2] st w Q = zR 46 27 [l0, l1, l2] (.inl 8 :: st) w Q := zR_go (zst zT_46_25 rfl)
theorem zT_46_27 : zT 46 27 = some (.ireturn, 1, 0, []) := by decide +kernel
theorem zr_46_27 {l0 l1 l2 : Option zV} {x : Int} {w : zW} {Q : Option zV → zW → Prop}  : zR 46 27 [l0, l1, l2] [.inl x] w Q = Q (some (.inl x)) w := zR_ret (zst zT_46_27 rfl)
theorem zT_46_28 : zT 46 28 = some (.iload_n 2, 1, 0, []) := by decide +kernel
theorem zr_46_28 {l0 l1 : Option zV} {x : Int} {st : List zV} {w : zW} {Q : Option zV → zW → Prop}  : zR 46 28 [l0, l1, some (.inl x)] st w Q = zR 46 29 [l0, l1, some (.inl x)] (.inl x :: st) w Q := zR_go (zst zT_46_28 rfl)
theorem zT_46_29 : zT 46 29 = some (.bipush 32, 2, 0, []) := by decide +kernel
theorem zr_46_29 {l0 l1 l2 : Option zV} {st : List zV} {w : zW} {Q : Option zV → zW → Prop}  : zR 46 29 [l0, l1, l2] st w Q = zR 46 31 [l0, l1, l2] (.inl 32 :: st) w Q := zR_go (zst zT_46_29 rfl)
theorem zT_46_31 : zT 46 31 = some (.if_icmp .lt 10, 3, 0, []) := by decide +kernel
theorem zr_46_31 {l0 l1 l2 : Option zV} {x y : Int} {st : List zV} {w : zW} {Q : Option zV → zW → Prop}  : zR 46 31 [l0, l1, l2] (.inl y :: .inl x :: st) w Q = (if zN x < zN y then zR 46 41 [l0, l1, l2] st w Q else zR 46 34 [l0, l1, l2] st w Q) := zR_if (zstB zT_46_31 rfl) (by simp [zcmp])
theorem zT_46_34 : zT 46 34 = some (.aload_n 0, 1, 0, []) := by decide +kernel
theorem zr_46_34 {l1 l2 : Option zV} {x : Option Nat} {st : List zV} {w : zW} {Q : Option zV → zW → Prop}  : zR 46 34 [some (.inr x), l1, l2] st w Q = zR 46 35 [some (.inr x), l1, l2] (.inr x :: st) w Q := zR_go (zst zT_46_34 rfl)
theorem zT_46_35 : zT 46 35 = some (.getfield 202, 3, 0, [(11, 28)]) := by decide +kernel
theorem zr_46_35 {l0 l1 l2 : Option zV} {h : Nat} {st : List zV} {w : zW} {Q : Option zV → zW → Prop} (hk : zk w h = 11) : zR 46 35 [l0, l1, l2] (.inr (some h) :: st) w Q = zR 46 38 [l0, l1, l2] (.inl (zf w 100 h) :: st) w Q := zR_go (zst zT_46_35 (zget_i hk (Or.inl rfl)))
theorem zT_46_38 : zT 46 38 = some (.goto 7, 3, 0, []) := by decide +kernel
theorem zr_46_38 {l0 l1 l2 : Option zV} {st : List zV} {w : zW} {Q : Option zV → zW → Prop}  : zR 46 38 [l0, l1, l2] st w Q = zR 46 45 [l0, l1, l2] st w Q := zR_go (zst zT_46_38 rfl)
theorem zT_46_41 : zT 46 41 = some (.iload_n 2, 1, 0, []) := by decide +kernel
theorem zr_46_41 {l0 l1 : Option zV} {x : Int} {st : List zV} {w : zW} {Q : Option zV → zW → Prop}  : zR 46 41 [l0, l1, some (.inl x)] st w Q = zR 46 42 [l0, l1, some (.inl x)] (.inl x :: st) w Q := zR_go (zst zT_46_41 rfl)
theorem zT_46_42 : zT 46 42 = some (.bipush 7, 2, 0, []) := by decide +kernel
theorem zr_46_42 {l0 l1 l2 : Option zV} {st : List zV} {w : zW} {Q : Option zV → zW → Prop}  : zR 46 42 [l0, l1, l2] st w Q = zR 46 44 [l0, l1, l2] (.inl 7 :: st) w Q := zR_go (zst zT_46_42 rfl)
theorem zT_46_44 : zT 46 44 = some (.iadd, 1, 0, []) := by decide +kernel
theorem zr_46_44 {l0 l1 l2 : Option zV} {x y : Int} {st : List zV} {w : zW} {Q : Option zV → zW → Prop}  : zR 46 44 [l0, l1, l2] (.inl y :: .inl x :: st) w Q = zR 46 45 [l0, l1, l2] (.inl (x + y) :: st) w Q := zR_go (zst zT_46_44 rfl)
theorem zT_46_45 : zT 46 45 = some (.ireturn, 1, 0, []) := by decide +kernel
theorem zr_46_45 {l0 l1 l2 : Option zV} {x : Int} {w : zW} {Q : Option zV → zW → Prop}  : zR 46 45 [l0, l1, l2] [.inl x] w Q = Q (some (.inl x)) w := zR_ret (zst zT_46_45 rfl)
theorem zT_47_0 : zT 47 0 = some (.aload_n 0, 1, 0, []) := by decide +kernel
theorem zr_47_0 {l1 : Option zV} {x : Option Nat} {st : List zV} {w : zW} {Q : Option zV → zW → Prop}  : zR 47 0 [some (.inr x), l1] st w Q = zR 47 1 [some (.inr x), l1] (.inr x :: st) w Q := zR_go (zst zT_47_0 rfl)
theorem zT_47_1 : zT 47 1 = some (.getfield 98, 3, 0, [(11, 31)]) := by decide +kernel
theorem zr_47_1 {l0 l1 : Option zV} {h : Nat} {st : List zV} {w : zW} {Q : Option zV → zW → Prop} (hk : zk w h = 11) : zR 47 1 [l0, l1] (.inr (some h) :: st) w Q = zR 47 4 [l0, l1] (.inr (zp w 103 h) :: st) w Q := zR_go (zst zT_47_1 (zget_r hk rfl))
theorem zT_47_4 : zT 47 4 = some (.aload_n 0, 1, 0, []) := by decide +kernel
theorem zr_47_4 {l1 : Option zV} {x : Option Nat} {st : List zV} {w : zW} {Q : Option zV → zW → Prop}  : zR 47 4 [some (.inr x), l1] st w Q = zR 47 5 [some (.inr x), l1] (.inr x :: st) w Q := zR_go (zst zT_47_4 rfl)
theorem zT_47_5 : zT 47 5 = some (.getfield 205, 3, 0, [(11, 32)]) := by decide +kernel
theorem zr_47_5 {l0 l1 : Option zV} {h : Nat} {st : List zV} {w : zW} {Q : Option zV → zW → Prop} (hk : zk w h = 11) : zR 47 5 [l0, l1] (.inr (some h) :: st) w Q = zR 47 8 [l0, l1] (.inl (zf w 104 h) :: st) w Q := zR_go (zst zT_47_5 (zget_i hk (Or.inl rfl)))
theorem zT_47_8 : zT 47 8 = some (.iload_n 1, 1, 0, []) := by decide +kernel
theorem zr_47_8 {l0 : Option zV} {x : Int} {st : List zV} {w : zW} {Q : Option zV → zW → Prop}  : zR 47 8 [l0, some (.inl x)] st w Q = zR 47 9 [l0, some (.inl x)] (.inl x :: st) w Q := zR_go (zst zT_47_8 rfl)
theorem zT_47_9 : zT 47 9 = some (.iastore, 1, 0, []) := by decide +kernel
theorem zr_47_9 {l0 l1 : Option zV} {j x : Int} {h : Nat} {st : List zV} {w : zW} {Q : Option zV → zW → Prop} (hk : zk w h = zNC ∧ 0 ≤ zN j ∧ zN j < zl w h) : zR 47 9 [l0, l1] (.inl x :: .inl j :: .inr (some h) :: st) w Q = zR 47 10 [l0, l1] st (zsa w h (zN j).toNat x) Q := zR_go (zst zT_47_9 (if_pos hk))
theorem zT_47_10 : zT 47 10 = some (.aload_n 0, 1, 0, []) := by decide +kernel
theorem zr_47_10 {l1 : Option zV} {x : Option Nat} {st : List zV} {w : zW} {Q : Option zV → zW → Prop}  : zR 47 10 [some (.inr x), l1] st w Q = zR 47 11 [some (.inr x), l1] (.inr x :: st) w Q := zR_go (zst zT_47_10 rfl)
theorem zT_47_11 : zT 47 11 = some (.dup, 1, 0, []) := by decide +kernel
theorem zr_47_11 {l0 l1 : Option zV} {v : zV} {st : List zV} {w : zW} {Q : Option zV → zW → Prop}  : zR 47 11 [l0, l1] (v :: st) w Q = zR 47 12 [l0, l1] (v :: v :: st) w Q := zR_go (zst zT_47_11 rfl)
theorem zT_47_12 : zT 47 12 = some (.getfield 205, 3, 0, [(11, 32)]) := by decide +kernel
theorem zr_47_12 {l0 l1 : Option zV} {h : Nat} {st : List zV} {w : zW} {Q : Option zV → zW → Prop} (hk : zk w h = 11) : zR 47 12 [l0, l1] (.inr (some h) :: st) w Q = zR 47 15 [l0, l1] (.inl (zf w 104 h) :: st) w Q := zR_go (zst zT_47_12 (zget_i hk (Or.inl rfl)))
theorem zT_47_15 : zT 47 15 = some (.iconst 1, 1, 0, []) := by decide +kernel
theorem zr_47_15 {l0 l1 : Option zV} {st : List zV} {w : zW} {Q : Option zV → zW → Prop}  : zR 47 15 [l0, l1] st w Q = zR 47 16 [l0, l1] (.inl 1 :: st) w Q := zR_go (zst zT_47_15 rfl)
theorem zT_47_16 : zT 47 16 = some (.iadd, 1, 0, []) := by decide +kernel
theorem zr_47_16 {l0 l1 : Option zV} {x y : Int} {st : List zV} {w : zW} {Q : Option zV → zW → Prop}  : zR 47 16 [l0, l1] (.inl y :: .inl x :: st) w Q = zR 47 17 [l0, l1] (.inl (x + y) :: st) w Q := zR_go (zst zT_47_16 rfl)
theorem zT_47_17 : zT 47 17 = some (.putfield 205, 3, 0, [(11, 32)]) := by decide +kernel
theorem zr_47_17 {l0 l1 : Option zV} {h : Nat} {x : Int} {st : List zV} {w : zW} {Q : Option zV → zW → Prop} (hk : zk w h = 11) : zR 47 17 [l0, l1] (.inl x :: .inr (some h) :: st) w Q = zR 47 20 [l0, l1] st (zsf w 104 h x) Q := zR_go (zst zT_47_17 (zput_i hk rfl))
theorem zT_47_20 : zT 47 20 = some (.return_, 1, 0, []) := by decide +kernel
theorem zr_47_20 {l0 l1 : Option zV} {w : zW} {Q : Option zV → zW → Prop} : zR 47 20 [l0, l1] [] w Q = Q none w := zR_ret (zst zT_47_20 rfl)
theorem zT_48_0 : zT 48 0 = some (.iconst 2, 1, 0, []) := by decide +kernel
theorem zr_48_0 {l0 l1 : Option zV} {st : List zV} {w : zW} {Q : Option zV → zW → Prop}  : zR 48 0 [l0, l1] st w Q = zR 48 1 [l0, l1] (.inl 2 :: st) w Q := zR_go (zst zT_48_0 rfl)
theorem zT_48_1 : zT 48 1 = some (.iload_n 0, 1, 0, []) := by decide +kernel
theorem zr_48_1 {l1 : Option zV} {x : Int} {st : List zV} {w : zW} {Q : Option zV → zW → Prop}  : zR 48 1 [some (.inl x), l1] st w Q = zR 48 2 [some (.inl x), l1] (.inl x :: st) w Q := zR_go (zst zT_48_1 rfl)
theorem zT_48_2 : zT 48 2 = some (.imul, 1, 0, []) := by decide +kernel
theorem zr_48_2 {l0 l1 : Option zV} {x y : Int} {st : List zV} {w : zW} {Q : Option zV → zW → Prop}  : zR 48 2 [l0, l1] (.inl y :: .inl x :: st) w Q = zR 48 3 [l0, l1] (.inl (x * y) :: st) w Q := zR_go (zst zT_48_2 rfl)
theorem zT_48_3 : zT 48 3 = some (.istore_n 1, 1, 0, []) := by decide +kernel
theorem zr_48_3 {l0 l1 : Option zV} {x : Int} {st : List zV} {w : zW} {Q : Option zV → zW → Prop}  : zR 48 3 [l0, l1] (.inl x :: st) w Q = zR 48 4 [l0, some (.inl x)] st w Q := zR_go (zst zT_48_3 rfl)
theorem zT_48_4 : zT 48 4 = some (.iload_n 1, 1, 0, []) := by decide +kernel
theorem zr_48_4 {l0 : Option zV} {x : Int} {st : List zV} {w : zW} {Q : Option zV → zW → Prop}  : zR 48 4 [l0, some (.inl x)] st w Q = zR 48 5 [l0, some (.inl x)] (.inl x :: st) w Q := zR_go (zst zT_48_4 rfl)
theorem zT_48_5 : zT 48 5 = some (.sipush 255, 3, 0, []) := by decide +kernel
theorem zr_48_5 {l0 l1 : Option zV} {st : List zV} {w : zW} {Q : Option zV → zW → Prop}  : zR 48 5 [l0, l1] st w Q = zR 48 8 [l0, l1] (.inl 255 :: st) w Q := zR_go (zst zT_48_5 rfl)
theorem zT_48_8 : zT 48 8 = some (.if_icmp .le 11, 3, 0, []) := by decide +kernel
theorem zr_48_8 {l0 l1 : Option zV} {x y : Int} {st : List zV} {w : zW} {Q : Option zV → zW → Prop}  : zR 48 8 [l0, l1] (.inl y :: .inl x :: st) w Q = (if zN x ≤ zN y then zR 48 19 [l0, l1] st w Q else zR 48 11 [l0, l1] st w Q) := zR_if (zstB zT_48_8 rfl) (by simp [zcmp])
theorem zT_48_11 : zT 48 11 = some (.iload_n 1, 1, 0, []) := by decide +kernel
theorem zr_48_11 {l0 : Option zV} {x : Int} {st : List zV} {w : zW} {Q : Option zV → zW → Prop}  : zR 48 11 [l0, some (.inl x)] st w Q = zR 48 12 [l0, some (.inl x)] (.inl x :: st) w Q := zR_go (zst zT_48_11 rfl)
theorem zT_48_12 : zT 48 12 = some (.sipush 263, 3, 0, []) := by decide +kernel
theorem zr_48_12 {l0 l1 : Option zV} {st : List zV} {w : zW} {Q : Option zV → zW → Prop}  : zR 48 12 [l0, l1] st w Q = zR 48 15 [l0, l1] (.inl 263 :: st) w Q := zR_go (zst zT_48_12 rfl)
theorem zT_48_15 : zT 48 15 = some (.ixor, 1, 0, []) := by decide +kernel
theorem zr_48_15 {l0 l1 : Option zV} {x y : Int} {st : List zV} {w : zW} {Q : Option zV → zW → Prop}  : zR 48 15 [l0, l1] (.inl y :: .inl x :: st) w Q = zR 48 16 [l0, l1] (.inl (zo_xor x y) :: st) w Q := zR_go (zst zT_48_15 rfl)
theorem zT_48_16 : zT 48 16 = some (.goto 4, 3, 0, []) := by decide +kernel
theorem zr_48_16 {l0 l1 : Option zV} {st : List zV} {w : zW} {Q : Option zV → zW → Prop}  : zR 48 16 [l0, l1] st w Q = zR 48 20 [l0, l1] st w Q := zR_go (zst zT_48_16 rfl)
theorem zT_48_19 : zT 48 19 = some (.iload_n 1, 1, 0, []) := by decide +kernel
theorem zr_48_19 {l0 : Option zV} {x : Int} {st : List zV} {w : zW} {Q : Option zV → zW → Prop}  : zR 48 19 [l0, some (.inl x)] st w Q = zR 48 20 [l0, some (.inl x)] (.inl x :: st) w Q := zR_go (zst zT_48_19 rfl)
theorem zT_48_20 : zT 48 20 = some (.ireturn, 1, 0, []) := by decide +kernel
theorem zr_48_20 {l0 l1 : Option zV} {x : Int} {w : zW} {Q : Option zV → zW → Prop}  : zR 48 20 [l0, l1] [.inl x] w Q = Q (some (.inl x)) w := zR_ret (zst zT_48_20 rfl)
