-- rules of rewriting, an instruction each: laid by program
theorem zT_155_0 : zT 155 0 = some (.new 7, 3, 0, [(0, 6)]) := by decide +kernel
theorem zr_155_0 {l0 l1 l2 l3 : Option zV} {st : List zV} {w : zW} {Q : Option zV → zW → Prop}  : zR 155 0 [l0, l1, l2, l3] st w Q = zR 155 3 [l0, l1, l2, l3] (.inr (some (zn w + 1)) :: st) (znew w 0 6) Q := zR_go (zst zT_155_0 rfl)
theorem zT_155_3 : zT 155 3 = some (.dup, 1, 0, []) := by decide +kernel
theorem zr_155_3 {l0 l1 l2 l3 : Option zV} {v : zV} {st : List zV} {w : zW} {Q : Option zV → zW → Prop}  : zR 155 3 [l0, l1, l2, l3] (v :: st) w Q = zR 155 4 [l0, l1, l2, l3] (v :: v :: st) w Q := zR_go (zst zT_155_3 rfl)
theorem zT_155_4 : zT 155 4 = some (.invokespecial 9, 3, 0, [(0, 1)]) := by decide +kernel
theorem zr_155_4 {l0 l1 l2 l3 : Option zV} {h : Nat} {st : List zV} {w : zW} {Q : Option zV → zW → Prop} (hs : st.length ≤ 8) (hk : zk w h < 1000) : zR 155 4 [l0, l1, l2, l3] (.inr (some h) :: st) w Q = zR 0 0 [some (.inr (some h)), none, none] [] w (fun r w2 => zR 155 7 [l0, l1, l2, l3] (r.toList ++ st) w2 Q) := zR_call (zst zT_155_4 (zcall_i (ls := [l0, l1, l2, l3]) (n := 1) [] rfl hs hk))
theorem zT_155_7 : zT 155 7 = some (.astore_n 1, 1, 0, []) := by decide +kernel
theorem zr_155_7 {l0 l1 l2 l3 : Option zV} {x : Option Nat} {st : List zV} {w : zW} {Q : Option zV → zW → Prop}  : zR 155 7 [l0, l1, l2, l3] (.inr x :: st) w Q = zR 155 8 [l0, some (.inr x), l2, l3] st w Q := zR_go (zst zT_155_7 rfl)
theorem zT_155_8 : zT 155 8 = some (.new 10, 3, 0, [(11, 52)]) := by decide +kernel
theorem zr_155_8 {l0 l1 l2 l3 : Option zV} {st : List zV} {w : zW} {Q : Option zV → zW → Prop}  : zR 155 8 [l0, l1, l2, l3] st w Q = zR 155 11 [l0, l1, l2, l3] (.inr (some (zn w + 1)) :: st) (znew w 11 52) Q := zR_go (zst zT_155_8 rfl)
theorem zT_155_11 : zT 155 11 = some (.dup, 1, 0, []) := by decide +kernel
theorem zr_155_11 {l0 l1 l2 l3 : Option zV} {v : zV} {st : List zV} {w : zW} {Q : Option zV → zW → Prop}  : zR 155 11 [l0, l1, l2, l3] (v :: st) w Q = zR 155 12 [l0, l1, l2, l3] (v :: v :: st) w Q := zR_go (zst zT_155_11 rfl)
theorem zT_155_12 : zT 155 12 = some (.invokespecial 12, 3, 0, [(23, 1)]) := by decide +kernel
theorem zr_155_12 {l0 l1 l2 l3 : Option zV} {h : Nat} {st : List zV} {w : zW} {Q : Option zV → zW → Prop} (hs : st.length ≤ 8) (hk : zk w h < 1000) : zR 155 12 [l0, l1, l2, l3] (.inr (some h) :: st) w Q = zR 23 0 [some (.inr (some h)), none] [] w (fun r w2 => zR 155 15 [l0, l1, l2, l3] (r.toList ++ st) w2 Q) := zR_call (zst zT_155_12 (zcall_i (ls := [l0, l1, l2, l3]) (n := 1) [] rfl hs hk))
theorem zT_155_15 : zT 155 15 = some (.astore_n 2, 1, 0, []) := by decide +kernel
theorem zr_155_15 {l0 l1 l2 l3 : Option zV} {x : Option Nat} {st : List zV} {w : zW} {Q : Option zV → zW → Prop}  : zR 155 15 [l0, l1, l2, l3] (.inr x :: st) w Q = zR 155 16 [l0, l1, some (.inr x), l3] st w Q := zR_go (zst zT_155_15 rfl)
theorem zT_155_16 : zT 155 16 = some (.iconst 0, 1, 0, []) := by decide +kernel
theorem zr_155_16 {l0 l1 l2 l3 : Option zV} {st : List zV} {w : zW} {Q : Option zV → zW → Prop}  : zR 155 16 [l0, l1, l2, l3] st w Q = zR 155 17 [l0, l1, l2, l3] (.inl 0 :: st) w Q := zR_go (zst zT_155_16 rfl)
theorem zT_155_17 : zT 155 17 = some (.istore_n 3, 1, 0, []) := by decide +kernel
theorem zr_155_17 {l0 l1 l2 l3 : Option zV} {x : Int} {st : List zV} {w : zW} {Q : Option zV → zW → Prop}  : zR 155 17 [l0, l1, l2, l3] (.inl x :: st) w Q = zR 155 18 [l0, l1, l2, some (.inl x)] st w Q := zR_go (zst zT_155_17 rfl)
theorem zT_155_18 : zT 155 18 = some (.iload_n 3, 1, 0, []) := by decide +kernel
theorem zr_155_18 {l0 l1 l2 : Option zV} {x : Int} {st : List zV} {w : zW} {Q : Option zV → zW → Prop}  : zR 155 18 [l0, l1, l2, some (.inl x)] st w Q = zR 155 19 [l0, l1, l2, some (.inl x)] (.inl x :: st) w Q := zR_go (zst zT_155_18 rfl)
theorem zT_155_19 : zT 155 19 = some (.aload_n 0, 1, 0, []) := by decide +kernel
theorem zr_155_19 {l1 l2 l3 : Option zV} {x : Option Nat} {st : List zV} {w : zW} {Q : Option zV → zW → Prop}  : zR 155 19 [some (.inr x), l1, l2, l3] st w Q = zR 155 20 [some (.inr x), l1, l2, l3] (.inr x :: st) w Q := zR_go (zst zT_155_19 rfl)
theorem zT_155_20 : zT 155 20 = some (.arraylength, 1, 0, []) := by decide +kernel
theorem zr_155_20 {l0 l1 l2 l3 : Option zV} {h : Nat} {st : List zV} {w : zW} {Q : Option zV → zW → Prop} (hk : zNC ≤ zk w h ∧ zk w h < 1000) : zR 155 20 [l0, l1, l2, l3] (.inr (some h) :: st) w Q = zR 155 21 [l0, l1, l2, l3] (.inl (zl w h : Int) :: st) w Q := zR_go (zst zT_155_20 (if_pos hk))
theorem zT_155_21 : zT 155 21 = some (.iconst 4, 1, 0, []) := by decide +kernel
theorem zr_155_21 {l0 l1 l2 l3 : Option zV} {st : List zV} {w : zW} {Q : Option zV → zW → Prop}  : zR 155 21 [l0, l1, l2, l3] st w Q = zR 155 22 [l0, l1, l2, l3] (.inl 4 :: st) w Q := zR_go (zst zT_155_21 rfl)
theorem zT_155_22 : zT 155 22 = some (.isub, 1, 0, []) := by decide +kernel
theorem zr_155_22 {l0 l1 l2 l3 : Option zV} {x y : Int} {st : List zV} {w : zW} {Q : Option zV → zW → Prop}  : zR 155 22 [l0, l1, l2, l3] (.inl y :: .inl x :: st) w Q = zR 155 23 [l0, l1, l2, l3] (.inl (x - y) :: st) w Q := zR_go (zst zT_155_22 rfl)
theorem zT_155_23 : zT 155 23 = some (.if_icmp .gt 613, 3, 0, []) := by decide +kernel
theorem zr_155_23 {l0 l1 l2 l3 : Option zV} {x y : Int} {st : List zV} {w : zW} {Q : Option zV → zW → Prop}  : zR 155 23 [l0, l1, l2, l3] (.inl y :: .inl x :: st) w Q = (if zN y < zN x then zR 155 636 [l0, l1, l2, l3] st w Q else zR 155 26 [l0, l1, l2, l3] st w Q) := zR_if (zstB zT_155_23 rfl) (by simp [zcmp])
theorem zT_155_26 : zT 155 26 = some (.aload_n 0, 1, 0, []) := by decide +kernel
theorem zr_155_26 {l1 l2 l3 : Option zV} {x : Option Nat} {st : List zV} {w : zW} {Q : Option zV → zW → Prop}  : zR 155 26 [some (.inr x), l1, l2, l3] st w Q = zR 155 27 [some (.inr x), l1, l2, l3] (.inr x :: st) w Q := zR_go (zst zT_155_26 rfl)
theorem zT_155_27 : zT 155 27 = some (.iload_n 3, 1, 0, []) := by decide +kernel
theorem zr_155_27 {l0 l1 l2 : Option zV} {x : Int} {st : List zV} {w : zW} {Q : Option zV → zW → Prop}  : zR 155 27 [l0, l1, l2, some (.inl x)] st w Q = zR 155 28 [l0, l1, l2, some (.inl x)] (.inl x :: st) w Q := zR_go (zst zT_155_27 rfl)
theorem zT_155_28 : zT 155 28 = some (.iaload, 1, 0, []) := by decide +kernel
theorem zr_155_28 {l0 l1 l2 l3 : Option zV} {j : Int} {h : Nat} {st : List zV} {w : zW} {Q : Option zV → zW → Prop} (hk : (zk w h = zNC ∨ zk w h = zNC + 2) ∧ 0 ≤ zN j ∧ zN j < zl w h) : zR 155 28 [l0, l1, l2, l3] (.inl j :: .inr (some h) :: st) w Q = zR 155 29 [l0, l1, l2, l3] (.inl (za w h (zN j).toNat) :: st) w Q := zR_go (zst zT_155_28 (if_pos hk))
theorem zT_155_29 : zT 155 29 = some (.bipush 15, 2, 0, []) := by decide +kernel
theorem zr_155_29 {l0 l1 l2 l3 : Option zV} {st : List zV} {w : zW} {Q : Option zV → zW → Prop}  : zR 155 29 [l0, l1, l2, l3] st w Q = zR 155 31 [l0, l1, l2, l3] (.inl 15 :: st) w Q := zR_go (zst zT_155_29 rfl)
theorem zT_155_31 : zT 155 31 = some (.iand, 1, 0, []) := by decide +kernel
theorem zr_155_31 {l0 l1 l2 l3 : Option zV} {x y : Int} {st : List zV} {w : zW} {Q : Option zV → zW → Prop}  : zR 155 31 [l0, l1, l2, l3] (.inl y :: .inl x :: st) w Q = zR 155 32 [l0, l1, l2, l3] (.inl (zo_and x y) :: st) w Q := zR_go (zst zT_155_31 rfl)
theorem zT_155_32 : zT 155 32 = some (.tableswitch 598 0 15 #[80, 123, 146, 169, 212, 235, 268, 301, 334, 367, 400, 433, 466, 499, 532, 565], 80, 0, []) := by decide +kernel
theorem zr_155_32k0 {l0 l1 l2 l3 : Option zV} {x : Int} {st : List zV} {w : zW} {Q : Option zV → zW → Prop} (hx : zN x = 0) : zR 155 32 [l0, l1, l2, l3] (.inl x :: st) w Q = zR 155 112 [l0, l1, l2, l3] st w Q := zR_go (zst zT_155_32 (by simp [zins, zi_table, zgo, zto, hx]))
theorem zr_155_32k1 {l0 l1 l2 l3 : Option zV} {x : Int} {st : List zV} {w : zW} {Q : Option zV → zW → Prop} (hx : zN x = 1) : zR 155 32 [l0, l1, l2, l3] (.inl x :: st) w Q = zR 155 155 [l0, l1, l2, l3] st w Q := zR_go (zst zT_155_32 (by simp [zins, zi_table, zgo, zto, hx]))
theorem zr_155_32k2 {l0 l1 l2 l3 : Option zV} {x : Int} {st : List zV} {w : zW} {Q : Option zV → zW → Prop} (hx : zN x = 2) : zR 155 32 [l0, l1, l2, l3] (.inl x :: st) w Q = zR 155 178 [l0, l1, l2, l3] st w Q := zR_go (zst zT_155_32 (by simp [zins, zi_table, zgo, zto, hx]))
theorem zr_155_32k3 {l0 l1 l2 l3 : Option zV} {x : Int} {st : List zV} {w : zW} {Q : Option zV → zW → Prop} (hx : zN x = 3) : zR 155 32 [l0, l1, l2, l3] (.inl x :: st) w Q = zR 155 201 [l0, l1, l2, l3] st w Q := zR_go (zst zT_155_32 (by simp [zins, zi_table, zgo, zto, hx]))
theorem zr_155_32k4 {l0 l1 l2 l3 : Option zV} {x : Int} {st : List zV} {w : zW} {Q : Option zV → zW → Prop} (hx : zN x = 4) : zR 155 32 [l0, l1, l2, l3] (.inl x :: st) w Q = zR 155 244 [l0, l1, l2, l3] st w Q := zR_go (zst zT_155_32 (by simp [zins, zi_table, zgo, zto, hx]))
theorem zr_155_32k5 {l0 l1 l2 l3 : Option zV} {x : Int} {st : List zV} {w : zW} {Q : Option zV → zW → Prop} (hx : zN x = 5) : zR 155 32 [l0, l1, l2, l3] (.inl x :: st) w Q = zR 155 267 [l0, l1, l2, l3] st w Q := zR_go (zst zT_155_32 (by simp [zins, zi_table, zgo, zto, hx]))
theorem zr_155_32k6 {l0 l1 l2 l3 : Option zV} {x : Int} {st : List zV} {w : zW} {Q : Option zV → zW → Prop} (hx : zN x = 6) : zR 155 32 [l0, l1, l2, l3] (.inl x :: st) w Q = zR 155 300 [l0, l1, l2, l3] st w Q := zR_go (zst zT_155_32 (by simp [zins, zi_table, zgo, zto, hx]))
theorem zr_155_32k7 {l0 l1 l2 l3 : Option zV} {x : Int} {st : List zV} {w : zW} {Q : Option zV → zW → Prop} (hx : zN x = 7) : zR 155 32 [l0, l1, l2, l3] (.inl x :: st) w Q = zR 155 333 [l0, l1, l2, l3] st w Q := zR_go (zst zT_155_32 (by simp [zins, zi_table, zgo, zto, hx]))
theorem zr_155_32k8 {l0 l1 l2 l3 : Option zV} {x : Int} {st : List zV} {w : zW} {Q : Option zV → zW → Prop} (hx : zN x = 8) : zR 155 32 [l0, l1, l2, l3] (.inl x :: st) w Q = zR 155 366 [l0, l1, l2, l3] st w Q := zR_go (zst zT_155_32 (by simp [zins, zi_table, zgo, zto, hx]))
theorem zr_155_32k9 {l0 l1 l2 l3 : Option zV} {x : Int} {st : List zV} {w : zW} {Q : Option zV → zW → Prop} (hx : zN x = 9) : zR 155 32 [l0, l1, l2, l3] (.inl x :: st) w Q = zR 155 399 [l0, l1, l2, l3] st w Q := zR_go (zst zT_155_32 (by simp [zins, zi_table, zgo, zto, hx]))
theorem zr_155_32k10 {l0 l1 l2 l3 : Option zV} {x : Int} {st : List zV} {w : zW} {Q : Option zV → zW → Prop} (hx : zN x = 10) : zR 155 32 [l0, l1, l2, l3] (.inl x :: st) w Q = zR 155 432 [l0, l1, l2, l3] st w Q := zR_go (zst zT_155_32 (by simp [zins, zi_table, zgo, zto, hx]))
theorem zr_155_32k11 {l0 l1 l2 l3 : Option zV} {x : Int} {st : List zV} {w : zW} {Q : Option zV → zW → Prop} (hx : zN x = 11) : zR 155 32 [l0, l1, l2, l3] (.inl x :: st) w Q = zR 155 465 [l0, l1, l2, l3] st w Q := zR_go (zst zT_155_32 (by simp [zins, zi_table, zgo, zto, hx]))
theorem zr_155_32k12 {l0 l1 l2 l3 : Option zV} {x : Int} {st : List zV} {w : zW} {Q : Option zV → zW → Prop} (hx : zN x = 12) : zR 155 32 [l0, l1, l2, l3] (.inl x :: st) w Q = zR 155 498 [l0, l1, l2, l3] st w Q := zR_go (zst zT_155_32 (by simp [zins, zi_table, zgo, zto, hx]))
theorem zr_155_32k13 {l0 l1 l2 l3 : Option zV} {x : Int} {st : List zV} {w : zW} {Q : Option zV → zW → Prop} (hx : zN x = 13) : zR 155 32 [l0, l1, l2, l3] (.inl x :: st) w Q = zR 155 531 [l0, l1, l2, l3] st w Q := zR_go (zst zT_155_32 (by simp [zins, zi_table, zgo, zto, hx]))
theorem zr_155_32k14 {l0 l1 l2 l3 : Option zV} {x : Int} {st : List zV} {w : zW} {Q : Option zV → zW → Prop} (hx : zN x = 14) : zR 155 32 [l0, l1, l2, l3] (.inl x :: st) w Q = zR 155 564 [l0, l1, l2, l3] st w Q := zR_go (zst zT_155_32 (by simp [zins, zi_table, zgo, zto, hx]))
theorem zr_155_32k15 {l0 l1 l2 l3 : Option zV} {x : Int} {st : List zV} {w : zW} {Q : Option zV → zW → Prop} (hx : zN x = 15) : zR 155 32 [l0, l1, l2, l3] (.inl x :: st) w Q = zR 155 597 [l0, l1, l2, l3] st w Q := zR_go (zst zT_155_32 (by simp [zins, zi_table, zgo, zto, hx]))
theorem zr_155_32d {l0 l1 l2 l3 : Option zV} {x : Int} {st : List zV} {w : zW} {Q : Option zV → zW → Prop} (hx : zN x < 0 ∨ 15 < zN x) : zR 155 32 [l0, l1, l2, l3] (.inl x :: st) w Q = zR 155 630 [l0, l1, l2, l3] st w Q := zR_go (zst zT_155_32 (by simp [zins, zi_table, zgo, zto, hx]))
theorem zT_155_112 : zT 155 112 = some (.aload_n 1, 1, 0, []) := by decide +kernel
theorem zr_155_112 {l0 l2 l3 : Option zV} {x : Option Nat} {st : List zV} {w : zW} {Q : Option zV → zW → Prop}  : zR 155 112 [l0, some (.inr x), l2, l3] st w Q = zR 155 113 [l0, some (.inr x), l2, l3] (.inr x :: st) w Q := zR_go (zst zT_155_112 rfl)
theorem zT_155_113 : zT 155 113 = some (.aload_n 0, 1, 0, []) := by decide +kernel
theorem zr_155_113 {l1 l2 l3 : Option zV} {x : Option Nat} {st : List zV} {w : zW} {Q : Option zV → zW → Prop}  : zR 155 113 [some (.inr x), l1, l2, l3] st w Q = zR 155 114 [some (.inr x), l1, l2, l3] (.inr x :: st) w Q := zR_go (zst zT_155_113 rfl)
theorem zT_155_114 : zT 155 114 = some (.iload_n 3, 1, 0, []) := by decide +kernel
theorem zr_155_114 {l0 l1 l2 : Option zV} {x : Int} {st : List zV} {w : zW} {Q : Option zV → zW → Prop}  : zR 155 114 [l0, l1, l2, some (.inl x)] st w Q = zR 155 115 [l0, l1, l2, some (.inl x)] (.inl x :: st) w Q := zR_go (zst zT_155_114 rfl)
theorem zT_155_115 : zT 155 115 = some (.iconst 1, 1, 0, []) := by decide +kernel
theorem zr_155_115 {l0 l1 l2 l3 : Option zV} {st : List zV} {w : zW} {Q : Option zV → zW → Prop}  : zR 155 115 [l0, l1, l2, l3] st w Q = zR 155 116 [l0, l1, l2, l3] (.inl 1 :: st) w Q := zR_go (zst zT_155_115 rfl)
theorem zT_155_116 : zT 155 116 = some (.iadd, 1, 0, []) := by decide +kernel
theorem zr_155_116 {l0 l1 l2 l3 : Option zV} {x y : Int} {st : List zV} {w : zW} {Q : Option zV → zW → Prop}  : zR 155 116 [l0, l1, l2, l3] (.inl y :: .inl x :: st) w Q = zR 155 117 [l0, l1, l2, l3] (.inl (x + y) :: st) w Q := zR_go (zst zT_155_116 rfl)
theorem zT_155_117 : zT 155 117 = some (.iaload, 1, 0, []) := by decide +kernel
theorem zr_155_117 {l0 l1 l2 l3 : Option zV} {j : Int} {h : Nat} {st : List zV} {w : zW} {Q : Option zV → zW → Prop} (hk : (zk w h = zNC ∨ zk w h = zNC + 2) ∧ 0 ≤ zN j ∧ zN j < zl w h) : zR 155 117 [l0, l1, l2, l3] (.inl j :: .inr (some h) :: st) w Q = zR 155 118 [l0, l1, l2, l3] (.inl (za w h (zN j).toNat) :: st) w Q := zR_go (zst zT_155_117 (if_pos hk))
theorem zT_155_118 : zT 155 118 = some (.aload_n 0, 1, 0, []) := by decide +kernel
theorem zr_155_118 {l1 l2 l3 : Option zV} {x : Option Nat} {st : List zV} {w : zW} {Q : Option zV → zW → Prop}  : zR 155 118 [some (.inr x), l1, l2, l3] st w Q = zR 155 119 [some (.inr x), l1, l2, l3] (.inr x :: st) w Q := zR_go (zst zT_155_118 rfl)
theorem zT_155_119 : zT 155 119 = some (.iload_n 3, 1, 0, []) := by decide +kernel
theorem zr_155_119 {l0 l1 l2 : Option zV} {x : Int} {st : List zV} {w : zW} {Q : Option zV → zW → Prop}  : zR 155 119 [l0, l1, l2, some (.inl x)] st w Q = zR 155 120 [l0, l1, l2, some (.inl x)] (.inl x :: st) w Q := zR_go (zst zT_155_119 rfl)
theorem zT_155_120 : zT 155 120 = some (.iconst 2, 1, 0, []) := by decide +kernel
theorem zr_155_120 {l0 l1 l2 l3 : Option zV} {st : List zV} {w : zW} {Q : Option zV → zW → Prop}  : zR 155 120 [l0, l1, l2, l3] st w Q = zR 155 121 [l0, l1, l2, l3] (.inl 2 :: st) w Q := zR_go (zst zT_155_120 rfl)
theorem zT_155_121 : zT 155 121 = some (.iadd, 1, 0, []) := by decide +kernel
theorem zr_155_121 {l0 l1 l2 l3 : Option zV} {x y : Int} {st : List zV} {w : zW} {Q : Option zV → zW → Prop}  : zR 155 121 [l0, l1, l2, l3] (.inl y :: .inl x :: st) w Q = zR 155 122 [l0, l1, l2, l3] (.inl (x + y) :: st) w Q := zR_go (zst zT_155_121 rfl)
theorem zT_155_122 : zT 155 122 = some (.iaload, 1, 0, []) := by decide +kernel
theorem zr_155_122 {l0 l1 l2 l3 : Option zV} {j : Int} {h : Nat} {st : List zV} {w : zW} {Q : Option zV → zW → Prop} (hk : (zk w h = zNC ∨ zk w h = zNC + 2) ∧ 0 ≤ zN j ∧ zN j < zl w h) : zR 155 122 [l0, l1, l2, l3] (.inl j :: .inr (some h) :: st) w Q = zR 155 123 [l0, l1, l2, l3] (.inl (za w h (zN j).toNat) :: st) w Q := zR_go (zst zT_155_122 (if_pos hk))
theorem zT_155_123 : zT 155 123 = some (.aload_n 0, 1, 0, []) := by decide +kernel
theorem zr_155_123 {l1 l2 l3 : Option zV} {x : Option Nat} {st : List zV} {w : zW} {Q : Option zV → zW → Prop}  : zR 155 123 [some (.inr x), l1, l2, l3] st w Q = zR 155 124 [some (.inr x), l1, l2, l3] (.inr x :: st) w Q := zR_go (zst zT_155_123 rfl)
theorem zT_155_124 : zT 155 124 = some (.iload_n 3, 1, 0, []) := by decide +kernel
theorem zr_155_124 {l0 l1 l2 : Option zV} {x : Int} {st : List zV} {w : zW} {Q : Option zV → zW → Prop}  : zR 155 124 [l0, l1, l2, some (.inl x)] st w Q = zR 155 125 [l0, l1, l2, some (.inl x)] (.inl x :: st) w Q := zR_go (zst zT_155_124 rfl)
theorem zT_155_125 : zT 155 125 = some (.iconst 3, 1, 0, []) := by decide +kernel
theorem zr_155_125 {l0 l1 l2 l3 : Option zV} {st : List zV} {w : zW} {Q : Option zV → zW → Prop}  : zR 155 125 [l0, l1, l2, l3] st w Q = zR 155 126 [l0, l1, l2, l3] (.inl 3 :: st) w Q := zR_go (zst zT_155_125 rfl)
theorem zT_155_126 : zT 155 126 = some (.iadd, 1, 0, []) := by decide +kernel
theorem zr_155_126 {l0 l1 l2 l3 : Option zV} {x y : Int} {st : List zV} {w : zW} {Q : Option zV → zW → Prop}  : zR 155 126 [l0, l1, l2, l3] (.inl y :: .inl x :: st) w Q = zR 155 127 [l0, l1, l2, l3] (.inl (x + y) :: st) w Q := zR_go (zst zT_155_126 rfl)
theorem zT_155_127 : zT 155 127 = some (.iaload, 1, 0, []) := by decide +kernel
theorem zr_155_127 {l0 l1 l2 l3 : Option zV} {j : Int} {h : Nat} {st : List zV} {w : zW} {Q : Option zV → zW → Prop} (hk : (zk w h = zNC ∨ zk w h = zNC + 2) ∧ 0 ≤ zN j ∧ zN j < zl w h) : zR 155 127 [l0, l1, l2, l3] (.inl j :: .inr (some h) :: st) w Q = zR 155 128 [l0, l1, l2, l3] (.inl (za w h (zN j).toNat) :: st) w Q := zR_go (zst zT_155_127 (if_pos hk))
theorem zT_155_128 : zT 155 128 = some (.invokevirtual 13, 3, 3, [(0, 1)]) := by decide +kernel
theorem zr_155_128 {l0 l1 l2 l3 : Option zV} {a0 a1 a2 : zV} {h : Nat} {st : List zV} {w : zW} {Q : Option zV → zW → Prop} (hs : st.length ≤ 8) (hk : zk w h = 0) : zR 155 128 [l0, l1, l2, l3] (a2 :: a1 :: a0 :: .inr (some h) :: st) w Q = zR 1 0 [some (.inr (some h)), some a0, some a1, some a2, none] [] w (fun r w2 => zR 155 131 [l0, l1, l2, l3] (r.toList ++ st) w2 Q) := zR_call (zst zT_155_128 (zcall_v [a2, a1, a0] rfl hs hk rfl))
theorem zT_155_131 : zT 155 131 = some (.aload_n 2, 1, 0, []) := by decide +kernel
theorem zr_155_131 {l0 l1 l3 : Option zV} {x : Option Nat} {st : List zV} {w : zW} {Q : Option zV → zW → Prop}  : zR 155 131 [l0, l1, some (.inr x), l3] st w Q = zR 155 132 [l0, l1, some (.inr x), l3] (.inr x :: st) w Q := zR_go (zst zT_155_131 rfl)
theorem zT_155_132 : zT 155 132 = some (.aload_n 0, 1, 0, []) := by decide +kernel
theorem zr_155_132 {l1 l2 l3 : Option zV} {x : Option Nat} {st : List zV} {w : zW} {Q : Option zV → zW → Prop}  : zR 155 132 [some (.inr x), l1, l2, l3] st w Q = zR 155 133 [some (.inr x), l1, l2, l3] (.inr x :: st) w Q := zR_go (zst zT_155_132 rfl)
theorem zT_155_133 : zT 155 133 = some (.iload_n 3, 1, 0, []) := by decide +kernel
theorem zr_155_133 {l0 l1 l2 : Option zV} {x : Int} {st : List zV} {w : zW} {Q : Option zV → zW → Prop}  : zR 155 133 [l0, l1, l2, some (.inl x)] st w Q = zR 155 134 [l0, l1, l2, some (.inl x)] (.inl x :: st) w Q := zR_go (zst zT_155_133 rfl)
theorem zT_155_134 : zT 155 134 = some (.iconst 1, 1, 0, []) := by decide +kernel
theorem zr_155_134 {l0 l1 l2 l3 : Option zV} {st : List zV} {w : zW} {Q : Option zV → zW → Prop}  : zR 155 134 [l0, l1, l2, l3] st w Q = zR 155 135 [l0, l1, l2, l3] (.inl 1 :: st) w Q := zR_go (zst zT_155_134 rfl)
theorem zT_155_135 : zT 155 135 = some (.iadd, 1, 0, []) := by decide +kernel
theorem zr_155_135 {l0 l1 l2 l3 : Option zV} {x y : Int} {st : List zV} {w : zW} {Q : Option zV → zW → Prop}  : zR 155 135 [l0, l1, l2, l3] (.inl y :: .inl x :: st) w Q = zR 155 136 [l0, l1, l2, l3] (.inl (x + y) :: st) w Q := zR_go (zst zT_155_135 rfl)
theorem zT_155_136 : zT 155 136 = some (.iaload, 1, 0, []) := by decide +kernel
theorem zr_155_136 {l0 l1 l2 l3 : Option zV} {j : Int} {h : Nat} {st : List zV} {w : zW} {Q : Option zV → zW → Prop} (hk : (zk w h = zNC ∨ zk w h = zNC + 2) ∧ 0 ≤ zN j ∧ zN j < zl w h) : zR 155 136 [l0, l1, l2, l3] (.inl j :: .inr (some h) :: st) w Q = zR 155 137 [l0, l1, l2, l3] (.inl (za w h (zN j).toNat) :: st) w Q := zR_go (zst zT_155_136 (if_pos hk))
theorem zT_155_137 : zT 155 137 = some (.aload_n 0, 1, 0, []) := by decide +kernel
theorem zr_155_137 {l1 l2 l3 : Option zV} {x : Option Nat} {st : List zV} {w : zW} {Q : Option zV → zW → Prop}  : zR 155 137 [some (.inr x), l1, l2, l3] st w Q = zR 155 138 [some (.inr x), l1, l2, l3] (.inr x :: st) w Q := zR_go (zst zT_155_137 rfl)
theorem zT_155_138 : zT 155 138 = some (.iload_n 3, 1, 0, []) := by decide +kernel
theorem zr_155_138 {l0 l1 l2 : Option zV} {x : Int} {st : List zV} {w : zW} {Q : Option zV → zW → Prop}  : zR 155 138 [l0, l1, l2, some (.inl x)] st w Q = zR 155 139 [l0, l1, l2, some (.inl x)] (.inl x :: st) w Q := zR_go (zst zT_155_138 rfl)
theorem zT_155_139 : zT 155 139 = some (.iconst 2, 1, 0, []) := by decide +kernel
theorem zr_155_139 {l0 l1 l2 l3 : Option zV} {st : List zV} {w : zW} {Q : Option zV → zW → Prop}  : zR 155 139 [l0, l1, l2, l3] st w Q = zR 155 140 [l0, l1, l2, l3] (.inl 2 :: st) w Q := zR_go (zst zT_155_139 rfl)
theorem zT_155_140 : zT 155 140 = some (.iadd, 1, 0, []) := by decide +kernel
theorem zr_155_140 {l0 l1 l2 l3 : Option zV} {x y : Int} {st : List zV} {w : zW} {Q : Option zV → zW → Prop}  : zR 155 140 [l0, l1, l2, l3] (.inl y :: .inl x :: st) w Q = zR 155 141 [l0, l1, l2, l3] (.inl (x + y) :: st) w Q := zR_go (zst zT_155_140 rfl)
theorem zT_155_141 : zT 155 141 = some (.iaload, 1, 0, []) := by decide +kernel
theorem zr_155_141 {l0 l1 l2 l3 : Option zV} {j : Int} {h : Nat} {st : List zV} {w : zW} {Q : Option zV → zW → Prop} (hk : (zk w h = zNC ∨ zk w h = zNC + 2) ∧ 0 ≤ zN j ∧ zN j < zl w h) : zR 155 141 [l0, l1, l2, l3] (.inl j :: .inr (some h) :: st) w Q = zR 155 142 [l0, l1, l2, l3] (.inl (za w h (zN j).toNat) :: st) w Q := zR_go (zst zT_155_141 (if_pos hk))
theorem zT_155_142 : zT 155 142 = some (.aload_n 0, 1, 0, []) := by decide +kernel
theorem zr_155_142 {l1 l2 l3 : Option zV} {x : Option Nat} {st : List zV} {w : zW} {Q : Option zV → zW → Prop}  : zR 155 142 [some (.inr x), l1, l2, l3] st w Q = zR 155 143 [some (.inr x), l1, l2, l3] (.inr x :: st) w Q := zR_go (zst zT_155_142 rfl)
theorem zT_155_143 : zT 155 143 = some (.iload_n 3, 1, 0, []) := by decide +kernel
theorem zr_155_143 {l0 l1 l2 : Option zV} {x : Int} {st : List zV} {w : zW} {Q : Option zV → zW → Prop}  : zR 155 143 [l0, l1, l2, some (.inl x)] st w Q = zR 155 144 [l0, l1, l2, some (.inl x)] (.inl x :: st) w Q := zR_go (zst zT_155_143 rfl)
theorem zT_155_144 : zT 155 144 = some (.iconst 3, 1, 0, []) := by decide +kernel
theorem zr_155_144 {l0 l1 l2 l3 : Option zV} {st : List zV} {w : zW} {Q : Option zV → zW → Prop}  : zR 155 144 [l0, l1, l2, l3] st w Q = zR 155 145 [l0, l1, l2, l3] (.inl 3 :: st) w Q := zR_go (zst zT_155_144 rfl)
theorem zT_155_145 : zT 155 145 = some (.iadd, 1, 0, []) := by decide +kernel
theorem zr_155_145 {l0 l1 l2 l3 : Option zV} {x y : Int} {st : List zV} {w : zW} {Q : Option zV → zW → Prop}  : zR 155 145 [l0, l1, l2, l3] (.inl y :: .inl x :: st) w Q = zR 155 146 [l0, l1, l2, l3] (.inl (x + y) :: st) w Q := zR_go (zst zT_155_145 rfl)
theorem zT_155_146 : zT 155 146 = some (.iaload, 1, 0, []) := by decide +kernel
theorem zr_155_146 {l0 l1 l2 l3 : Option zV} {j : Int} {h : Nat} {st : List zV} {w : zW} {Q : Option zV → zW → Prop} (hk : (zk w h = zNC ∨ zk w h = zNC + 2) ∧ 0 ≤ zN j ∧ zN j < zl w h) : zR 155 146 [l0, l1, l2, l3] (.inl j :: .inr (some h) :: st) w Q = zR 155 147 [l0, l1, l2, l3] (.inl (za w h (zN j).toNat) :: st) w Q := zR_go (zst zT_155_146 (if_pos hk))
theorem zT_155_147 : zT 155 147 = some (.invokevirtual 17, 3, 3, [(11, 29)]) := by decide +kernel
theorem zr_155_147 {l0 l1 l2 l3 : Option zV} {a0 a1 a2 : zV} {h : Nat} {st : List zV} {w : zW} {Q : Option zV → zW → Prop} (hs : st.length ≤ 8) (hk : zk w h = 11) : zR 155 147 [l0, l1, l2, l3] (a2 :: a1 :: a0 :: .inr (some h) :: st) w Q = zR 29 0 [some (.inr (some h)), some a0, some a1, some a2, none] [] w (fun r w2 => zR 155 150 [l0, l1, l2, l3] (r.toList ++ st) w2 Q) := zR_call (zst zT_155_147 (zcall_v [a2, a1, a0] rfl hs hk rfl))
theorem zT_155_150 : zT 155 150 = some (.if_icmp .eq 480, 3, 0, []) := by decide +kernel
theorem zr_155_150 {l0 l1 l2 l3 : Option zV} {x y : Int} {st : List zV} {w : zW} {Q : Option zV → zW → Prop}  : zR 155 150 [l0, l1, l2, l3] (.inl y :: .inl x :: st) w Q = (if zN x = zN y then zR 155 630 [l0, l1, l2, l3] st w Q else zR 155 153 [l0, l1, l2, l3] st w Q) := zR_if (zstB zT_155_150 rfl) (by simp [zcmp])
theorem zT_155_153 : zT 155 153 = some (.iconst 0, 1, 0, []) := by decide +kernel
theorem zr_155_153 {l0 l1 l2 l3 : Option zV} {st : List zV} {w : zW} {Q : Option zV → zW → Prop}  : zR 155 153 [l0, l1, l2, l3] st w Q = zR 155 154 [l0, l1, l2, l3] (.inl 0 :: st) w Q := zR_go (zst zT_155_153 rfl)
theorem zT_155_154 : zT 155 154 = some (.ireturn, 1, 0, []) := by decide +kernel
theorem zr_155_154 {l0 l1 l2 l3 : Option zV} {x : Int} {w : zW} {Q : Option zV → zW → Prop} (hx : zN x = 0 ∨ zN x = 1) : zR 155 154 [l0, l1, l2, l3] [.inl x] w Q = Q (some (.inl x)) w := zR_ret (zst zT_155_154 (if_pos (Or.inr ⟨rfl, hx⟩)))
theorem zT_155_155 : zT 155 155 = some (.aload_n 1, 1, 0, []) := by decide +kernel
theorem zr_155_155 {l0 l2 l3 : Option zV} {x : Option Nat} {st : List zV} {w : zW} {Q : Option zV → zW → Prop}  : zR 155 155 [l0, some (.inr x), l2, l3] st w Q = zR 155 156 [l0, some (.inr x), l2, l3] (.inr x :: st) w Q := zR_go (zst zT_155_155 rfl)
theorem zT_155_156 : zT 155 156 = some (.aload_n 0, 1, 0, []) := by decide +kernel
theorem zr_155_156 {l1 l2 l3 : Option zV} {x : Option Nat} {st : List zV} {w : zW} {Q : Option zV → zW → Prop}  : zR 155 156 [some (.inr x), l1, l2, l3] st w Q = zR 155 157 [some (.inr x), l1, l2, l3] (.inr x :: st) w Q := zR_go (zst zT_155_156 rfl)
theorem zT_155_157 : zT 155 157 = some (.iload_n 3, 1, 0, []) := by decide +kernel
theorem zr_155_157 {l0 l1 l2 : Option zV} {x : Int} {st : List zV} {w : zW} {Q : Option zV → zW → Prop}  : zR 155 157 [l0, l1, l2, some (.inl x)] st w Q = zR 155 158 [l0, l1, l2, some (.inl x)] (.inl x :: st) w Q := zR_go (zst zT_155_157 rfl)
theorem zT_155_158 : zT 155 158 = some (.iconst 1, 1, 0, []) := by decide +kernel
theorem zr_155_158 {l0 l1 l2 l3 : Option zV} {st : List zV} {w : zW} {Q : Option zV → zW → Prop}  : zR 155 158 [l0, l1, l2, l3] st w Q = zR 155 159 [l0, l1, l2, l3] (.inl 1 :: st) w Q := zR_go (zst zT_155_158 rfl)
theorem zT_155_159 : zT 155 159 = some (.iadd, 1, 0, []) := by decide +kernel
theorem zr_155_159 {l0 l1 l2 l3 : Option zV} {x y : Int} {st : List zV} {w : zW} {Q : Option zV → zW → Prop}  : zR 155 159 [l0, l1, l2, l3] (.inl y :: .inl x :: st) w Q = zR 155 160 [l0, l1, l2, l3] (.inl (x + y) :: st) w Q := zR_go (zst zT_155_159 rfl)
theorem zT_155_160 : zT 155 160 = some (.iaload, 1, 0, []) := by decide +kernel
theorem zr_155_160 {l0 l1 l2 l3 : Option zV} {j : Int} {h : Nat} {st : List zV} {w : zW} {Q : Option zV → zW → Prop} (hk : (zk w h = zNC ∨ zk w h = zNC + 2) ∧ 0 ≤ zN j ∧ zN j < zl w h) : zR 155 160 [l0, l1, l2, l3] (.inl j :: .inr (some h) :: st) w Q = zR 155 161 [l0, l1, l2, l3] (.inl (za w h (zN j).toNat) :: st) w Q := zR_go (zst zT_155_160 (if_pos hk))
theorem zT_155_161 : zT 155 161 = some (.invokevirtual 18, 3, 1, [(0, 2)]) := by decide +kernel
theorem zr_155_161 {l0 l1 l2 l3 : Option zV} {a0 : zV} {h : Nat} {st : List zV} {w : zW} {Q : Option zV → zW → Prop} (hs : st.length ≤ 8) (hk : zk w h = 0) : zR 155 161 [l0, l1, l2, l3] (a0 :: .inr (some h) :: st) w Q = zR 2 0 [some (.inr (some h)), some a0] [] w (fun r w2 => zR 155 164 [l0, l1, l2, l3] (r.toList ++ st) w2 Q) := zR_call (zst zT_155_161 (zcall_v [a0] rfl hs hk rfl))
theorem zT_155_164 : zT 155 164 = some (.aload_n 2, 1, 0, []) := by decide +kernel
theorem zr_155_164 {l0 l1 l3 : Option zV} {x : Option Nat} {st : List zV} {w : zW} {Q : Option zV → zW → Prop}  : zR 155 164 [l0, l1, some (.inr x), l3] st w Q = zR 155 165 [l0, l1, some (.inr x), l3] (.inr x :: st) w Q := zR_go (zst zT_155_164 rfl)
theorem zT_155_165 : zT 155 165 = some (.aload_n 0, 1, 0, []) := by decide +kernel
theorem zr_155_165 {l1 l2 l3 : Option zV} {x : Option Nat} {st : List zV} {w : zW} {Q : Option zV → zW → Prop}  : zR 155 165 [some (.inr x), l1, l2, l3] st w Q = zR 155 166 [some (.inr x), l1, l2, l3] (.inr x :: st) w Q := zR_go (zst zT_155_165 rfl)
theorem zT_155_166 : zT 155 166 = some (.iload_n 3, 1, 0, []) := by decide +kernel
theorem zr_155_166 {l0 l1 l2 : Option zV} {x : Int} {st : List zV} {w : zW} {Q : Option zV → zW → Prop}  : zR 155 166 [l0, l1, l2, some (.inl x)] st w Q = zR 155 167 [l0, l1, l2, some (.inl x)] (.inl x :: st) w Q := zR_go (zst zT_155_166 rfl)
theorem zT_155_167 : zT 155 167 = some (.iconst 1, 1, 0, []) := by decide +kernel
theorem zr_155_167 {l0 l1 l2 l3 : Option zV} {st : List zV} {w : zW} {Q : Option zV → zW → Prop}  : zR 155 167 [l0, l1, l2, l3] st w Q = zR 155 168 [l0, l1, l2, l3] (.inl 1 :: st) w Q := zR_go (zst zT_155_167 rfl)
theorem zT_155_168 : zT 155 168 = some (.iadd, 1, 0, []) := by decide +kernel
theorem zr_155_168 {l0 l1 l2 l3 : Option zV} {x y : Int} {st : List zV} {w : zW} {Q : Option zV → zW → Prop}  : zR 155 168 [l0, l1, l2, l3] (.inl y :: .inl x :: st) w Q = zR 155 169 [l0, l1, l2, l3] (.inl (x + y) :: st) w Q := zR_go (zst zT_155_168 rfl)
theorem zT_155_169 : zT 155 169 = some (.iaload, 1, 0, []) := by decide +kernel
theorem zr_155_169 {l0 l1 l2 l3 : Option zV} {j : Int} {h : Nat} {st : List zV} {w : zW} {Q : Option zV → zW → Prop} (hk : (zk w h = zNC ∨ zk w h = zNC + 2) ∧ 0 ≤ zN j ∧ zN j < zl w h) : zR 155 169 [l0, l1, l2, l3] (.inl j :: .inr (some h) :: st) w Q = zR 155 170 [l0, l1, l2, l3] (.inl (za w h (zN j).toNat) :: st) w Q := zR_go (zst zT_155_169 (if_pos hk))
theorem zT_155_170 : zT 155 170 = some (.invokevirtual 22, 3, 1, [(11, 30)]) := by decide +kernel
theorem zr_155_170 {l0 l1 l2 l3 : Option zV} {a0 : zV} {h : Nat} {st : List zV} {w : zW} {Q : Option zV → zW → Prop} (hs : st.length ≤ 8) (hk : zk w h = 11) : zR 155 170 [l0, l1, l2, l3] (a0 :: .inr (some h) :: st) w Q = zR 30 0 [some (.inr (some h)), some a0] [] w (fun r w2 => zR 155 173 [l0, l1, l2, l3] (r.toList ++ st) w2 Q) := zR_call (zst zT_155_170 (zcall_v [a0] rfl hs hk rfl))
theorem zT_155_173 : zT 155 173 = some (.if_icmp .eq 457, 3, 0, []) := by decide +kernel
theorem zr_155_173 {l0 l1 l2 l3 : Option zV} {x y : Int} {st : List zV} {w : zW} {Q : Option zV → zW → Prop}  : zR 155 173 [l0, l1, l2, l3] (.inl y :: .inl x :: st) w Q = (if zN x = zN y then zR 155 630 [l0, l1, l2, l3] st w Q else zR 155 176 [l0, l1, l2, l3] st w Q) := zR_if (zstB zT_155_173 rfl) (by simp [zcmp])
theorem zT_155_176 : zT 155 176 = some (.iconst 0, 1, 0, []) := by decide +kernel
theorem zr_155_176 {l0 l1 l2 l3 : Option zV} {st : List zV} {w : zW} {Q : Option zV → zW → Prop}  : zR 155 176 [l0, l1, l2, l3] st w Q = zR 155 177 [l0, l1, l2, l3] (.inl 0 :: st) w Q := zR_go (zst zT_155_176 rfl)
theorem zT_155_177 : zT 155 177 = some (.ireturn, 1, 0, []) := by decide +kernel
theorem zr_155_177 {l0 l1 l2 l3 : Option zV} {x : Int} {w : zW} {Q : Option zV → zW → Prop} (hx : zN x = 0 ∨ zN x = 1) : zR 155 177 [l0, l1, l2, l3] [.inl x] w Q = Q (some (.inl x)) w := zR_ret (zst zT_155_177 (if_pos (Or.inr ⟨rfl, hx⟩)))
theorem zT_155_178 : zT 155 178 = some (.aload_n 1, 1, 0, []) := by decide +kernel
theorem zr_155_178 {l0 l2 l3 : Option zV} {x : Option Nat} {st : List zV} {w : zW} {Q : Option zV → zW → Prop}  : zR 155 178 [l0, some (.inr x), l2, l3] st w Q = zR 155 179 [l0, some (.inr x), l2, l3] (.inr x :: st) w Q := zR_go (zst zT_155_178 rfl)
theorem zT_155_179 : zT 155 179 = some (.aload_n 0, 1, 0, []) := by decide +kernel
theorem zr_155_179 {l1 l2 l3 : Option zV} {x : Option Nat} {st : List zV} {w : zW} {Q : Option zV → zW → Prop}  : zR 155 179 [some (.inr x), l1, l2, l3] st w Q = zR 155 180 [some (.inr x), l1, l2, l3] (.inr x :: st) w Q := zR_go (zst zT_155_179 rfl)
theorem zT_155_180 : zT 155 180 = some (.iload_n 3, 1, 0, []) := by decide +kernel
theorem zr_155_180 {l0 l1 l2 : Option zV} {x : Int} {st : List zV} {w : zW} {Q : Option zV → zW → Prop}  : zR 155 180 [l0, l1, l2, some (.inl x)] st w Q = zR 155 181 [l0, l1, l2, some (.inl x)] (.inl x :: st) w Q := zR_go (zst zT_155_180 rfl)
theorem zT_155_181 : zT 155 181 = some (.iconst 1, 1, 0, []) := by decide +kernel
theorem zr_155_181 {l0 l1 l2 l3 : Option zV} {st : List zV} {w : zW} {Q : Option zV → zW → Prop}  : zR 155 181 [l0, l1, l2, l3] st w Q = zR 155 182 [l0, l1, l2, l3] (.inl 1 :: st) w Q := zR_go (zst zT_155_181 rfl)
theorem zT_155_182 : zT 155 182 = some (.iadd, 1, 0, []) := by decide +kernel
theorem zr_155_182 {l0 l1 l2 l3 : Option zV} {x y : Int} {st : List zV} {w : zW} {Q : Option zV → zW → Prop}  : zR 155 182 [l0, l1, l2, l3] (.inl y :: .inl x :: st) w Q = zR 155 183 [l0, l1, l2, l3] (.inl (x + y) :: st) w Q := zR_go (zst zT_155_182 rfl)
theorem zT_155_183 : zT 155 183 = some (.iaload, 1, 0, []) := by decide +kernel
theorem zr_155_183 {l0 l1 l2 l3 : Option zV} {j : Int} {h : Nat} {st : List zV} {w : zW} {Q : Option zV → zW → Prop} (hk : (zk w h = zNC ∨ zk w h = zNC + 2) ∧ 0 ≤ zN j ∧ zN j < zl w h) : zR 155 183 [l0, l1, l2, l3] (.inl j :: .inr (some h) :: st) w Q = zR 155 184 [l0, l1, l2, l3] (.inl (za w h (zN j).toNat) :: st) w Q := zR_go (zst zT_155_183 (if_pos hk))
theorem zT_155_184 : zT 155 184 = some (.invokevirtual 23, 3, 1, [(0, 3)]) := by decide +kernel
theorem zr_155_184 {l0 l1 l2 l3 : Option zV} {a0 : zV} {h : Nat} {st : List zV} {w : zW} {Q : Option zV → zW → Prop} (hs : st.length ≤ 8) (hk : zk w h = 0) : zR 155 184 [l0, l1, l2, l3] (a0 :: .inr (some h) :: st) w Q = zR 3 0 [some (.inr (some h)), some a0] [] w (fun r w2 => zR 155 187 [l0, l1, l2, l3] (r.toList ++ st) w2 Q) := zR_call (zst zT_155_184 (zcall_v [a0] rfl hs hk rfl))
theorem zT_155_187 : zT 155 187 = some (.aload_n 2, 1, 0, []) := by decide +kernel
theorem zr_155_187 {l0 l1 l3 : Option zV} {x : Option Nat} {st : List zV} {w : zW} {Q : Option zV → zW → Prop}  : zR 155 187 [l0, l1, some (.inr x), l3] st w Q = zR 155 188 [l0, l1, some (.inr x), l3] (.inr x :: st) w Q := zR_go (zst zT_155_187 rfl)
theorem zT_155_188 : zT 155 188 = some (.aload_n 0, 1, 0, []) := by decide +kernel
theorem zr_155_188 {l1 l2 l3 : Option zV} {x : Option Nat} {st : List zV} {w : zW} {Q : Option zV → zW → Prop}  : zR 155 188 [some (.inr x), l1, l2, l3] st w Q = zR 155 189 [some (.inr x), l1, l2, l3] (.inr x :: st) w Q := zR_go (zst zT_155_188 rfl)
theorem zT_155_189 : zT 155 189 = some (.iload_n 3, 1, 0, []) := by decide +kernel
theorem zr_155_189 {l0 l1 l2 : Option zV} {x : Int} {st : List zV} {w : zW} {Q : Option zV → zW → Prop}  : zR 155 189 [l0, l1, l2, some (.inl x)] st w Q = zR 155 190 [l0, l1, l2, some (.inl x)] (.inl x :: st) w Q := zR_go (zst zT_155_189 rfl)
theorem zT_155_190 : zT 155 190 = some (.iconst 1, 1, 0, []) := by decide +kernel
theorem zr_155_190 {l0 l1 l2 l3 : Option zV} {st : List zV} {w : zW} {Q : Option zV → zW → Prop}  : zR 155 190 [l0, l1, l2, l3] st w Q = zR 155 191 [l0, l1, l2, l3] (.inl 1 :: st) w Q := zR_go (zst zT_155_190 rfl)
theorem zT_155_191 : zT 155 191 = some (.iadd, 1, 0, []) := by decide +kernel
theorem zr_155_191 {l0 l1 l2 l3 : Option zV} {x y : Int} {st : List zV} {w : zW} {Q : Option zV → zW → Prop}  : zR 155 191 [l0, l1, l2, l3] (.inl y :: .inl x :: st) w Q = zR 155 192 [l0, l1, l2, l3] (.inl (x + y) :: st) w Q := zR_go (zst zT_155_191 rfl)
theorem zT_155_192 : zT 155 192 = some (.iaload, 1, 0, []) := by decide +kernel
theorem zr_155_192 {l0 l1 l2 l3 : Option zV} {j : Int} {h : Nat} {st : List zV} {w : zW} {Q : Option zV → zW → Prop} (hk : (zk w h = zNC ∨ zk w h = zNC + 2) ∧ 0 ≤ zN j ∧ zN j < zl w h) : zR 155 192 [l0, l1, l2, l3] (.inl j :: .inr (some h) :: st) w Q = zR 155 193 [l0, l1, l2, l3] (.inl (za w h (zN j).toNat) :: st) w Q := zR_go (zst zT_155_192 (if_pos hk))
theorem zT_155_193 : zT 155 193 = some (.invokevirtual 26, 3, 1, [(11, 31)]) := by decide +kernel
theorem zr_155_193 {l0 l1 l2 l3 : Option zV} {a0 : zV} {h : Nat} {st : List zV} {w : zW} {Q : Option zV → zW → Prop} (hs : st.length ≤ 8) (hk : zk w h = 11) : zR 155 193 [l0, l1, l2, l3] (a0 :: .inr (some h) :: st) w Q = zR 31 0 [some (.inr (some h)), some a0] [] w (fun r w2 => zR 155 196 [l0, l1, l2, l3] (r.toList ++ st) w2 Q) := zR_call (zst zT_155_193 (zcall_v [a0] rfl hs hk rfl))
theorem zT_155_196 : zT 155 196 = some (.if_icmp .eq 434, 3, 0, []) := by decide +kernel
theorem zr_155_196 {l0 l1 l2 l3 : Option zV} {x y : Int} {st : List zV} {w : zW} {Q : Option zV → zW → Prop}  : zR 155 196 [l0, l1, l2, l3] (.inl y :: .inl x :: st) w Q = (if zN x = zN y then zR 155 630 [l0, l1, l2, l3] st w Q else zR 155 199 [l0, l1, l2, l3] st w Q) := zR_if (zstB zT_155_196 rfl) (by simp [zcmp])
theorem zT_155_199 : zT 155 199 = some (.iconst 0, 1, 0, []) := by decide +kernel
theorem zr_155_199 {l0 l1 l2 l3 : Option zV} {st : List zV} {w : zW} {Q : Option zV → zW → Prop}  : zR 155 199 [l0, l1, l2, l3] st w Q = zR 155 200 [l0, l1, l2, l3] (.inl 0 :: st) w Q := zR_go (zst zT_155_199 rfl)
theorem zT_155_200 : zT 155 200 = some (.ireturn, 1, 0, []) := by decide +kernel
theorem zr_155_200 {l0 l1 l2 l3 : Option zV} {x : Int} {w : zW} {Q : Option zV → zW → Prop} (hx : zN x = 0 ∨ zN x = 1) : zR 155 200 [l0, l1, l2, l3] [.inl x] w Q = Q (some (.inl x)) w := zR_ret (zst zT_155_200 (if_pos (Or.inr ⟨rfl, hx⟩)))
theorem zT_155_201 : zT 155 201 = some (.aload_n 1, 1, 0, []) := by decide +kernel
theorem zr_155_201 {l0 l2 l3 : Option zV} {x : Option Nat} {st : List zV} {w : zW} {Q : Option zV → zW → Prop}  : zR 155 201 [l0, some (.inr x), l2, l3] st w Q = zR 155 202 [l0, some (.inr x), l2, l3] (.inr x :: st) w Q := zR_go (zst zT_155_201 rfl)
theorem zT_155_202 : zT 155 202 = some (.aload_n 0, 1, 0, []) := by decide +kernel
theorem zr_155_202 {l1 l2 l3 : Option zV} {x : Option Nat} {st : List zV} {w : zW} {Q : Option zV → zW → Prop}  : zR 155 202 [some (.inr x), l1, l2, l3] st w Q = zR 155 203 [some (.inr x), l1, l2, l3] (.inr x :: st) w Q := zR_go (zst zT_155_202 rfl)
theorem zT_155_203 : zT 155 203 = some (.iload_n 3, 1, 0, []) := by decide +kernel
theorem zr_155_203 {l0 l1 l2 : Option zV} {x : Int} {st : List zV} {w : zW} {Q : Option zV → zW → Prop}  : zR 155 203 [l0, l1, l2, some (.inl x)] st w Q = zR 155 204 [l0, l1, l2, some (.inl x)] (.inl x :: st) w Q := zR_go (zst zT_155_203 rfl)
theorem zT_155_204 : zT 155 204 = some (.iconst 1, 1, 0, []) := by decide +kernel
theorem zr_155_204 {l0 l1 l2 l3 : Option zV} {st : List zV} {w : zW} {Q : Option zV → zW → Prop}  : zR 155 204 [l0, l1, l2, l3] st w Q = zR 155 205 [l0, l1, l2, l3] (.inl 1 :: st) w Q := zR_go (zst zT_155_204 rfl)
theorem zT_155_205 : zT 155 205 = some (.iadd, 1, 0, []) := by decide +kernel
theorem zr_155_205 {l0 l1 l2 l3 : Option zV} {x y : Int} {st : List zV} {w : zW} {Q : Option zV → zW → Prop}  : zR 155 205 [l0, l1, l2, l3] (.inl y :: .inl x :: st) w Q = zR 155 206 [l0, l1, l2, l3] (.inl (x + y) :: st) w Q := zR_go (zst zT_155_205 rfl)
theorem zT_155_206 : zT 155 206 = some (.iaload, 1, 0, []) := by decide +kernel
theorem zr_155_206 {l0 l1 l2 l3 : Option zV} {j : Int} {h : Nat} {st : List zV} {w : zW} {Q : Option zV → zW → Prop} (hk : (zk w h = zNC ∨ zk w h = zNC + 2) ∧ 0 ≤ zN j ∧ zN j < zl w h) : zR 155 206 [l0, l1, l2, l3] (.inl j :: .inr (some h) :: st) w Q = zR 155 207 [l0, l1, l2, l3] (.inl (za w h (zN j).toNat) :: st) w Q := zR_go (zst zT_155_206 (if_pos hk))
theorem zT_155_207 : zT 155 207 = some (.aload_n 0, 1, 0, []) := by decide +kernel
theorem zr_155_207 {l1 l2 l3 : Option zV} {x : Option Nat} {st : List zV} {w : zW} {Q : Option zV → zW → Prop}  : zR 155 207 [some (.inr x), l1, l2, l3] st w Q = zR 155 208 [some (.inr x), l1, l2, l3] (.inr x :: st) w Q := zR_go (zst zT_155_207 rfl)
theorem zT_155_208 : zT 155 208 = some (.iload_n 3, 1, 0, []) := by decide +kernel
theorem zr_155_208 {l0 l1 l2 : Option zV} {x : Int} {st : List zV} {w : zW} {Q : Option zV → zW → Prop}  : zR 155 208 [l0, l1, l2, some (.inl x)] st w Q = zR 155 209 [l0, l1, l2, some (.inl x)] (.inl x :: st) w Q := zR_go (zst zT_155_208 rfl)
theorem zT_155_209 : zT 155 209 = some (.iconst 2, 1, 0, []) := by decide +kernel
theorem zr_155_209 {l0 l1 l2 l3 : Option zV} {st : List zV} {w : zW} {Q : Option zV → zW → Prop}  : zR 155 209 [l0, l1, l2, l3] st w Q = zR 155 210 [l0, l1, l2, l3] (.inl 2 :: st) w Q := zR_go (zst zT_155_209 rfl)
theorem zT_155_210 : zT 155 210 = some (.iadd, 1, 0, []) := by decide +kernel
theorem zr_155_210 {l0 l1 l2 l3 : Option zV} {x y : Int} {st : List zV} {w : zW} {Q : Option zV → zW → Prop}  : zR 155 210 [l0, l1, l2, l3] (.inl y :: .inl x :: st) w Q = zR 155 211 [l0, l1, l2, l3] (.inl (x + y) :: st) w Q := zR_go (zst zT_155_210 rfl)
theorem zT_155_211 : zT 155 211 = some (.iaload, 1, 0, []) := by decide +kernel
theorem zr_155_211 {l0 l1 l2 l3 : Option zV} {j : Int} {h : Nat} {st : List zV} {w : zW} {Q : Option zV → zW → Prop} (hk : (zk w h = zNC ∨ zk w h = zNC + 2) ∧ 0 ≤ zN j ∧ zN j < zl w h) : zR 155 211 [l0, l1, l2, l3] (.inl j :: .inr (some h) :: st) w Q = zR 155 212 [l0, l1, l2, l3] (.inl (za w h (zN j).toNat) :: st) w Q := zR_go (zst zT_155_211 (if_pos hk))
theorem zT_155_212 : zT 155 212 = some (.aload_n 0, 1, 0, []) := by decide +kernel
theorem zr_155_212 {l1 l2 l3 : Option zV} {x : Option Nat} {st : List zV} {w : zW} {Q : Option zV → zW → Prop}  : zR 155 212 [some (.inr x), l1, l2, l3] st w Q = zR 155 213 [some (.inr x), l1, l2, l3] (.inr x :: st) w Q := zR_go (zst zT_155_212 rfl)
theorem zT_155_213 : zT 155 213 = some (.iload_n 3, 1, 0, []) := by decide +kernel
theorem zr_155_213 {l0 l1 l2 : Option zV} {x : Int} {st : List zV} {w : zW} {Q : Option zV → zW → Prop}  : zR 155 213 [l0, l1, l2, some (.inl x)] st w Q = zR 155 214 [l0, l1, l2, some (.inl x)] (.inl x :: st) w Q := zR_go (zst zT_155_213 rfl)
theorem zT_155_214 : zT 155 214 = some (.iconst 3, 1, 0, []) := by decide +kernel
theorem zr_155_214 {l0 l1 l2 l3 : Option zV} {st : List zV} {w : zW} {Q : Option zV → zW → Prop}  : zR 155 214 [l0, l1, l2, l3] st w Q = zR 155 215 [l0, l1, l2, l3] (.inl 3 :: st) w Q := zR_go (zst zT_155_214 rfl)
theorem zT_155_215 : zT 155 215 = some (.iadd, 1, 0, []) := by decide +kernel
theorem zr_155_215 {l0 l1 l2 l3 : Option zV} {x y : Int} {st : List zV} {w : zW} {Q : Option zV → zW → Prop}  : zR 155 215 [l0, l1, l2, l3] (.inl y :: .inl x :: st) w Q = zR 155 216 [l0, l1, l2, l3] (.inl (x + y) :: st) w Q := zR_go (zst zT_155_215 rfl)
theorem zT_155_216 : zT 155 216 = some (.iaload, 1, 0, []) := by decide +kernel
theorem zr_155_216 {l0 l1 l2 l3 : Option zV} {j : Int} {h : Nat} {st : List zV} {w : zW} {Q : Option zV → zW → Prop} (hk : (zk w h = zNC ∨ zk w h = zNC + 2) ∧ 0 ≤ zN j ∧ zN j < zl w h) : zR 155 216 [l0, l1, l2, l3] (.inl j :: .inr (some h) :: st) w Q = zR 155 217 [l0, l1, l2, l3] (.inl (za w h (zN j).toNat) :: st) w Q := zR_go (zst zT_155_216 (if_pos hk))
theorem zT_155_217 : zT 155 217 = some (.invokevirtual 27, 3, 3, [(0, 4)]) := by decide +kernel
theorem zr_155_217 {l0 l1 l2 l3 : Option zV} {a0 a1 a2 : zV} {h : Nat} {st : List zV} {w : zW} {Q : Option zV → zW → Prop} (hs : st.length ≤ 8) (hk : zk w h = 0) : zR 155 217 [l0, l1, l2, l3] (a2 :: a1 :: a0 :: .inr (some h) :: st) w Q = zR 4 0 [some (.inr (some h)), some a0, some a1, some a2] [] w (fun r w2 => zR 155 220 [l0, l1, l2, l3] (r.toList ++ st) w2 Q) := zR_call (zst zT_155_217 (zcall_v [a2, a1, a0] rfl hs hk rfl))
theorem zT_155_220 : zT 155 220 = some (.aload_n 2, 1, 0, []) := by decide +kernel
theorem zr_155_220 {l0 l1 l3 : Option zV} {x : Option Nat} {st : List zV} {w : zW} {Q : Option zV → zW → Prop}  : zR 155 220 [l0, l1, some (.inr x), l3] st w Q = zR 155 221 [l0, l1, some (.inr x), l3] (.inr x :: st) w Q := zR_go (zst zT_155_220 rfl)
theorem zT_155_221 : zT 155 221 = some (.aload_n 0, 1, 0, []) := by decide +kernel
theorem zr_155_221 {l1 l2 l3 : Option zV} {x : Option Nat} {st : List zV} {w : zW} {Q : Option zV → zW → Prop}  : zR 155 221 [some (.inr x), l1, l2, l3] st w Q = zR 155 222 [some (.inr x), l1, l2, l3] (.inr x :: st) w Q := zR_go (zst zT_155_221 rfl)
theorem zT_155_222 : zT 155 222 = some (.iload_n 3, 1, 0, []) := by decide +kernel
theorem zr_155_222 {l0 l1 l2 : Option zV} {x : Int} {st : List zV} {w : zW} {Q : Option zV → zW → Prop}  : zR 155 222 [l0, l1, l2, some (.inl x)] st w Q = zR 155 223 [l0, l1, l2, some (.inl x)] (.inl x :: st) w Q := zR_go (zst zT_155_222 rfl)
theorem zT_155_223 : zT 155 223 = some (.iconst 1, 1, 0, []) := by decide +kernel
theorem zr_155_223 {l0 l1 l2 l3 : Option zV} {st : List zV} {w : zW} {Q : Option zV → zW → Prop}  : zR 155 223 [l0, l1, l2, l3] st w Q = zR 155 224 [l0, l1, l2, l3] (.inl 1 :: st) w Q := zR_go (zst zT_155_223 rfl)
theorem zT_155_224 : zT 155 224 = some (.iadd, 1, 0, []) := by decide +kernel
theorem zr_155_224 {l0 l1 l2 l3 : Option zV} {x y : Int} {st : List zV} {w : zW} {Q : Option zV → zW → Prop}  : zR 155 224 [l0, l1, l2, l3] (.inl y :: .inl x :: st) w Q = zR 155 225 [l0, l1, l2, l3] (.inl (x + y) :: st) w Q := zR_go (zst zT_155_224 rfl)
theorem zT_155_225 : zT 155 225 = some (.iaload, 1, 0, []) := by decide +kernel
theorem zr_155_225 {l0 l1 l2 l3 : Option zV} {j : Int} {h : Nat} {st : List zV} {w : zW} {Q : Option zV → zW → Prop} (hk : (zk w h = zNC ∨ zk w h = zNC + 2) ∧ 0 ≤ zN j ∧ zN j < zl w h) : zR 155 225 [l0, l1, l2, l3] (.inl j :: .inr (some h) :: st) w Q = zR 155 226 [l0, l1, l2, l3] (.inl (za w h (zN j).toNat) :: st) w Q := zR_go (zst zT_155_225 (if_pos hk))
theorem zT_155_226 : zT 155 226 = some (.aload_n 0, 1, 0, []) := by decide +kernel
theorem zr_155_226 {l1 l2 l3 : Option zV} {x : Option Nat} {st : List zV} {w : zW} {Q : Option zV → zW → Prop}  : zR 155 226 [some (.inr x), l1, l2, l3] st w Q = zR 155 227 [some (.inr x), l1, l2, l3] (.inr x :: st) w Q := zR_go (zst zT_155_226 rfl)
theorem zT_155_227 : zT 155 227 = some (.iload_n 3, 1, 0, []) := by decide +kernel
theorem zr_155_227 {l0 l1 l2 : Option zV} {x : Int} {st : List zV} {w : zW} {Q : Option zV → zW → Prop}  : zR 155 227 [l0, l1, l2, some (.inl x)] st w Q = zR 155 228 [l0, l1, l2, some (.inl x)] (.inl x :: st) w Q := zR_go (zst zT_155_227 rfl)
theorem zT_155_228 : zT 155 228 = some (.iconst 2, 1, 0, []) := by decide +kernel
theorem zr_155_228 {l0 l1 l2 l3 : Option zV} {st : List zV} {w : zW} {Q : Option zV → zW → Prop}  : zR 155 228 [l0, l1, l2, l3] st w Q = zR 155 229 [l0, l1, l2, l3] (.inl 2 :: st) w Q := zR_go (zst zT_155_228 rfl)
theorem zT_155_229 : zT 155 229 = some (.iadd, 1, 0, []) := by decide +kernel
theorem zr_155_229 {l0 l1 l2 l3 : Option zV} {x y : Int} {st : List zV} {w : zW} {Q : Option zV → zW → Prop}  : zR 155 229 [l0, l1, l2, l3] (.inl y :: .inl x :: st) w Q = zR 155 230 [l0, l1, l2, l3] (.inl (x + y) :: st) w Q := zR_go (zst zT_155_229 rfl)
theorem zT_155_230 : zT 155 230 = some (.iaload, 1, 0, []) := by decide +kernel
theorem zr_155_230 {l0 l1 l2 l3 : Option zV} {j : Int} {h : Nat} {st : List zV} {w : zW} {Q : Option zV → zW → Prop} (hk : (zk w h = zNC ∨ zk w h = zNC + 2) ∧ 0 ≤ zN j ∧ zN j < zl w h) : zR 155 230 [l0, l1, l2, l3] (.inl j :: .inr (some h) :: st) w Q = zR 155 231 [l0, l1, l2, l3] (.inl (za w h (zN j).toNat) :: st) w Q := zR_go (zst zT_155_230 (if_pos hk))
theorem zT_155_231 : zT 155 231 = some (.aload_n 0, 1, 0, []) := by decide +kernel
theorem zr_155_231 {l1 l2 l3 : Option zV} {x : Option Nat} {st : List zV} {w : zW} {Q : Option zV → zW → Prop}  : zR 155 231 [some (.inr x), l1, l2, l3] st w Q = zR 155 232 [some (.inr x), l1, l2, l3] (.inr x :: st) w Q := zR_go (zst zT_155_231 rfl)
theorem zT_155_232 : zT 155 232 = some (.iload_n 3, 1, 0, []) := by decide +kernel
theorem zr_155_232 {l0 l1 l2 : Option zV} {x : Int} {st : List zV} {w : zW} {Q : Option zV → zW → Prop}  : zR 155 232 [l0, l1, l2, some (.inl x)] st w Q = zR 155 233 [l0, l1, l2, some (.inl x)] (.inl x :: st) w Q := zR_go (zst zT_155_232 rfl)
theorem zT_155_233 : zT 155 233 = some (.iconst 3, 1, 0, []) := by decide +kernel
theorem zr_155_233 {l0 l1 l2 l3 : Option zV} {st : List zV} {w : zW} {Q : Option zV → zW → Prop}  : zR 155 233 [l0, l1, l2, l3] st w Q = zR 155 234 [l0, l1, l2, l3] (.inl 3 :: st) w Q := zR_go (zst zT_155_233 rfl)
theorem zT_155_234 : zT 155 234 = some (.iadd, 1, 0, []) := by decide +kernel
theorem zr_155_234 {l0 l1 l2 l3 : Option zV} {x y : Int} {st : List zV} {w : zW} {Q : Option zV → zW → Prop}  : zR 155 234 [l0, l1, l2, l3] (.inl y :: .inl x :: st) w Q = zR 155 235 [l0, l1, l2, l3] (.inl (x + y) :: st) w Q := zR_go (zst zT_155_234 rfl)
theorem zT_155_235 : zT 155 235 = some (.iaload, 1, 0, []) := by decide +kernel
theorem zr_155_235 {l0 l1 l2 l3 : Option zV} {j : Int} {h : Nat} {st : List zV} {w : zW} {Q : Option zV → zW → Prop} (hk : (zk w h = zNC ∨ zk w h = zNC + 2) ∧ 0 ≤ zN j ∧ zN j < zl w h) : zR 155 235 [l0, l1, l2, l3] (.inl j :: .inr (some h) :: st) w Q = zR 155 236 [l0, l1, l2, l3] (.inl (za w h (zN j).toNat) :: st) w Q := zR_go (zst zT_155_235 (if_pos hk))
theorem zT_155_236 : zT 155 236 = some (.invokevirtual 30, 3, 3, [(11, 32)]) := by decide +kernel
theorem zr_155_236 {l0 l1 l2 l3 : Option zV} {a0 a1 a2 : zV} {h : Nat} {st : List zV} {w : zW} {Q : Option zV → zW → Prop} (hs : st.length ≤ 8) (hk : zk w h = 11) : zR 155 236 [l0, l1, l2, l3] (a2 :: a1 :: a0 :: .inr (some h) :: st) w Q = zR 32 0 [some (.inr (some h)), some a0, some a1, some a2] [] w (fun r w2 => zR 155 239 [l0, l1, l2, l3] (r.toList ++ st) w2 Q) := zR_call (zst zT_155_236 (zcall_v [a2, a1, a0] rfl hs hk rfl))
theorem zT_155_239 : zT 155 239 = some (.if_icmp .eq 391, 3, 0, []) := by decide +kernel
theorem zr_155_239 {l0 l1 l2 l3 : Option zV} {x y : Int} {st : List zV} {w : zW} {Q : Option zV → zW → Prop}  : zR 155 239 [l0, l1, l2, l3] (.inl y :: .inl x :: st) w Q = (if zN x = zN y then zR 155 630 [l0, l1, l2, l3] st w Q else zR 155 242 [l0, l1, l2, l3] st w Q) := zR_if (zstB zT_155_239 rfl) (by simp [zcmp])
theorem zT_155_242 : zT 155 242 = some (.iconst 0, 1, 0, []) := by decide +kernel
theorem zr_155_242 {l0 l1 l2 l3 : Option zV} {st : List zV} {w : zW} {Q : Option zV → zW → Prop}  : zR 155 242 [l0, l1, l2, l3] st w Q = zR 155 243 [l0, l1, l2, l3] (.inl 0 :: st) w Q := zR_go (zst zT_155_242 rfl)
theorem zT_155_243 : zT 155 243 = some (.ireturn, 1, 0, []) := by decide +kernel
theorem zr_155_243 {l0 l1 l2 l3 : Option zV} {x : Int} {w : zW} {Q : Option zV → zW → Prop} (hx : zN x = 0 ∨ zN x = 1) : zR 155 243 [l0, l1, l2, l3] [.inl x] w Q = Q (some (.inl x)) w := zR_ret (zst zT_155_243 (if_pos (Or.inr ⟨rfl, hx⟩)))
theorem zT_155_244 : zT 155 244 = some (.aload_n 1, 1, 0, []) := by decide +kernel
theorem zr_155_244 {l0 l2 l3 : Option zV} {x : Option Nat} {st : List zV} {w : zW} {Q : Option zV → zW → Prop}  : zR 155 244 [l0, some (.inr x), l2, l3] st w Q = zR 155 245 [l0, some (.inr x), l2, l3] (.inr x :: st) w Q := zR_go (zst zT_155_244 rfl)
theorem zT_155_245 : zT 155 245 = some (.aload_n 0, 1, 0, []) := by decide +kernel
theorem zr_155_245 {l1 l2 l3 : Option zV} {x : Option Nat} {st : List zV} {w : zW} {Q : Option zV → zW → Prop}  : zR 155 245 [some (.inr x), l1, l2, l3] st w Q = zR 155 246 [some (.inr x), l1, l2, l3] (.inr x :: st) w Q := zR_go (zst zT_155_245 rfl)
theorem zT_155_246 : zT 155 246 = some (.iload_n 3, 1, 0, []) := by decide +kernel
theorem zr_155_246 {l0 l1 l2 : Option zV} {x : Int} {st : List zV} {w : zW} {Q : Option zV → zW → Prop}  : zR 155 246 [l0, l1, l2, some (.inl x)] st w Q = zR 155 247 [l0, l1, l2, some (.inl x)] (.inl x :: st) w Q := zR_go (zst zT_155_246 rfl)
theorem zT_155_247 : zT 155 247 = some (.iconst 1, 1, 0, []) := by decide +kernel
theorem zr_155_247 {l0 l1 l2 l3 : Option zV} {st : List zV} {w : zW} {Q : Option zV → zW → Prop}  : zR 155 247 [l0, l1, l2, l3] st w Q = zR 155 248 [l0, l1, l2, l3] (.inl 1 :: st) w Q := zR_go (zst zT_155_247 rfl)
theorem zT_155_248 : zT 155 248 = some (.iadd, 1, 0, []) := by decide +kernel
theorem zr_155_248 {l0 l1 l2 l3 : Option zV} {x y : Int} {st : List zV} {w : zW} {Q : Option zV → zW → Prop}  : zR 155 248 [l0, l1, l2, l3] (.inl y :: .inl x :: st) w Q = zR 155 249 [l0, l1, l2, l3] (.inl (x + y) :: st) w Q := zR_go (zst zT_155_248 rfl)
theorem zT_155_249 : zT 155 249 = some (.iaload, 1, 0, []) := by decide +kernel
theorem zr_155_249 {l0 l1 l2 l3 : Option zV} {j : Int} {h : Nat} {st : List zV} {w : zW} {Q : Option zV → zW → Prop} (hk : (zk w h = zNC ∨ zk w h = zNC + 2) ∧ 0 ≤ zN j ∧ zN j < zl w h) : zR 155 249 [l0, l1, l2, l3] (.inl j :: .inr (some h) :: st) w Q = zR 155 250 [l0, l1, l2, l3] (.inl (za w h (zN j).toNat) :: st) w Q := zR_go (zst zT_155_249 (if_pos hk))
theorem zT_155_250 : zT 155 250 = some (.invokevirtual 31, 3, 1, [(0, 5)]) := by decide +kernel
theorem zr_155_250 {l0 l1 l2 l3 : Option zV} {a0 : zV} {h : Nat} {st : List zV} {w : zW} {Q : Option zV → zW → Prop} (hs : st.length ≤ 8) (hk : zk w h = 0) : zR 155 250 [l0, l1, l2, l3] (a0 :: .inr (some h) :: st) w Q = zR 5 0 [some (.inr (some h)), some a0, none] [] w (fun r w2 => zR 155 253 [l0, l1, l2, l3] (r.toList ++ st) w2 Q) := zR_call (zst zT_155_250 (zcall_v [a0] rfl hs hk rfl))
theorem zT_155_253 : zT 155 253 = some (.aload_n 2, 1, 0, []) := by decide +kernel
theorem zr_155_253 {l0 l1 l3 : Option zV} {x : Option Nat} {st : List zV} {w : zW} {Q : Option zV → zW → Prop}  : zR 155 253 [l0, l1, some (.inr x), l3] st w Q = zR 155 254 [l0, l1, some (.inr x), l3] (.inr x :: st) w Q := zR_go (zst zT_155_253 rfl)
theorem zT_155_254 : zT 155 254 = some (.aload_n 0, 1, 0, []) := by decide +kernel
theorem zr_155_254 {l1 l2 l3 : Option zV} {x : Option Nat} {st : List zV} {w : zW} {Q : Option zV → zW → Prop}  : zR 155 254 [some (.inr x), l1, l2, l3] st w Q = zR 155 255 [some (.inr x), l1, l2, l3] (.inr x :: st) w Q := zR_go (zst zT_155_254 rfl)
theorem zT_155_255 : zT 155 255 = some (.iload_n 3, 1, 0, []) := by decide +kernel
theorem zr_155_255 {l0 l1 l2 : Option zV} {x : Int} {st : List zV} {w : zW} {Q : Option zV → zW → Prop}  : zR 155 255 [l0, l1, l2, some (.inl x)] st w Q = zR 155 256 [l0, l1, l2, some (.inl x)] (.inl x :: st) w Q := zR_go (zst zT_155_255 rfl)
theorem zT_155_256 : zT 155 256 = some (.iconst 1, 1, 0, []) := by decide +kernel
theorem zr_155_256 {l0 l1 l2 l3 : Option zV} {st : List zV} {w : zW} {Q : Option zV → zW → Prop}  : zR 155 256 [l0, l1, l2, l3] st w Q = zR 155 257 [l0, l1, l2, l3] (.inl 1 :: st) w Q := zR_go (zst zT_155_256 rfl)
theorem zT_155_257 : zT 155 257 = some (.iadd, 1, 0, []) := by decide +kernel
theorem zr_155_257 {l0 l1 l2 l3 : Option zV} {x y : Int} {st : List zV} {w : zW} {Q : Option zV → zW → Prop}  : zR 155 257 [l0, l1, l2, l3] (.inl y :: .inl x :: st) w Q = zR 155 258 [l0, l1, l2, l3] (.inl (x + y) :: st) w Q := zR_go (zst zT_155_257 rfl)
theorem zT_155_258 : zT 155 258 = some (.iaload, 1, 0, []) := by decide +kernel
theorem zr_155_258 {l0 l1 l2 l3 : Option zV} {j : Int} {h : Nat} {st : List zV} {w : zW} {Q : Option zV → zW → Prop} (hk : (zk w h = zNC ∨ zk w h = zNC + 2) ∧ 0 ≤ zN j ∧ zN j < zl w h) : zR 155 258 [l0, l1, l2, l3] (.inl j :: .inr (some h) :: st) w Q = zR 155 259 [l0, l1, l2, l3] (.inl (za w h (zN j).toNat) :: st) w Q := zR_go (zst zT_155_258 (if_pos hk))
theorem zT_155_259 : zT 155 259 = some (.invokevirtual 35, 3, 1, [(11, 65)]) := by decide +kernel
theorem zr_155_259 {l0 l1 l2 l3 : Option zV} {a0 : zV} {h : Nat} {st : List zV} {w : zW} {Q : Option zV → zW → Prop} (hs : st.length ≤ 8) (hk : zk w h = 11) : zR 155 259 [l0, l1, l2, l3] (a0 :: .inr (some h) :: st) w Q = zR 65 0 [some (.inr (some h)), some a0, none, none] [] w (fun r w2 => zR 155 262 [l0, l1, l2, l3] (r.toList ++ st) w2 Q) := zR_call (zst zT_155_259 (zcall_v [a0] rfl hs hk rfl))
theorem zT_155_262 : zT 155 262 = some (.if_icmp .eq 368, 3, 0, []) := by decide +kernel
theorem zr_155_262 {l0 l1 l2 l3 : Option zV} {x y : Int} {st : List zV} {w : zW} {Q : Option zV → zW → Prop}  : zR 155 262 [l0, l1, l2, l3] (.inl y :: .inl x :: st) w Q = (if zN x = zN y then zR 155 630 [l0, l1, l2, l3] st w Q else zR 155 265 [l0, l1, l2, l3] st w Q) := zR_if (zstB zT_155_262 rfl) (by simp [zcmp])
theorem zT_155_265 : zT 155 265 = some (.iconst 0, 1, 0, []) := by decide +kernel
theorem zr_155_265 {l0 l1 l2 l3 : Option zV} {st : List zV} {w : zW} {Q : Option zV → zW → Prop}  : zR 155 265 [l0, l1, l2, l3] st w Q = zR 155 266 [l0, l1, l2, l3] (.inl 0 :: st) w Q := zR_go (zst zT_155_265 rfl)
theorem zT_155_266 : zT 155 266 = some (.ireturn, 1, 0, []) := by decide +kernel
theorem zr_155_266 {l0 l1 l2 l3 : Option zV} {x : Int} {w : zW} {Q : Option zV → zW → Prop} (hx : zN x = 0 ∨ zN x = 1) : zR 155 266 [l0, l1, l2, l3] [.inl x] w Q = Q (some (.inl x)) w := zR_ret (zst zT_155_266 (if_pos (Or.inr ⟨rfl, hx⟩)))
theorem zT_155_267 : zT 155 267 = some (.aload_n 1, 1, 0, []) := by decide +kernel
theorem zr_155_267 {l0 l2 l3 : Option zV} {x : Option Nat} {st : List zV} {w : zW} {Q : Option zV → zW → Prop}  : zR 155 267 [l0, some (.inr x), l2, l3] st w Q = zR 155 268 [l0, some (.inr x), l2, l3] (.inr x :: st) w Q := zR_go (zst zT_155_267 rfl)
theorem zT_155_268 : zT 155 268 = some (.aload_n 0, 1, 0, []) := by decide +kernel
theorem zr_155_268 {l1 l2 l3 : Option zV} {x : Option Nat} {st : List zV} {w : zW} {Q : Option zV → zW → Prop}  : zR 155 268 [some (.inr x), l1, l2, l3] st w Q = zR 155 269 [some (.inr x), l1, l2, l3] (.inr x :: st) w Q := zR_go (zst zT_155_268 rfl)
theorem zT_155_269 : zT 155 269 = some (.iload_n 3, 1, 0, []) := by decide +kernel
theorem zr_155_269 {l0 l1 l2 : Option zV} {x : Int} {st : List zV} {w : zW} {Q : Option zV → zW → Prop}  : zR 155 269 [l0, l1, l2, some (.inl x)] st w Q = zR 155 270 [l0, l1, l2, some (.inl x)] (.inl x :: st) w Q := zR_go (zst zT_155_269 rfl)
theorem zT_155_270 : zT 155 270 = some (.iconst 1, 1, 0, []) := by decide +kernel
theorem zr_155_270 {l0 l1 l2 l3 : Option zV} {st : List zV} {w : zW} {Q : Option zV → zW → Prop}  : zR 155 270 [l0, l1, l2, l3] st w Q = zR 155 271 [l0, l1, l2, l3] (.inl 1 :: st) w Q := zR_go (zst zT_155_270 rfl)
theorem zT_155_271 : zT 155 271 = some (.iadd, 1, 0, []) := by decide +kernel
theorem zr_155_271 {l0 l1 l2 l3 : Option zV} {x y : Int} {st : List zV} {w : zW} {Q : Option zV → zW → Prop}  : zR 155 271 [l0, l1, l2, l3] (.inl y :: .inl x :: st) w Q = zR 155 272 [l0, l1, l2, l3] (.inl (x + y) :: st) w Q := zR_go (zst zT_155_271 rfl)
theorem zT_155_272 : zT 155 272 = some (.iaload, 1, 0, []) := by decide +kernel
theorem zr_155_272 {l0 l1 l2 l3 : Option zV} {j : Int} {h : Nat} {st : List zV} {w : zW} {Q : Option zV → zW → Prop} (hk : (zk w h = zNC ∨ zk w h = zNC + 2) ∧ 0 ≤ zN j ∧ zN j < zl w h) : zR 155 272 [l0, l1, l2, l3] (.inl j :: .inr (some h) :: st) w Q = zR 155 273 [l0, l1, l2, l3] (.inl (za w h (zN j).toNat) :: st) w Q := zR_go (zst zT_155_272 (if_pos hk))
theorem zT_155_273 : zT 155 273 = some (.aload_n 0, 1, 0, []) := by decide +kernel
theorem zr_155_273 {l1 l2 l3 : Option zV} {x : Option Nat} {st : List zV} {w : zW} {Q : Option zV → zW → Prop}  : zR 155 273 [some (.inr x), l1, l2, l3] st w Q = zR 155 274 [some (.inr x), l1, l2, l3] (.inr x :: st) w Q := zR_go (zst zT_155_273 rfl)
theorem zT_155_274 : zT 155 274 = some (.iload_n 3, 1, 0, []) := by decide +kernel
theorem zr_155_274 {l0 l1 l2 : Option zV} {x : Int} {st : List zV} {w : zW} {Q : Option zV → zW → Prop}  : zR 155 274 [l0, l1, l2, some (.inl x)] st w Q = zR 155 275 [l0, l1, l2, some (.inl x)] (.inl x :: st) w Q := zR_go (zst zT_155_274 rfl)
theorem zT_155_275 : zT 155 275 = some (.iconst 2, 1, 0, []) := by decide +kernel
theorem zr_155_275 {l0 l1 l2 l3 : Option zV} {st : List zV} {w : zW} {Q : Option zV → zW → Prop}  : zR 155 275 [l0, l1, l2, l3] st w Q = zR 155 276 [l0, l1, l2, l3] (.inl 2 :: st) w Q := zR_go (zst zT_155_275 rfl)
theorem zT_155_276 : zT 155 276 = some (.iadd, 1, 0, []) := by decide +kernel
theorem zr_155_276 {l0 l1 l2 l3 : Option zV} {x y : Int} {st : List zV} {w : zW} {Q : Option zV → zW → Prop}  : zR 155 276 [l0, l1, l2, l3] (.inl y :: .inl x :: st) w Q = zR 155 277 [l0, l1, l2, l3] (.inl (x + y) :: st) w Q := zR_go (zst zT_155_276 rfl)
theorem zT_155_277 : zT 155 277 = some (.iaload, 1, 0, []) := by decide +kernel
theorem zr_155_277 {l0 l1 l2 l3 : Option zV} {j : Int} {h : Nat} {st : List zV} {w : zW} {Q : Option zV → zW → Prop} (hk : (zk w h = zNC ∨ zk w h = zNC + 2) ∧ 0 ≤ zN j ∧ zN j < zl w h) : zR 155 277 [l0, l1, l2, l3] (.inl j :: .inr (some h) :: st) w Q = zR 155 278 [l0, l1, l2, l3] (.inl (za w h (zN j).toNat) :: st) w Q := zR_go (zst zT_155_277 (if_pos hk))
theorem zT_155_278 : zT 155 278 = some (.invokevirtual 36, 3, 2, [(0, 6)]) := by decide +kernel
theorem zr_155_278 {l0 l1 l2 l3 : Option zV} {a0 a1 : zV} {h : Nat} {st : List zV} {w : zW} {Q : Option zV → zW → Prop} (hs : st.length ≤ 8) (hk : zk w h = 0) : zR 155 278 [l0, l1, l2, l3] (a1 :: a0 :: .inr (some h) :: st) w Q = zR 6 0 [some (.inr (some h)), some a0, some a1] [] w (fun r w2 => zR 155 281 [l0, l1, l2, l3] (r.toList ++ st) w2 Q) := zR_call (zst zT_155_278 (zcall_v [a1, a0] rfl hs hk rfl))
theorem zT_155_281 : zT 155 281 = some (.aload_n 2, 1, 0, []) := by decide +kernel
theorem zr_155_281 {l0 l1 l3 : Option zV} {x : Option Nat} {st : List zV} {w : zW} {Q : Option zV → zW → Prop}  : zR 155 281 [l0, l1, some (.inr x), l3] st w Q = zR 155 282 [l0, l1, some (.inr x), l3] (.inr x :: st) w Q := zR_go (zst zT_155_281 rfl)
theorem zT_155_282 : zT 155 282 = some (.aload_n 0, 1, 0, []) := by decide +kernel
theorem zr_155_282 {l1 l2 l3 : Option zV} {x : Option Nat} {st : List zV} {w : zW} {Q : Option zV → zW → Prop}  : zR 155 282 [some (.inr x), l1, l2, l3] st w Q = zR 155 283 [some (.inr x), l1, l2, l3] (.inr x :: st) w Q := zR_go (zst zT_155_282 rfl)
theorem zT_155_283 : zT 155 283 = some (.iload_n 3, 1, 0, []) := by decide +kernel
theorem zr_155_283 {l0 l1 l2 : Option zV} {x : Int} {st : List zV} {w : zW} {Q : Option zV → zW → Prop}  : zR 155 283 [l0, l1, l2, some (.inl x)] st w Q = zR 155 284 [l0, l1, l2, some (.inl x)] (.inl x :: st) w Q := zR_go (zst zT_155_283 rfl)
theorem zT_155_284 : zT 155 284 = some (.iconst 1, 1, 0, []) := by decide +kernel
theorem zr_155_284 {l0 l1 l2 l3 : Option zV} {st : List zV} {w : zW} {Q : Option zV → zW → Prop}  : zR 155 284 [l0, l1, l2, l3] st w Q = zR 155 285 [l0, l1, l2, l3] (.inl 1 :: st) w Q := zR_go (zst zT_155_284 rfl)
theorem zT_155_285 : zT 155 285 = some (.iadd, 1, 0, []) := by decide +kernel
theorem zr_155_285 {l0 l1 l2 l3 : Option zV} {x y : Int} {st : List zV} {w : zW} {Q : Option zV → zW → Prop}  : zR 155 285 [l0, l1, l2, l3] (.inl y :: .inl x :: st) w Q = zR 155 286 [l0, l1, l2, l3] (.inl (x + y) :: st) w Q := zR_go (zst zT_155_285 rfl)
theorem zT_155_286 : zT 155 286 = some (.iaload, 1, 0, []) := by decide +kernel
theorem zr_155_286 {l0 l1 l2 l3 : Option zV} {j : Int} {h : Nat} {st : List zV} {w : zW} {Q : Option zV → zW → Prop} (hk : (zk w h = zNC ∨ zk w h = zNC + 2) ∧ 0 ≤ zN j ∧ zN j < zl w h) : zR 155 286 [l0, l1, l2, l3] (.inl j :: .inr (some h) :: st) w Q = zR 155 287 [l0, l1, l2, l3] (.inl (za w h (zN j).toNat) :: st) w Q := zR_go (zst zT_155_286 (if_pos hk))
theorem zT_155_287 : zT 155 287 = some (.aload_n 0, 1, 0, []) := by decide +kernel
theorem zr_155_287 {l1 l2 l3 : Option zV} {x : Option Nat} {st : List zV} {w : zW} {Q : Option zV → zW → Prop}  : zR 155 287 [some (.inr x), l1, l2, l3] st w Q = zR 155 288 [some (.inr x), l1, l2, l3] (.inr x :: st) w Q := zR_go (zst zT_155_287 rfl)
theorem zT_155_288 : zT 155 288 = some (.iload_n 3, 1, 0, []) := by decide +kernel
theorem zr_155_288 {l0 l1 l2 : Option zV} {x : Int} {st : List zV} {w : zW} {Q : Option zV → zW → Prop}  : zR 155 288 [l0, l1, l2, some (.inl x)] st w Q = zR 155 289 [l0, l1, l2, some (.inl x)] (.inl x :: st) w Q := zR_go (zst zT_155_288 rfl)
theorem zT_155_289 : zT 155 289 = some (.iconst 2, 1, 0, []) := by decide +kernel
theorem zr_155_289 {l0 l1 l2 l3 : Option zV} {st : List zV} {w : zW} {Q : Option zV → zW → Prop}  : zR 155 289 [l0, l1, l2, l3] st w Q = zR 155 290 [l0, l1, l2, l3] (.inl 2 :: st) w Q := zR_go (zst zT_155_289 rfl)
theorem zT_155_290 : zT 155 290 = some (.iadd, 1, 0, []) := by decide +kernel
theorem zr_155_290 {l0 l1 l2 l3 : Option zV} {x y : Int} {st : List zV} {w : zW} {Q : Option zV → zW → Prop}  : zR 155 290 [l0, l1, l2, l3] (.inl y :: .inl x :: st) w Q = zR 155 291 [l0, l1, l2, l3] (.inl (x + y) :: st) w Q := zR_go (zst zT_155_290 rfl)
theorem zT_155_291 : zT 155 291 = some (.iaload, 1, 0, []) := by decide +kernel
theorem zr_155_291 {l0 l1 l2 l3 : Option zV} {j : Int} {h : Nat} {st : List zV} {w : zW} {Q : Option zV → zW → Prop} (hk : (zk w h = zNC ∨ zk w h = zNC + 2) ∧ 0 ≤ zN j ∧ zN j < zl w h) : zR 155 291 [l0, l1, l2, l3] (.inl j :: .inr (some h) :: st) w Q = zR 155 292 [l0, l1, l2, l3] (.inl (za w h (zN j).toNat) :: st) w Q := zR_go (zst zT_155_291 (if_pos hk))
theorem zT_155_292 : zT 155 292 = some (.invokevirtual 40, 3, 2, [(11, 33)]) := by decide +kernel
theorem zr_155_292 {l0 l1 l2 l3 : Option zV} {a0 a1 : zV} {h : Nat} {st : List zV} {w : zW} {Q : Option zV → zW → Prop} (hs : st.length ≤ 8) (hk : zk w h = 11) : zR 155 292 [l0, l1, l2, l3] (a1 :: a0 :: .inr (some h) :: st) w Q = zR 33 0 [some (.inr (some h)), some a0, some a1] [] w (fun r w2 => zR 155 295 [l0, l1, l2, l3] (r.toList ++ st) w2 Q) := zR_call (zst zT_155_292 (zcall_v [a1, a0] rfl hs hk rfl))
theorem zT_155_295 : zT 155 295 = some (.if_icmp .eq 335, 3, 0, []) := by decide +kernel
theorem zr_155_295 {l0 l1 l2 l3 : Option zV} {x y : Int} {st : List zV} {w : zW} {Q : Option zV → zW → Prop}  : zR 155 295 [l0, l1, l2, l3] (.inl y :: .inl x :: st) w Q = (if zN x = zN y then zR 155 630 [l0, l1, l2, l3] st w Q else zR 155 298 [l0, l1, l2, l3] st w Q) := zR_if (zstB zT_155_295 rfl) (by simp [zcmp])
theorem zT_155_298 : zT 155 298 = some (.iconst 0, 1, 0, []) := by decide +kernel
theorem zr_155_298 {l0 l1 l2 l3 : Option zV} {st : List zV} {w : zW} {Q : Option zV → zW → Prop}  : zR 155 298 [l0, l1, l2, l3] st w Q = zR 155 299 [l0, l1, l2, l3] (.inl 0 :: st) w Q := zR_go (zst zT_155_298 rfl)
theorem zT_155_299 : zT 155 299 = some (.ireturn, 1, 0, []) := by decide +kernel
theorem zr_155_299 {l0 l1 l2 l3 : Option zV} {x : Int} {w : zW} {Q : Option zV → zW → Prop} (hx : zN x = 0 ∨ zN x = 1) : zR 155 299 [l0, l1, l2, l3] [.inl x] w Q = Q (some (.inl x)) w := zR_ret (zst zT_155_299 (if_pos (Or.inr ⟨rfl, hx⟩)))
theorem zT_155_300 : zT 155 300 = some (.aload_n 1, 1, 0, []) := by decide +kernel
theorem zr_155_300 {l0 l2 l3 : Option zV} {x : Option Nat} {st : List zV} {w : zW} {Q : Option zV → zW → Prop}  : zR 155 300 [l0, some (.inr x), l2, l3] st w Q = zR 155 301 [l0, some (.inr x), l2, l3] (.inr x :: st) w Q := zR_go (zst zT_155_300 rfl)
theorem zT_155_301 : zT 155 301 = some (.aload_n 0, 1, 0, []) := by decide +kernel
theorem zr_155_301 {l1 l2 l3 : Option zV} {x : Option Nat} {st : List zV} {w : zW} {Q : Option zV → zW → Prop}  : zR 155 301 [some (.inr x), l1, l2, l3] st w Q = zR 155 302 [some (.inr x), l1, l2, l3] (.inr x :: st) w Q := zR_go (zst zT_155_301 rfl)
theorem zT_155_302 : zT 155 302 = some (.iload_n 3, 1, 0, []) := by decide +kernel
theorem zr_155_302 {l0 l1 l2 : Option zV} {x : Int} {st : List zV} {w : zW} {Q : Option zV → zW → Prop}  : zR 155 302 [l0, l1, l2, some (.inl x)] st w Q = zR 155 303 [l0, l1, l2, some (.inl x)] (.inl x :: st) w Q := zR_go (zst zT_155_302 rfl)
theorem zT_155_303 : zT 155 303 = some (.iconst 1, 1, 0, []) := by decide +kernel
theorem zr_155_303 {l0 l1 l2 l3 : Option zV} {st : List zV} {w : zW} {Q : Option zV → zW → Prop}  : zR 155 303 [l0, l1, l2, l3] st w Q = zR 155 304 [l0, l1, l2, l3] (.inl 1 :: st) w Q := zR_go (zst zT_155_303 rfl)
theorem zT_155_304 : zT 155 304 = some (.iadd, 1, 0, []) := by decide +kernel
theorem zr_155_304 {l0 l1 l2 l3 : Option zV} {x y : Int} {st : List zV} {w : zW} {Q : Option zV → zW → Prop}  : zR 155 304 [l0, l1, l2, l3] (.inl y :: .inl x :: st) w Q = zR 155 305 [l0, l1, l2, l3] (.inl (x + y) :: st) w Q := zR_go (zst zT_155_304 rfl)
theorem zT_155_305 : zT 155 305 = some (.iaload, 1, 0, []) := by decide +kernel
theorem zr_155_305 {l0 l1 l2 l3 : Option zV} {j : Int} {h : Nat} {st : List zV} {w : zW} {Q : Option zV → zW → Prop} (hk : (zk w h = zNC ∨ zk w h = zNC + 2) ∧ 0 ≤ zN j ∧ zN j < zl w h) : zR 155 305 [l0, l1, l2, l3] (.inl j :: .inr (some h) :: st) w Q = zR 155 306 [l0, l1, l2, l3] (.inl (za w h (zN j).toNat) :: st) w Q := zR_go (zst zT_155_305 (if_pos hk))
theorem zT_155_306 : zT 155 306 = some (.aload_n 0, 1, 0, []) := by decide +kernel
theorem zr_155_306 {l1 l2 l3 : Option zV} {x : Option Nat} {st : List zV} {w : zW} {Q : Option zV → zW → Prop}  : zR 155 306 [some (.inr x), l1, l2, l3] st w Q = zR 155 307 [some (.inr x), l1, l2, l3] (.inr x :: st) w Q := zR_go (zst zT_155_306 rfl)
theorem zT_155_307 : zT 155 307 = some (.iload_n 3, 1, 0, []) := by decide +kernel
theorem zr_155_307 {l0 l1 l2 : Option zV} {x : Int} {st : List zV} {w : zW} {Q : Option zV → zW → Prop}  : zR 155 307 [l0, l1, l2, some (.inl x)] st w Q = zR 155 308 [l0, l1, l2, some (.inl x)] (.inl x :: st) w Q := zR_go (zst zT_155_307 rfl)
theorem zT_155_308 : zT 155 308 = some (.iconst 2, 1, 0, []) := by decide +kernel
theorem zr_155_308 {l0 l1 l2 l3 : Option zV} {st : List zV} {w : zW} {Q : Option zV → zW → Prop}  : zR 155 308 [l0, l1, l2, l3] st w Q = zR 155 309 [l0, l1, l2, l3] (.inl 2 :: st) w Q := zR_go (zst zT_155_308 rfl)
theorem zT_155_309 : zT 155 309 = some (.iadd, 1, 0, []) := by decide +kernel
theorem zr_155_309 {l0 l1 l2 l3 : Option zV} {x y : Int} {st : List zV} {w : zW} {Q : Option zV → zW → Prop}  : zR 155 309 [l0, l1, l2, l3] (.inl y :: .inl x :: st) w Q = zR 155 310 [l0, l1, l2, l3] (.inl (x + y) :: st) w Q := zR_go (zst zT_155_309 rfl)
theorem zT_155_310 : zT 155 310 = some (.iaload, 1, 0, []) := by decide +kernel
theorem zr_155_310 {l0 l1 l2 l3 : Option zV} {j : Int} {h : Nat} {st : List zV} {w : zW} {Q : Option zV → zW → Prop} (hk : (zk w h = zNC ∨ zk w h = zNC + 2) ∧ 0 ≤ zN j ∧ zN j < zl w h) : zR 155 310 [l0, l1, l2, l3] (.inl j :: .inr (some h) :: st) w Q = zR 155 311 [l0, l1, l2, l3] (.inl (za w h (zN j).toNat) :: st) w Q := zR_go (zst zT_155_310 (if_pos hk))
theorem zT_155_311 : zT 155 311 = some (.invokevirtual 41, 3, 2, [(0, 7)]) := by decide +kernel
theorem zr_155_311 {l0 l1 l2 l3 : Option zV} {a0 a1 : zV} {h : Nat} {st : List zV} {w : zW} {Q : Option zV → zW → Prop} (hs : st.length ≤ 8) (hk : zk w h = 0) : zR 155 311 [l0, l1, l2, l3] (a1 :: a0 :: .inr (some h) :: st) w Q = zR 7 0 [some (.inr (some h)), some a0, some a1] [] w (fun r w2 => zR 155 314 [l0, l1, l2, l3] (r.toList ++ st) w2 Q) := zR_call (zst zT_155_311 (zcall_v [a1, a0] rfl hs hk rfl))
theorem zT_155_314 : zT 155 314 = some (.aload_n 2, 1, 0, []) := by decide +kernel
theorem zr_155_314 {l0 l1 l3 : Option zV} {x : Option Nat} {st : List zV} {w : zW} {Q : Option zV → zW → Prop}  : zR 155 314 [l0, l1, some (.inr x), l3] st w Q = zR 155 315 [l0, l1, some (.inr x), l3] (.inr x :: st) w Q := zR_go (zst zT_155_314 rfl)
theorem zT_155_315 : zT 155 315 = some (.aload_n 0, 1, 0, []) := by decide +kernel
theorem zr_155_315 {l1 l2 l3 : Option zV} {x : Option Nat} {st : List zV} {w : zW} {Q : Option zV → zW → Prop}  : zR 155 315 [some (.inr x), l1, l2, l3] st w Q = zR 155 316 [some (.inr x), l1, l2, l3] (.inr x :: st) w Q := zR_go (zst zT_155_315 rfl)
theorem zT_155_316 : zT 155 316 = some (.iload_n 3, 1, 0, []) := by decide +kernel
theorem zr_155_316 {l0 l1 l2 : Option zV} {x : Int} {st : List zV} {w : zW} {Q : Option zV → zW → Prop}  : zR 155 316 [l0, l1, l2, some (.inl x)] st w Q = zR 155 317 [l0, l1, l2, some (.inl x)] (.inl x :: st) w Q := zR_go (zst zT_155_316 rfl)
theorem zT_155_317 : zT 155 317 = some (.iconst 1, 1, 0, []) := by decide +kernel
theorem zr_155_317 {l0 l1 l2 l3 : Option zV} {st : List zV} {w : zW} {Q : Option zV → zW → Prop}  : zR 155 317 [l0, l1, l2, l3] st w Q = zR 155 318 [l0, l1, l2, l3] (.inl 1 :: st) w Q := zR_go (zst zT_155_317 rfl)
theorem zT_155_318 : zT 155 318 = some (.iadd, 1, 0, []) := by decide +kernel
theorem zr_155_318 {l0 l1 l2 l3 : Option zV} {x y : Int} {st : List zV} {w : zW} {Q : Option zV → zW → Prop}  : zR 155 318 [l0, l1, l2, l3] (.inl y :: .inl x :: st) w Q = zR 155 319 [l0, l1, l2, l3] (.inl (x + y) :: st) w Q := zR_go (zst zT_155_318 rfl)
theorem zT_155_319 : zT 155 319 = some (.iaload, 1, 0, []) := by decide +kernel
theorem zr_155_319 {l0 l1 l2 l3 : Option zV} {j : Int} {h : Nat} {st : List zV} {w : zW} {Q : Option zV → zW → Prop} (hk : (zk w h = zNC ∨ zk w h = zNC + 2) ∧ 0 ≤ zN j ∧ zN j < zl w h) : zR 155 319 [l0, l1, l2, l3] (.inl j :: .inr (some h) :: st) w Q = zR 155 320 [l0, l1, l2, l3] (.inl (za w h (zN j).toNat) :: st) w Q := zR_go (zst zT_155_319 (if_pos hk))
theorem zT_155_320 : zT 155 320 = some (.aload_n 0, 1, 0, []) := by decide +kernel
theorem zr_155_320 {l1 l2 l3 : Option zV} {x : Option Nat} {st : List zV} {w : zW} {Q : Option zV → zW → Prop}  : zR 155 320 [some (.inr x), l1, l2, l3] st w Q = zR 155 321 [some (.inr x), l1, l2, l3] (.inr x :: st) w Q := zR_go (zst zT_155_320 rfl)
theorem zT_155_321 : zT 155 321 = some (.iload_n 3, 1, 0, []) := by decide +kernel
theorem zr_155_321 {l0 l1 l2 : Option zV} {x : Int} {st : List zV} {w : zW} {Q : Option zV → zW → Prop}  : zR 155 321 [l0, l1, l2, some (.inl x)] st w Q = zR 155 322 [l0, l1, l2, some (.inl x)] (.inl x :: st) w Q := zR_go (zst zT_155_321 rfl)
theorem zT_155_322 : zT 155 322 = some (.iconst 2, 1, 0, []) := by decide +kernel
theorem zr_155_322 {l0 l1 l2 l3 : Option zV} {st : List zV} {w : zW} {Q : Option zV → zW → Prop}  : zR 155 322 [l0, l1, l2, l3] st w Q = zR 155 323 [l0, l1, l2, l3] (.inl 2 :: st) w Q := zR_go (zst zT_155_322 rfl)
theorem zT_155_323 : zT 155 323 = some (.iadd, 1, 0, []) := by decide +kernel
theorem zr_155_323 {l0 l1 l2 l3 : Option zV} {x y : Int} {st : List zV} {w : zW} {Q : Option zV → zW → Prop}  : zR 155 323 [l0, l1, l2, l3] (.inl y :: .inl x :: st) w Q = zR 155 324 [l0, l1, l2, l3] (.inl (x + y) :: st) w Q := zR_go (zst zT_155_323 rfl)
theorem zT_155_324 : zT 155 324 = some (.iaload, 1, 0, []) := by decide +kernel
theorem zr_155_324 {l0 l1 l2 l3 : Option zV} {j : Int} {h : Nat} {st : List zV} {w : zW} {Q : Option zV → zW → Prop} (hk : (zk w h = zNC ∨ zk w h = zNC + 2) ∧ 0 ≤ zN j ∧ zN j < zl w h) : zR 155 324 [l0, l1, l2, l3] (.inl j :: .inr (some h) :: st) w Q = zR 155 325 [l0, l1, l2, l3] (.inl (za w h (zN j).toNat) :: st) w Q := zR_go (zst zT_155_324 (if_pos hk))
theorem zT_155_325 : zT 155 325 = some (.invokevirtual 45, 3, 2, [(11, 34)]) := by decide +kernel
theorem zr_155_325 {l0 l1 l2 l3 : Option zV} {a0 a1 : zV} {h : Nat} {st : List zV} {w : zW} {Q : Option zV → zW → Prop} (hs : st.length ≤ 8) (hk : zk w h = 11) : zR 155 325 [l0, l1, l2, l3] (a1 :: a0 :: .inr (some h) :: st) w Q = zR 34 0 [some (.inr (some h)), some a0, some a1, none, none] [] w (fun r w2 => zR 155 328 [l0, l1, l2, l3] (r.toList ++ st) w2 Q) := zR_call (zst zT_155_325 (zcall_v [a1, a0] rfl hs hk rfl))
theorem zT_155_328 : zT 155 328 = some (.if_icmp .eq 302, 3, 0, []) := by decide +kernel
theorem zr_155_328 {l0 l1 l2 l3 : Option zV} {x y : Int} {st : List zV} {w : zW} {Q : Option zV → zW → Prop}  : zR 155 328 [l0, l1, l2, l3] (.inl y :: .inl x :: st) w Q = (if zN x = zN y then zR 155 630 [l0, l1, l2, l3] st w Q else zR 155 331 [l0, l1, l2, l3] st w Q) := zR_if (zstB zT_155_328 rfl) (by simp [zcmp])
theorem zT_155_331 : zT 155 331 = some (.iconst 0, 1, 0, []) := by decide +kernel
theorem zr_155_331 {l0 l1 l2 l3 : Option zV} {st : List zV} {w : zW} {Q : Option zV → zW → Prop}  : zR 155 331 [l0, l1, l2, l3] st w Q = zR 155 332 [l0, l1, l2, l3] (.inl 0 :: st) w Q := zR_go (zst zT_155_331 rfl)
theorem zT_155_332 : zT 155 332 = some (.ireturn, 1, 0, []) := by decide +kernel
theorem zr_155_332 {l0 l1 l2 l3 : Option zV} {x : Int} {w : zW} {Q : Option zV → zW → Prop} (hx : zN x = 0 ∨ zN x = 1) : zR 155 332 [l0, l1, l2, l3] [.inl x] w Q = Q (some (.inl x)) w := zR_ret (zst zT_155_332 (if_pos (Or.inr ⟨rfl, hx⟩)))
theorem zT_155_333 : zT 155 333 = some (.aload_n 1, 1, 0, []) := by decide +kernel
theorem zr_155_333 {l0 l2 l3 : Option zV} {x : Option Nat} {st : List zV} {w : zW} {Q : Option zV → zW → Prop}  : zR 155 333 [l0, some (.inr x), l2, l3] st w Q = zR 155 334 [l0, some (.inr x), l2, l3] (.inr x :: st) w Q := zR_go (zst zT_155_333 rfl)
theorem zT_155_334 : zT 155 334 = some (.aload_n 0, 1, 0, []) := by decide +kernel
theorem zr_155_334 {l1 l2 l3 : Option zV} {x : Option Nat} {st : List zV} {w : zW} {Q : Option zV → zW → Prop}  : zR 155 334 [some (.inr x), l1, l2, l3] st w Q = zR 155 335 [some (.inr x), l1, l2, l3] (.inr x :: st) w Q := zR_go (zst zT_155_334 rfl)
theorem zT_155_335 : zT 155 335 = some (.iload_n 3, 1, 0, []) := by decide +kernel
theorem zr_155_335 {l0 l1 l2 : Option zV} {x : Int} {st : List zV} {w : zW} {Q : Option zV → zW → Prop}  : zR 155 335 [l0, l1, l2, some (.inl x)] st w Q = zR 155 336 [l0, l1, l2, some (.inl x)] (.inl x :: st) w Q := zR_go (zst zT_155_335 rfl)
theorem zT_155_336 : zT 155 336 = some (.iconst 1, 1, 0, []) := by decide +kernel
theorem zr_155_336 {l0 l1 l2 l3 : Option zV} {st : List zV} {w : zW} {Q : Option zV → zW → Prop}  : zR 155 336 [l0, l1, l2, l3] st w Q = zR 155 337 [l0, l1, l2, l3] (.inl 1 :: st) w Q := zR_go (zst zT_155_336 rfl)
theorem zT_155_337 : zT 155 337 = some (.iadd, 1, 0, []) := by decide +kernel
theorem zr_155_337 {l0 l1 l2 l3 : Option zV} {x y : Int} {st : List zV} {w : zW} {Q : Option zV → zW → Prop}  : zR 155 337 [l0, l1, l2, l3] (.inl y :: .inl x :: st) w Q = zR 155 338 [l0, l1, l2, l3] (.inl (x + y) :: st) w Q := zR_go (zst zT_155_337 rfl)
theorem zT_155_338 : zT 155 338 = some (.iaload, 1, 0, []) := by decide +kernel
theorem zr_155_338 {l0 l1 l2 l3 : Option zV} {j : Int} {h : Nat} {st : List zV} {w : zW} {Q : Option zV → zW → Prop} (hk : (zk w h = zNC ∨ zk w h = zNC + 2) ∧ 0 ≤ zN j ∧ zN j < zl w h) : zR 155 338 [l0, l1, l2, l3] (.inl j :: .inr (some h) :: st) w Q = zR 155 339 [l0, l1, l2, l3] (.inl (za w h (zN j).toNat) :: st) w Q := zR_go (zst zT_155_338 (if_pos hk))
theorem zT_155_339 : zT 155 339 = some (.aload_n 0, 1, 0, []) := by decide +kernel
theorem zr_155_339 {l1 l2 l3 : Option zV} {x : Option Nat} {st : List zV} {w : zW} {Q : Option zV → zW → Prop}  : zR 155 339 [some (.inr x), l1, l2, l3] st w Q = zR 155 340 [some (.inr x), l1, l2, l3] (.inr x :: st) w Q := zR_go (zst zT_155_339 rfl)
theorem zT_155_340 : zT 155 340 = some (.iload_n 3, 1, 0, []) := by decide +kernel
theorem zr_155_340 {l0 l1 l2 : Option zV} {x : Int} {st : List zV} {w : zW} {Q : Option zV → zW → Prop}  : zR 155 340 [l0, l1, l2, some (.inl x)] st w Q = zR 155 341 [l0, l1, l2, some (.inl x)] (.inl x :: st) w Q := zR_go (zst zT_155_340 rfl)
theorem zT_155_341 : zT 155 341 = some (.iconst 2, 1, 0, []) := by decide +kernel
theorem zr_155_341 {l0 l1 l2 l3 : Option zV} {st : List zV} {w : zW} {Q : Option zV → zW → Prop}  : zR 155 341 [l0, l1, l2, l3] st w Q = zR 155 342 [l0, l1, l2, l3] (.inl 2 :: st) w Q := zR_go (zst zT_155_341 rfl)
theorem zT_155_342 : zT 155 342 = some (.iadd, 1, 0, []) := by decide +kernel
theorem zr_155_342 {l0 l1 l2 l3 : Option zV} {x y : Int} {st : List zV} {w : zW} {Q : Option zV → zW → Prop}  : zR 155 342 [l0, l1, l2, l3] (.inl y :: .inl x :: st) w Q = zR 155 343 [l0, l1, l2, l3] (.inl (x + y) :: st) w Q := zR_go (zst zT_155_342 rfl)
theorem zT_155_343 : zT 155 343 = some (.iaload, 1, 0, []) := by decide +kernel
theorem zr_155_343 {l0 l1 l2 l3 : Option zV} {j : Int} {h : Nat} {st : List zV} {w : zW} {Q : Option zV → zW → Prop} (hk : (zk w h = zNC ∨ zk w h = zNC + 2) ∧ 0 ≤ zN j ∧ zN j < zl w h) : zR 155 343 [l0, l1, l2, l3] (.inl j :: .inr (some h) :: st) w Q = zR 155 344 [l0, l1, l2, l3] (.inl (za w h (zN j).toNat) :: st) w Q := zR_go (zst zT_155_343 (if_pos hk))
theorem zT_155_344 : zT 155 344 = some (.invokevirtual 46, 3, 2, [(0, 8)]) := by decide +kernel
theorem zr_155_344 {l0 l1 l2 l3 : Option zV} {a0 a1 : zV} {h : Nat} {st : List zV} {w : zW} {Q : Option zV → zW → Prop} (hs : st.length ≤ 8) (hk : zk w h = 0) : zR 155 344 [l0, l1, l2, l3] (a1 :: a0 :: .inr (some h) :: st) w Q = zR 8 0 [some (.inr (some h)), some a0, some a1, none] [] w (fun r w2 => zR 155 347 [l0, l1, l2, l3] (r.toList ++ st) w2 Q) := zR_call (zst zT_155_344 (zcall_v [a1, a0] rfl hs hk rfl))
theorem zT_155_347 : zT 155 347 = some (.aload_n 2, 1, 0, []) := by decide +kernel
theorem zr_155_347 {l0 l1 l3 : Option zV} {x : Option Nat} {st : List zV} {w : zW} {Q : Option zV → zW → Prop}  : zR 155 347 [l0, l1, some (.inr x), l3] st w Q = zR 155 348 [l0, l1, some (.inr x), l3] (.inr x :: st) w Q := zR_go (zst zT_155_347 rfl)
theorem zT_155_348 : zT 155 348 = some (.aload_n 0, 1, 0, []) := by decide +kernel
theorem zr_155_348 {l1 l2 l3 : Option zV} {x : Option Nat} {st : List zV} {w : zW} {Q : Option zV → zW → Prop}  : zR 155 348 [some (.inr x), l1, l2, l3] st w Q = zR 155 349 [some (.inr x), l1, l2, l3] (.inr x :: st) w Q := zR_go (zst zT_155_348 rfl)
theorem zT_155_349 : zT 155 349 = some (.iload_n 3, 1, 0, []) := by decide +kernel
theorem zr_155_349 {l0 l1 l2 : Option zV} {x : Int} {st : List zV} {w : zW} {Q : Option zV → zW → Prop}  : zR 155 349 [l0, l1, l2, some (.inl x)] st w Q = zR 155 350 [l0, l1, l2, some (.inl x)] (.inl x :: st) w Q := zR_go (zst zT_155_349 rfl)
theorem zT_155_350 : zT 155 350 = some (.iconst 1, 1, 0, []) := by decide +kernel
theorem zr_155_350 {l0 l1 l2 l3 : Option zV} {st : List zV} {w : zW} {Q : Option zV → zW → Prop}  : zR 155 350 [l0, l1, l2, l3] st w Q = zR 155 351 [l0, l1, l2, l3] (.inl 1 :: st) w Q := zR_go (zst zT_155_350 rfl)
theorem zT_155_351 : zT 155 351 = some (.iadd, 1, 0, []) := by decide +kernel
theorem zr_155_351 {l0 l1 l2 l3 : Option zV} {x y : Int} {st : List zV} {w : zW} {Q : Option zV → zW → Prop}  : zR 155 351 [l0, l1, l2, l3] (.inl y :: .inl x :: st) w Q = zR 155 352 [l0, l1, l2, l3] (.inl (x + y) :: st) w Q := zR_go (zst zT_155_351 rfl)
theorem zT_155_352 : zT 155 352 = some (.iaload, 1, 0, []) := by decide +kernel
theorem zr_155_352 {l0 l1 l2 l3 : Option zV} {j : Int} {h : Nat} {st : List zV} {w : zW} {Q : Option zV → zW → Prop} (hk : (zk w h = zNC ∨ zk w h = zNC + 2) ∧ 0 ≤ zN j ∧ zN j < zl w h) : zR 155 352 [l0, l1, l2, l3] (.inl j :: .inr (some h) :: st) w Q = zR 155 353 [l0, l1, l2, l3] (.inl (za w h (zN j).toNat) :: st) w Q := zR_go (zst zT_155_352 (if_pos hk))
theorem zT_155_353 : zT 155 353 = some (.aload_n 0, 1, 0, []) := by decide +kernel
theorem zr_155_353 {l1 l2 l3 : Option zV} {x : Option Nat} {st : List zV} {w : zW} {Q : Option zV → zW → Prop}  : zR 155 353 [some (.inr x), l1, l2, l3] st w Q = zR 155 354 [some (.inr x), l1, l2, l3] (.inr x :: st) w Q := zR_go (zst zT_155_353 rfl)
theorem zT_155_354 : zT 155 354 = some (.iload_n 3, 1, 0, []) := by decide +kernel
theorem zr_155_354 {l0 l1 l2 : Option zV} {x : Int} {st : List zV} {w : zW} {Q : Option zV → zW → Prop}  : zR 155 354 [l0, l1, l2, some (.inl x)] st w Q = zR 155 355 [l0, l1, l2, some (.inl x)] (.inl x :: st) w Q := zR_go (zst zT_155_354 rfl)
theorem zT_155_355 : zT 155 355 = some (.iconst 2, 1, 0, []) := by decide +kernel
theorem zr_155_355 {l0 l1 l2 l3 : Option zV} {st : List zV} {w : zW} {Q : Option zV → zW → Prop}  : zR 155 355 [l0, l1, l2, l3] st w Q = zR 155 356 [l0, l1, l2, l3] (.inl 2 :: st) w Q := zR_go (zst zT_155_355 rfl)
theorem zT_155_356 : zT 155 356 = some (.iadd, 1, 0, []) := by decide +kernel
theorem zr_155_356 {l0 l1 l2 l3 : Option zV} {x y : Int} {st : List zV} {w : zW} {Q : Option zV → zW → Prop}  : zR 155 356 [l0, l1, l2, l3] (.inl y :: .inl x :: st) w Q = zR 155 357 [l0, l1, l2, l3] (.inl (x + y) :: st) w Q := zR_go (zst zT_155_356 rfl)
theorem zT_155_357 : zT 155 357 = some (.iaload, 1, 0, []) := by decide +kernel
theorem zr_155_357 {l0 l1 l2 l3 : Option zV} {j : Int} {h : Nat} {st : List zV} {w : zW} {Q : Option zV → zW → Prop} (hk : (zk w h = zNC ∨ zk w h = zNC + 2) ∧ 0 ≤ zN j ∧ zN j < zl w h) : zR 155 357 [l0, l1, l2, l3] (.inl j :: .inr (some h) :: st) w Q = zR 155 358 [l0, l1, l2, l3] (.inl (za w h (zN j).toNat) :: st) w Q := zR_go (zst zT_155_357 (if_pos hk))
theorem zT_155_358 : zT 155 358 = some (.invokevirtual 49, 3, 2, [(11, 36)]) := by decide +kernel
theorem zr_155_358 {l0 l1 l2 l3 : Option zV} {a0 a1 : zV} {h : Nat} {st : List zV} {w : zW} {Q : Option zV → zW → Prop} (hs : st.length ≤ 8) (hk : zk w h = 11) : zR 155 358 [l0, l1, l2, l3] (a1 :: a0 :: .inr (some h) :: st) w Q = zR 36 0 [some (.inr (some h)), some a0, some a1] [] w (fun r w2 => zR 155 361 [l0, l1, l2, l3] (r.toList ++ st) w2 Q) := zR_call (zst zT_155_358 (zcall_v [a1, a0] rfl hs hk rfl))
theorem zT_155_361 : zT 155 361 = some (.if_icmp .eq 269, 3, 0, []) := by decide +kernel
theorem zr_155_361 {l0 l1 l2 l3 : Option zV} {x y : Int} {st : List zV} {w : zW} {Q : Option zV → zW → Prop}  : zR 155 361 [l0, l1, l2, l3] (.inl y :: .inl x :: st) w Q = (if zN x = zN y then zR 155 630 [l0, l1, l2, l3] st w Q else zR 155 364 [l0, l1, l2, l3] st w Q) := zR_if (zstB zT_155_361 rfl) (by simp [zcmp])
theorem zT_155_364 : zT 155 364 = some (.iconst 0, 1, 0, []) := by decide +kernel
theorem zr_155_364 {l0 l1 l2 l3 : Option zV} {st : List zV} {w : zW} {Q : Option zV → zW → Prop}  : zR 155 364 [l0, l1, l2, l3] st w Q = zR 155 365 [l0, l1, l2, l3] (.inl 0 :: st) w Q := zR_go (zst zT_155_364 rfl)
theorem zT_155_365 : zT 155 365 = some (.ireturn, 1, 0, []) := by decide +kernel
theorem zr_155_365 {l0 l1 l2 l3 : Option zV} {x : Int} {w : zW} {Q : Option zV → zW → Prop} (hx : zN x = 0 ∨ zN x = 1) : zR 155 365 [l0, l1, l2, l3] [.inl x] w Q = Q (some (.inl x)) w := zR_ret (zst zT_155_365 (if_pos (Or.inr ⟨rfl, hx⟩)))
theorem zT_155_366 : zT 155 366 = some (.aload_n 1, 1, 0, []) := by decide +kernel
theorem zr_155_366 {l0 l2 l3 : Option zV} {x : Option Nat} {st : List zV} {w : zW} {Q : Option zV → zW → Prop}  : zR 155 366 [l0, some (.inr x), l2, l3] st w Q = zR 155 367 [l0, some (.inr x), l2, l3] (.inr x :: st) w Q := zR_go (zst zT_155_366 rfl)
theorem zT_155_367 : zT 155 367 = some (.aload_n 0, 1, 0, []) := by decide +kernel
theorem zr_155_367 {l1 l2 l3 : Option zV} {x : Option Nat} {st : List zV} {w : zW} {Q : Option zV → zW → Prop}  : zR 155 367 [some (.inr x), l1, l2, l3] st w Q = zR 155 368 [some (.inr x), l1, l2, l3] (.inr x :: st) w Q := zR_go (zst zT_155_367 rfl)
theorem zT_155_368 : zT 155 368 = some (.iload_n 3, 1, 0, []) := by decide +kernel
theorem zr_155_368 {l0 l1 l2 : Option zV} {x : Int} {st : List zV} {w : zW} {Q : Option zV → zW → Prop}  : zR 155 368 [l0, l1, l2, some (.inl x)] st w Q = zR 155 369 [l0, l1, l2, some (.inl x)] (.inl x :: st) w Q := zR_go (zst zT_155_368 rfl)
theorem zT_155_369 : zT 155 369 = some (.iconst 1, 1, 0, []) := by decide +kernel
theorem zr_155_369 {l0 l1 l2 l3 : Option zV} {st : List zV} {w : zW} {Q : Option zV → zW → Prop}  : zR 155 369 [l0, l1, l2, l3] st w Q = zR 155 370 [l0, l1, l2, l3] (.inl 1 :: st) w Q := zR_go (zst zT_155_369 rfl)
theorem zT_155_370 : zT 155 370 = some (.iadd, 1, 0, []) := by decide +kernel
theorem zr_155_370 {l0 l1 l2 l3 : Option zV} {x y : Int} {st : List zV} {w : zW} {Q : Option zV → zW → Prop}  : zR 155 370 [l0, l1, l2, l3] (.inl y :: .inl x :: st) w Q = zR 155 371 [l0, l1, l2, l3] (.inl (x + y) :: st) w Q := zR_go (zst zT_155_370 rfl)
theorem zT_155_371 : zT 155 371 = some (.iaload, 1, 0, []) := by decide +kernel
theorem zr_155_371 {l0 l1 l2 l3 : Option zV} {j : Int} {h : Nat} {st : List zV} {w : zW} {Q : Option zV → zW → Prop} (hk : (zk w h = zNC ∨ zk w h = zNC + 2) ∧ 0 ≤ zN j ∧ zN j < zl w h) : zR 155 371 [l0, l1, l2, l3] (.inl j :: .inr (some h) :: st) w Q = zR 155 372 [l0, l1, l2, l3] (.inl (za w h (zN j).toNat) :: st) w Q := zR_go (zst zT_155_371 (if_pos hk))
theorem zT_155_372 : zT 155 372 = some (.aload_n 0, 1, 0, []) := by decide +kernel
theorem zr_155_372 {l1 l2 l3 : Option zV} {x : Option Nat} {st : List zV} {w : zW} {Q : Option zV → zW → Prop}  : zR 155 372 [some (.inr x), l1, l2, l3] st w Q = zR 155 373 [some (.inr x), l1, l2, l3] (.inr x :: st) w Q := zR_go (zst zT_155_372 rfl)
theorem zT_155_373 : zT 155 373 = some (.iload_n 3, 1, 0, []) := by decide +kernel
theorem zr_155_373 {l0 l1 l2 : Option zV} {x : Int} {st : List zV} {w : zW} {Q : Option zV → zW → Prop}  : zR 155 373 [l0, l1, l2, some (.inl x)] st w Q = zR 155 374 [l0, l1, l2, some (.inl x)] (.inl x :: st) w Q := zR_go (zst zT_155_373 rfl)
theorem zT_155_374 : zT 155 374 = some (.iconst 2, 1, 0, []) := by decide +kernel
theorem zr_155_374 {l0 l1 l2 l3 : Option zV} {st : List zV} {w : zW} {Q : Option zV → zW → Prop}  : zR 155 374 [l0, l1, l2, l3] st w Q = zR 155 375 [l0, l1, l2, l3] (.inl 2 :: st) w Q := zR_go (zst zT_155_374 rfl)
theorem zT_155_375 : zT 155 375 = some (.iadd, 1, 0, []) := by decide +kernel
theorem zr_155_375 {l0 l1 l2 l3 : Option zV} {x y : Int} {st : List zV} {w : zW} {Q : Option zV → zW → Prop}  : zR 155 375 [l0, l1, l2, l3] (.inl y :: .inl x :: st) w Q = zR 155 376 [l0, l1, l2, l3] (.inl (x + y) :: st) w Q := zR_go (zst zT_155_375 rfl)
theorem zT_155_376 : zT 155 376 = some (.iaload, 1, 0, []) := by decide +kernel
theorem zr_155_376 {l0 l1 l2 l3 : Option zV} {j : Int} {h : Nat} {st : List zV} {w : zW} {Q : Option zV → zW → Prop} (hk : (zk w h = zNC ∨ zk w h = zNC + 2) ∧ 0 ≤ zN j ∧ zN j < zl w h) : zR 155 376 [l0, l1, l2, l3] (.inl j :: .inr (some h) :: st) w Q = zR 155 377 [l0, l1, l2, l3] (.inl (za w h (zN j).toNat) :: st) w Q := zR_go (zst zT_155_376 (if_pos hk))
theorem zT_155_377 : zT 155 377 = some (.invokevirtual 50, 3, 2, [(0, 9)]) := by decide +kernel
theorem zr_155_377 {l0 l1 l2 l3 : Option zV} {a0 a1 : zV} {h : Nat} {st : List zV} {w : zW} {Q : Option zV → zW → Prop} (hs : st.length ≤ 8) (hk : zk w h = 0) : zR 155 377 [l0, l1, l2, l3] (a1 :: a0 :: .inr (some h) :: st) w Q = zR 9 0 [some (.inr (some h)), some a0, some a1, none] [] w (fun r w2 => zR 155 380 [l0, l1, l2, l3] (r.toList ++ st) w2 Q) := zR_call (zst zT_155_377 (zcall_v [a1, a0] rfl hs hk rfl))
theorem zT_155_380 : zT 155 380 = some (.aload_n 2, 1, 0, []) := by decide +kernel
theorem zr_155_380 {l0 l1 l3 : Option zV} {x : Option Nat} {st : List zV} {w : zW} {Q : Option zV → zW → Prop}  : zR 155 380 [l0, l1, some (.inr x), l3] st w Q = zR 155 381 [l0, l1, some (.inr x), l3] (.inr x :: st) w Q := zR_go (zst zT_155_380 rfl)
theorem zT_155_381 : zT 155 381 = some (.aload_n 0, 1, 0, []) := by decide +kernel
theorem zr_155_381 {l1 l2 l3 : Option zV} {x : Option Nat} {st : List zV} {w : zW} {Q : Option zV → zW → Prop}  : zR 155 381 [some (.inr x), l1, l2, l3] st w Q = zR 155 382 [some (.inr x), l1, l2, l3] (.inr x :: st) w Q := zR_go (zst zT_155_381 rfl)
theorem zT_155_382 : zT 155 382 = some (.iload_n 3, 1, 0, []) := by decide +kernel
theorem zr_155_382 {l0 l1 l2 : Option zV} {x : Int} {st : List zV} {w : zW} {Q : Option zV → zW → Prop}  : zR 155 382 [l0, l1, l2, some (.inl x)] st w Q = zR 155 383 [l0, l1, l2, some (.inl x)] (.inl x :: st) w Q := zR_go (zst zT_155_382 rfl)
theorem zT_155_383 : zT 155 383 = some (.iconst 1, 1, 0, []) := by decide +kernel
theorem zr_155_383 {l0 l1 l2 l3 : Option zV} {st : List zV} {w : zW} {Q : Option zV → zW → Prop}  : zR 155 383 [l0, l1, l2, l3] st w Q = zR 155 384 [l0, l1, l2, l3] (.inl 1 :: st) w Q := zR_go (zst zT_155_383 rfl)
theorem zT_155_384 : zT 155 384 = some (.iadd, 1, 0, []) := by decide +kernel
theorem zr_155_384 {l0 l1 l2 l3 : Option zV} {x y : Int} {st : List zV} {w : zW} {Q : Option zV → zW → Prop}  : zR 155 384 [l0, l1, l2, l3] (.inl y :: .inl x :: st) w Q = zR 155 385 [l0, l1, l2, l3] (.inl (x + y) :: st) w Q := zR_go (zst zT_155_384 rfl)
theorem zT_155_385 : zT 155 385 = some (.iaload, 1, 0, []) := by decide +kernel
theorem zr_155_385 {l0 l1 l2 l3 : Option zV} {j : Int} {h : Nat} {st : List zV} {w : zW} {Q : Option zV → zW → Prop} (hk : (zk w h = zNC ∨ zk w h = zNC + 2) ∧ 0 ≤ zN j ∧ zN j < zl w h) : zR 155 385 [l0, l1, l2, l3] (.inl j :: .inr (some h) :: st) w Q = zR 155 386 [l0, l1, l2, l3] (.inl (za w h (zN j).toNat) :: st) w Q := zR_go (zst zT_155_385 (if_pos hk))
theorem zT_155_386 : zT 155 386 = some (.aload_n 0, 1, 0, []) := by decide +kernel
theorem zr_155_386 {l1 l2 l3 : Option zV} {x : Option Nat} {st : List zV} {w : zW} {Q : Option zV → zW → Prop}  : zR 155 386 [some (.inr x), l1, l2, l3] st w Q = zR 155 387 [some (.inr x), l1, l2, l3] (.inr x :: st) w Q := zR_go (zst zT_155_386 rfl)
theorem zT_155_387 : zT 155 387 = some (.iload_n 3, 1, 0, []) := by decide +kernel
theorem zr_155_387 {l0 l1 l2 : Option zV} {x : Int} {st : List zV} {w : zW} {Q : Option zV → zW → Prop}  : zR 155 387 [l0, l1, l2, some (.inl x)] st w Q = zR 155 388 [l0, l1, l2, some (.inl x)] (.inl x :: st) w Q := zR_go (zst zT_155_387 rfl)
theorem zT_155_388 : zT 155 388 = some (.iconst 2, 1, 0, []) := by decide +kernel
theorem zr_155_388 {l0 l1 l2 l3 : Option zV} {st : List zV} {w : zW} {Q : Option zV → zW → Prop}  : zR 155 388 [l0, l1, l2, l3] st w Q = zR 155 389 [l0, l1, l2, l3] (.inl 2 :: st) w Q := zR_go (zst zT_155_388 rfl)
theorem zT_155_389 : zT 155 389 = some (.iadd, 1, 0, []) := by decide +kernel
theorem zr_155_389 {l0 l1 l2 l3 : Option zV} {x y : Int} {st : List zV} {w : zW} {Q : Option zV → zW → Prop}  : zR 155 389 [l0, l1, l2, l3] (.inl y :: .inl x :: st) w Q = zR 155 390 [l0, l1, l2, l3] (.inl (x + y) :: st) w Q := zR_go (zst zT_155_389 rfl)
theorem zT_155_390 : zT 155 390 = some (.iaload, 1, 0, []) := by decide +kernel
theorem zr_155_390 {l0 l1 l2 l3 : Option zV} {j : Int} {h : Nat} {st : List zV} {w : zW} {Q : Option zV → zW → Prop} (hk : (zk w h = zNC ∨ zk w h = zNC + 2) ∧ 0 ≤ zN j ∧ zN j < zl w h) : zR 155 390 [l0, l1, l2, l3] (.inl j :: .inr (some h) :: st) w Q = zR 155 391 [l0, l1, l2, l3] (.inl (za w h (zN j).toNat) :: st) w Q := zR_go (zst zT_155_390 (if_pos hk))
theorem zT_155_391 : zT 155 391 = some (.invokevirtual 53, 3, 2, [(11, 66)]) := by decide +kernel
theorem zr_155_391 {l0 l1 l2 l3 : Option zV} {a0 a1 : zV} {h : Nat} {st : List zV} {w : zW} {Q : Option zV → zW → Prop} (hs : st.length ≤ 8) (hk : zk w h = 11) : zR 155 391 [l0, l1, l2, l3] (a1 :: a0 :: .inr (some h) :: st) w Q = zR 66 0 [some (.inr (some h)), some a0, some a1] [] w (fun r w2 => zR 155 394 [l0, l1, l2, l3] (r.toList ++ st) w2 Q) := zR_call (zst zT_155_391 (zcall_v [a1, a0] rfl hs hk rfl))
theorem zT_155_394 : zT 155 394 = some (.if_icmp .eq 236, 3, 0, []) := by decide +kernel
theorem zr_155_394 {l0 l1 l2 l3 : Option zV} {x y : Int} {st : List zV} {w : zW} {Q : Option zV → zW → Prop}  : zR 155 394 [l0, l1, l2, l3] (.inl y :: .inl x :: st) w Q = (if zN x = zN y then zR 155 630 [l0, l1, l2, l3] st w Q else zR 155 397 [l0, l1, l2, l3] st w Q) := zR_if (zstB zT_155_394 rfl) (by simp [zcmp])
theorem zT_155_397 : zT 155 397 = some (.iconst 0, 1, 0, []) := by decide +kernel
theorem zr_155_397 {l0 l1 l2 l3 : Option zV} {st : List zV} {w : zW} {Q : Option zV → zW → Prop}  : zR 155 397 [l0, l1, l2, l3] st w Q = zR 155 398 [l0, l1, l2, l3] (.inl 0 :: st) w Q := zR_go (zst zT_155_397 rfl)
theorem zT_155_398 : zT 155 398 = some (.ireturn, 1, 0, []) := by decide +kernel
theorem zr_155_398 {l0 l1 l2 l3 : Option zV} {x : Int} {w : zW} {Q : Option zV → zW → Prop} (hx : zN x = 0 ∨ zN x = 1) : zR 155 398 [l0, l1, l2, l3] [.inl x] w Q = Q (some (.inl x)) w := zR_ret (zst zT_155_398 (if_pos (Or.inr ⟨rfl, hx⟩)))
theorem zT_155_399 : zT 155 399 = some (.aload_n 1, 1, 0, []) := by decide +kernel
theorem zr_155_399 {l0 l2 l3 : Option zV} {x : Option Nat} {st : List zV} {w : zW} {Q : Option zV → zW → Prop}  : zR 155 399 [l0, some (.inr x), l2, l3] st w Q = zR 155 400 [l0, some (.inr x), l2, l3] (.inr x :: st) w Q := zR_go (zst zT_155_399 rfl)
theorem zT_155_400 : zT 155 400 = some (.aload_n 0, 1, 0, []) := by decide +kernel
theorem zr_155_400 {l1 l2 l3 : Option zV} {x : Option Nat} {st : List zV} {w : zW} {Q : Option zV → zW → Prop}  : zR 155 400 [some (.inr x), l1, l2, l3] st w Q = zR 155 401 [some (.inr x), l1, l2, l3] (.inr x :: st) w Q := zR_go (zst zT_155_400 rfl)
theorem zT_155_401 : zT 155 401 = some (.iload_n 3, 1, 0, []) := by decide +kernel
theorem zr_155_401 {l0 l1 l2 : Option zV} {x : Int} {st : List zV} {w : zW} {Q : Option zV → zW → Prop}  : zR 155 401 [l0, l1, l2, some (.inl x)] st w Q = zR 155 402 [l0, l1, l2, some (.inl x)] (.inl x :: st) w Q := zR_go (zst zT_155_401 rfl)
theorem zT_155_402 : zT 155 402 = some (.iconst 1, 1, 0, []) := by decide +kernel
theorem zr_155_402 {l0 l1 l2 l3 : Option zV} {st : List zV} {w : zW} {Q : Option zV → zW → Prop}  : zR 155 402 [l0, l1, l2, l3] st w Q = zR 155 403 [l0, l1, l2, l3] (.inl 1 :: st) w Q := zR_go (zst zT_155_402 rfl)
theorem zT_155_403 : zT 155 403 = some (.iadd, 1, 0, []) := by decide +kernel
theorem zr_155_403 {l0 l1 l2 l3 : Option zV} {x y : Int} {st : List zV} {w : zW} {Q : Option zV → zW → Prop}  : zR 155 403 [l0, l1, l2, l3] (.inl y :: .inl x :: st) w Q = zR 155 404 [l0, l1, l2, l3] (.inl (x + y) :: st) w Q := zR_go (zst zT_155_403 rfl)
theorem zT_155_404 : zT 155 404 = some (.iaload, 1, 0, []) := by decide +kernel
theorem zr_155_404 {l0 l1 l2 l3 : Option zV} {j : Int} {h : Nat} {st : List zV} {w : zW} {Q : Option zV → zW → Prop} (hk : (zk w h = zNC ∨ zk w h = zNC + 2) ∧ 0 ≤ zN j ∧ zN j < zl w h) : zR 155 404 [l0, l1, l2, l3] (.inl j :: .inr (some h) :: st) w Q = zR 155 405 [l0, l1, l2, l3] (.inl (za w h (zN j).toNat) :: st) w Q := zR_go (zst zT_155_404 (if_pos hk))
theorem zT_155_405 : zT 155 405 = some (.aload_n 0, 1, 0, []) := by decide +kernel
theorem zr_155_405 {l1 l2 l3 : Option zV} {x : Option Nat} {st : List zV} {w : zW} {Q : Option zV → zW → Prop}  : zR 155 405 [some (.inr x), l1, l2, l3] st w Q = zR 155 406 [some (.inr x), l1, l2, l3] (.inr x :: st) w Q := zR_go (zst zT_155_405 rfl)
theorem zT_155_406 : zT 155 406 = some (.iload_n 3, 1, 0, []) := by decide +kernel
theorem zr_155_406 {l0 l1 l2 : Option zV} {x : Int} {st : List zV} {w : zW} {Q : Option zV → zW → Prop}  : zR 155 406 [l0, l1, l2, some (.inl x)] st w Q = zR 155 407 [l0, l1, l2, some (.inl x)] (.inl x :: st) w Q := zR_go (zst zT_155_406 rfl)
theorem zT_155_407 : zT 155 407 = some (.iconst 2, 1, 0, []) := by decide +kernel
theorem zr_155_407 {l0 l1 l2 l3 : Option zV} {st : List zV} {w : zW} {Q : Option zV → zW → Prop}  : zR 155 407 [l0, l1, l2, l3] st w Q = zR 155 408 [l0, l1, l2, l3] (.inl 2 :: st) w Q := zR_go (zst zT_155_407 rfl)
theorem zT_155_408 : zT 155 408 = some (.iadd, 1, 0, []) := by decide +kernel
theorem zr_155_408 {l0 l1 l2 l3 : Option zV} {x y : Int} {st : List zV} {w : zW} {Q : Option zV → zW → Prop}  : zR 155 408 [l0, l1, l2, l3] (.inl y :: .inl x :: st) w Q = zR 155 409 [l0, l1, l2, l3] (.inl (x + y) :: st) w Q := zR_go (zst zT_155_408 rfl)
theorem zT_155_409 : zT 155 409 = some (.iaload, 1, 0, []) := by decide +kernel
theorem zr_155_409 {l0 l1 l2 l3 : Option zV} {j : Int} {h : Nat} {st : List zV} {w : zW} {Q : Option zV → zW → Prop} (hk : (zk w h = zNC ∨ zk w h = zNC + 2) ∧ 0 ≤ zN j ∧ zN j < zl w h) : zR 155 409 [l0, l1, l2, l3] (.inl j :: .inr (some h) :: st) w Q = zR 155 410 [l0, l1, l2, l3] (.inl (za w h (zN j).toNat) :: st) w Q := zR_go (zst zT_155_409 (if_pos hk))
theorem zT_155_410 : zT 155 410 = some (.invokevirtual 54, 3, 2, [(0, 10)]) := by decide +kernel
theorem zr_155_410 {l0 l1 l2 l3 : Option zV} {a0 a1 : zV} {h : Nat} {st : List zV} {w : zW} {Q : Option zV → zW → Prop} (hs : st.length ≤ 8) (hk : zk w h = 0) : zR 155 410 [l0, l1, l2, l3] (a1 :: a0 :: .inr (some h) :: st) w Q = zR 10 0 [some (.inr (some h)), some a0, some a1, none] [] w (fun r w2 => zR 155 413 [l0, l1, l2, l3] (r.toList ++ st) w2 Q) := zR_call (zst zT_155_410 (zcall_v [a1, a0] rfl hs hk rfl))
theorem zT_155_413 : zT 155 413 = some (.aload_n 2, 1, 0, []) := by decide +kernel
theorem zr_155_413 {l0 l1 l3 : Option zV} {x : Option Nat} {st : List zV} {w : zW} {Q : Option zV → zW → Prop}  : zR 155 413 [l0, l1, some (.inr x), l3] st w Q = zR 155 414 [l0, l1, some (.inr x), l3] (.inr x :: st) w Q := zR_go (zst zT_155_413 rfl)
theorem zT_155_414 : zT 155 414 = some (.aload_n 0, 1, 0, []) := by decide +kernel
theorem zr_155_414 {l1 l2 l3 : Option zV} {x : Option Nat} {st : List zV} {w : zW} {Q : Option zV → zW → Prop}  : zR 155 414 [some (.inr x), l1, l2, l3] st w Q = zR 155 415 [some (.inr x), l1, l2, l3] (.inr x :: st) w Q := zR_go (zst zT_155_414 rfl)
theorem zT_155_415 : zT 155 415 = some (.iload_n 3, 1, 0, []) := by decide +kernel
theorem zr_155_415 {l0 l1 l2 : Option zV} {x : Int} {st : List zV} {w : zW} {Q : Option zV → zW → Prop}  : zR 155 415 [l0, l1, l2, some (.inl x)] st w Q = zR 155 416 [l0, l1, l2, some (.inl x)] (.inl x :: st) w Q := zR_go (zst zT_155_415 rfl)
theorem zT_155_416 : zT 155 416 = some (.iconst 1, 1, 0, []) := by decide +kernel
theorem zr_155_416 {l0 l1 l2 l3 : Option zV} {st : List zV} {w : zW} {Q : Option zV → zW → Prop}  : zR 155 416 [l0, l1, l2, l3] st w Q = zR 155 417 [l0, l1, l2, l3] (.inl 1 :: st) w Q := zR_go (zst zT_155_416 rfl)
theorem zT_155_417 : zT 155 417 = some (.iadd, 1, 0, []) := by decide +kernel
theorem zr_155_417 {l0 l1 l2 l3 : Option zV} {x y : Int} {st : List zV} {w : zW} {Q : Option zV → zW → Prop}  : zR 155 417 [l0, l1, l2, l3] (.inl y :: .inl x :: st) w Q = zR 155 418 [l0, l1, l2, l3] (.inl (x + y) :: st) w Q := zR_go (zst zT_155_417 rfl)
theorem zT_155_418 : zT 155 418 = some (.iaload, 1, 0, []) := by decide +kernel
theorem zr_155_418 {l0 l1 l2 l3 : Option zV} {j : Int} {h : Nat} {st : List zV} {w : zW} {Q : Option zV → zW → Prop} (hk : (zk w h = zNC ∨ zk w h = zNC + 2) ∧ 0 ≤ zN j ∧ zN j < zl w h) : zR 155 418 [l0, l1, l2, l3] (.inl j :: .inr (some h) :: st) w Q = zR 155 419 [l0, l1, l2, l3] (.inl (za w h (zN j).toNat) :: st) w Q := zR_go (zst zT_155_418 (if_pos hk))
theorem zT_155_419 : zT 155 419 = some (.aload_n 0, 1, 0, []) := by decide +kernel
theorem zr_155_419 {l1 l2 l3 : Option zV} {x : Option Nat} {st : List zV} {w : zW} {Q : Option zV → zW → Prop}  : zR 155 419 [some (.inr x), l1, l2, l3] st w Q = zR 155 420 [some (.inr x), l1, l2, l3] (.inr x :: st) w Q := zR_go (zst zT_155_419 rfl)
theorem zT_155_420 : zT 155 420 = some (.iload_n 3, 1, 0, []) := by decide +kernel
theorem zr_155_420 {l0 l1 l2 : Option zV} {x : Int} {st : List zV} {w : zW} {Q : Option zV → zW → Prop}  : zR 155 420 [l0, l1, l2, some (.inl x)] st w Q = zR 155 421 [l0, l1, l2, some (.inl x)] (.inl x :: st) w Q := zR_go (zst zT_155_420 rfl)
theorem zT_155_421 : zT 155 421 = some (.iconst 2, 1, 0, []) := by decide +kernel
theorem zr_155_421 {l0 l1 l2 l3 : Option zV} {st : List zV} {w : zW} {Q : Option zV → zW → Prop}  : zR 155 421 [l0, l1, l2, l3] st w Q = zR 155 422 [l0, l1, l2, l3] (.inl 2 :: st) w Q := zR_go (zst zT_155_421 rfl)
theorem zT_155_422 : zT 155 422 = some (.iadd, 1, 0, []) := by decide +kernel
theorem zr_155_422 {l0 l1 l2 l3 : Option zV} {x y : Int} {st : List zV} {w : zW} {Q : Option zV → zW → Prop}  : zR 155 422 [l0, l1, l2, l3] (.inl y :: .inl x :: st) w Q = zR 155 423 [l0, l1, l2, l3] (.inl (x + y) :: st) w Q := zR_go (zst zT_155_422 rfl)
theorem zT_155_423 : zT 155 423 = some (.iaload, 1, 0, []) := by decide +kernel
theorem zr_155_423 {l0 l1 l2 l3 : Option zV} {j : Int} {h : Nat} {st : List zV} {w : zW} {Q : Option zV → zW → Prop} (hk : (zk w h = zNC ∨ zk w h = zNC + 2) ∧ 0 ≤ zN j ∧ zN j < zl w h) : zR 155 423 [l0, l1, l2, l3] (.inl j :: .inr (some h) :: st) w Q = zR 155 424 [l0, l1, l2, l3] (.inl (za w h (zN j).toNat) :: st) w Q := zR_go (zst zT_155_423 (if_pos hk))
theorem zT_155_424 : zT 155 424 = some (.invokevirtual 57, 3, 2, [(11, 67)]) := by decide +kernel
theorem zr_155_424 {l0 l1 l2 l3 : Option zV} {a0 a1 : zV} {h : Nat} {st : List zV} {w : zW} {Q : Option zV → zW → Prop} (hs : st.length ≤ 8) (hk : zk w h = 11) : zR 155 424 [l0, l1, l2, l3] (a1 :: a0 :: .inr (some h) :: st) w Q = zR 67 0 [some (.inr (some h)), some a0, some a1] [] w (fun r w2 => zR 155 427 [l0, l1, l2, l3] (r.toList ++ st) w2 Q) := zR_call (zst zT_155_424 (zcall_v [a1, a0] rfl hs hk rfl))
theorem zT_155_427 : zT 155 427 = some (.if_icmp .eq 203, 3, 0, []) := by decide +kernel
theorem zr_155_427 {l0 l1 l2 l3 : Option zV} {x y : Int} {st : List zV} {w : zW} {Q : Option zV → zW → Prop}  : zR 155 427 [l0, l1, l2, l3] (.inl y :: .inl x :: st) w Q = (if zN x = zN y then zR 155 630 [l0, l1, l2, l3] st w Q else zR 155 430 [l0, l1, l2, l3] st w Q) := zR_if (zstB zT_155_427 rfl) (by simp [zcmp])
theorem zT_155_430 : zT 155 430 = some (.iconst 0, 1, 0, []) := by decide +kernel
theorem zr_155_430 {l0 l1 l2 l3 : Option zV} {st : List zV} {w : zW} {Q : Option zV → zW → Prop}  : zR 155 430 [l0, l1, l2, l3] st w Q = zR 155 431 [l0, l1, l2, l3] (.inl 0 :: st) w Q := zR_go (zst zT_155_430 rfl)
theorem zT_155_431 : zT 155 431 = some (.ireturn, 1, 0, []) := by decide +kernel
theorem zr_155_431 {l0 l1 l2 l3 : Option zV} {x : Int} {w : zW} {Q : Option zV → zW → Prop} (hx : zN x = 0 ∨ zN x = 1) : zR 155 431 [l0, l1, l2, l3] [.inl x] w Q = Q (some (.inl x)) w := zR_ret (zst zT_155_431 (if_pos (Or.inr ⟨rfl, hx⟩)))
theorem zT_155_432 : zT 155 432 = some (.aload_n 1, 1, 0, []) := by decide +kernel
theorem zr_155_432 {l0 l2 l3 : Option zV} {x : Option Nat} {st : List zV} {w : zW} {Q : Option zV → zW → Prop}  : zR 155 432 [l0, some (.inr x), l2, l3] st w Q = zR 155 433 [l0, some (.inr x), l2, l3] (.inr x :: st) w Q := zR_go (zst zT_155_432 rfl)
theorem zT_155_433 : zT 155 433 = some (.aload_n 0, 1, 0, []) := by decide +kernel
theorem zr_155_433 {l1 l2 l3 : Option zV} {x : Option Nat} {st : List zV} {w : zW} {Q : Option zV → zW → Prop}  : zR 155 433 [some (.inr x), l1, l2, l3] st w Q = zR 155 434 [some (.inr x), l1, l2, l3] (.inr x :: st) w Q := zR_go (zst zT_155_433 rfl)
theorem zT_155_434 : zT 155 434 = some (.iload_n 3, 1, 0, []) := by decide +kernel
theorem zr_155_434 {l0 l1 l2 : Option zV} {x : Int} {st : List zV} {w : zW} {Q : Option zV → zW → Prop}  : zR 155 434 [l0, l1, l2, some (.inl x)] st w Q = zR 155 435 [l0, l1, l2, some (.inl x)] (.inl x :: st) w Q := zR_go (zst zT_155_434 rfl)
theorem zT_155_435 : zT 155 435 = some (.iconst 1, 1, 0, []) := by decide +kernel
theorem zr_155_435 {l0 l1 l2 l3 : Option zV} {st : List zV} {w : zW} {Q : Option zV → zW → Prop}  : zR 155 435 [l0, l1, l2, l3] st w Q = zR 155 436 [l0, l1, l2, l3] (.inl 1 :: st) w Q := zR_go (zst zT_155_435 rfl)
theorem zT_155_436 : zT 155 436 = some (.iadd, 1, 0, []) := by decide +kernel
theorem zr_155_436 {l0 l1 l2 l3 : Option zV} {x y : Int} {st : List zV} {w : zW} {Q : Option zV → zW → Prop}  : zR 155 436 [l0, l1, l2, l3] (.inl y :: .inl x :: st) w Q = zR 155 437 [l0, l1, l2, l3] (.inl (x + y) :: st) w Q := zR_go (zst zT_155_436 rfl)
theorem zT_155_437 : zT 155 437 = some (.iaload, 1, 0, []) := by decide +kernel
theorem zr_155_437 {l0 l1 l2 l3 : Option zV} {j : Int} {h : Nat} {st : List zV} {w : zW} {Q : Option zV → zW → Prop} (hk : (zk w h = zNC ∨ zk w h = zNC + 2) ∧ 0 ≤ zN j ∧ zN j < zl w h) : zR 155 437 [l0, l1, l2, l3] (.inl j :: .inr (some h) :: st) w Q = zR 155 438 [l0, l1, l2, l3] (.inl (za w h (zN j).toNat) :: st) w Q := zR_go (zst zT_155_437 (if_pos hk))
theorem zT_155_438 : zT 155 438 = some (.aload_n 0, 1, 0, []) := by decide +kernel
theorem zr_155_438 {l1 l2 l3 : Option zV} {x : Option Nat} {st : List zV} {w : zW} {Q : Option zV → zW → Prop}  : zR 155 438 [some (.inr x), l1, l2, l3] st w Q = zR 155 439 [some (.inr x), l1, l2, l3] (.inr x :: st) w Q := zR_go (zst zT_155_438 rfl)
theorem zT_155_439 : zT 155 439 = some (.iload_n 3, 1, 0, []) := by decide +kernel
theorem zr_155_439 {l0 l1 l2 : Option zV} {x : Int} {st : List zV} {w : zW} {Q : Option zV → zW → Prop}  : zR 155 439 [l0, l1, l2, some (.inl x)] st w Q = zR 155 440 [l0, l1, l2, some (.inl x)] (.inl x :: st) w Q := zR_go (zst zT_155_439 rfl)
theorem zT_155_440 : zT 155 440 = some (.iconst 2, 1, 0, []) := by decide +kernel
theorem zr_155_440 {l0 l1 l2 l3 : Option zV} {st : List zV} {w : zW} {Q : Option zV → zW → Prop}  : zR 155 440 [l0, l1, l2, l3] st w Q = zR 155 441 [l0, l1, l2, l3] (.inl 2 :: st) w Q := zR_go (zst zT_155_440 rfl)
theorem zT_155_441 : zT 155 441 = some (.iadd, 1, 0, []) := by decide +kernel
theorem zr_155_441 {l0 l1 l2 l3 : Option zV} {x y : Int} {st : List zV} {w : zW} {Q : Option zV → zW → Prop}  : zR 155 441 [l0, l1, l2, l3] (.inl y :: .inl x :: st) w Q = zR 155 442 [l0, l1, l2, l3] (.inl (x + y) :: st) w Q := zR_go (zst zT_155_441 rfl)
theorem zT_155_442 : zT 155 442 = some (.iaload, 1, 0, []) := by decide +kernel
theorem zr_155_442 {l0 l1 l2 l3 : Option zV} {j : Int} {h : Nat} {st : List zV} {w : zW} {Q : Option zV → zW → Prop} (hk : (zk w h = zNC ∨ zk w h = zNC + 2) ∧ 0 ≤ zN j ∧ zN j < zl w h) : zR 155 442 [l0, l1, l2, l3] (.inl j :: .inr (some h) :: st) w Q = zR 155 443 [l0, l1, l2, l3] (.inl (za w h (zN j).toNat) :: st) w Q := zR_go (zst zT_155_442 (if_pos hk))
theorem zT_155_443 : zT 155 443 = some (.invokevirtual 58, 3, 2, [(0, 11)]) := by decide +kernel
theorem zr_155_443 {l0 l1 l2 l3 : Option zV} {a0 a1 : zV} {h : Nat} {st : List zV} {w : zW} {Q : Option zV → zW → Prop} (hs : st.length ≤ 8) (hk : zk w h = 0) : zR 155 443 [l0, l1, l2, l3] (a1 :: a0 :: .inr (some h) :: st) w Q = zR 11 0 [some (.inr (some h)), some a0, some a1, none] [] w (fun r w2 => zR 155 446 [l0, l1, l2, l3] (r.toList ++ st) w2 Q) := zR_call (zst zT_155_443 (zcall_v [a1, a0] rfl hs hk rfl))
theorem zT_155_446 : zT 155 446 = some (.aload_n 2, 1, 0, []) := by decide +kernel
theorem zr_155_446 {l0 l1 l3 : Option zV} {x : Option Nat} {st : List zV} {w : zW} {Q : Option zV → zW → Prop}  : zR 155 446 [l0, l1, some (.inr x), l3] st w Q = zR 155 447 [l0, l1, some (.inr x), l3] (.inr x :: st) w Q := zR_go (zst zT_155_446 rfl)
theorem zT_155_447 : zT 155 447 = some (.aload_n 0, 1, 0, []) := by decide +kernel
theorem zr_155_447 {l1 l2 l3 : Option zV} {x : Option Nat} {st : List zV} {w : zW} {Q : Option zV → zW → Prop}  : zR 155 447 [some (.inr x), l1, l2, l3] st w Q = zR 155 448 [some (.inr x), l1, l2, l3] (.inr x :: st) w Q := zR_go (zst zT_155_447 rfl)
theorem zT_155_448 : zT 155 448 = some (.iload_n 3, 1, 0, []) := by decide +kernel
theorem zr_155_448 {l0 l1 l2 : Option zV} {x : Int} {st : List zV} {w : zW} {Q : Option zV → zW → Prop}  : zR 155 448 [l0, l1, l2, some (.inl x)] st w Q = zR 155 449 [l0, l1, l2, some (.inl x)] (.inl x :: st) w Q := zR_go (zst zT_155_448 rfl)
theorem zT_155_449 : zT 155 449 = some (.iconst 1, 1, 0, []) := by decide +kernel
theorem zr_155_449 {l0 l1 l2 l3 : Option zV} {st : List zV} {w : zW} {Q : Option zV → zW → Prop}  : zR 155 449 [l0, l1, l2, l3] st w Q = zR 155 450 [l0, l1, l2, l3] (.inl 1 :: st) w Q := zR_go (zst zT_155_449 rfl)
theorem zT_155_450 : zT 155 450 = some (.iadd, 1, 0, []) := by decide +kernel
theorem zr_155_450 {l0 l1 l2 l3 : Option zV} {x y : Int} {st : List zV} {w : zW} {Q : Option zV → zW → Prop}  : zR 155 450 [l0, l1, l2, l3] (.inl y :: .inl x :: st) w Q = zR 155 451 [l0, l1, l2, l3] (.inl (x + y) :: st) w Q := zR_go (zst zT_155_450 rfl)
theorem zT_155_451 : zT 155 451 = some (.iaload, 1, 0, []) := by decide +kernel
theorem zr_155_451 {l0 l1 l2 l3 : Option zV} {j : Int} {h : Nat} {st : List zV} {w : zW} {Q : Option zV → zW → Prop} (hk : (zk w h = zNC ∨ zk w h = zNC + 2) ∧ 0 ≤ zN j ∧ zN j < zl w h) : zR 155 451 [l0, l1, l2, l3] (.inl j :: .inr (some h) :: st) w Q = zR 155 452 [l0, l1, l2, l3] (.inl (za w h (zN j).toNat) :: st) w Q := zR_go (zst zT_155_451 (if_pos hk))
theorem zT_155_452 : zT 155 452 = some (.aload_n 0, 1, 0, []) := by decide +kernel
theorem zr_155_452 {l1 l2 l3 : Option zV} {x : Option Nat} {st : List zV} {w : zW} {Q : Option zV → zW → Prop}  : zR 155 452 [some (.inr x), l1, l2, l3] st w Q = zR 155 453 [some (.inr x), l1, l2, l3] (.inr x :: st) w Q := zR_go (zst zT_155_452 rfl)
theorem zT_155_453 : zT 155 453 = some (.iload_n 3, 1, 0, []) := by decide +kernel
theorem zr_155_453 {l0 l1 l2 : Option zV} {x : Int} {st : List zV} {w : zW} {Q : Option zV → zW → Prop}  : zR 155 453 [l0, l1, l2, some (.inl x)] st w Q = zR 155 454 [l0, l1, l2, some (.inl x)] (.inl x :: st) w Q := zR_go (zst zT_155_453 rfl)
theorem zT_155_454 : zT 155 454 = some (.iconst 2, 1, 0, []) := by decide +kernel
theorem zr_155_454 {l0 l1 l2 l3 : Option zV} {st : List zV} {w : zW} {Q : Option zV → zW → Prop}  : zR 155 454 [l0, l1, l2, l3] st w Q = zR 155 455 [l0, l1, l2, l3] (.inl 2 :: st) w Q := zR_go (zst zT_155_454 rfl)
theorem zT_155_455 : zT 155 455 = some (.iadd, 1, 0, []) := by decide +kernel
theorem zr_155_455 {l0 l1 l2 l3 : Option zV} {x y : Int} {st : List zV} {w : zW} {Q : Option zV → zW → Prop}  : zR 155 455 [l0, l1, l2, l3] (.inl y :: .inl x :: st) w Q = zR 155 456 [l0, l1, l2, l3] (.inl (x + y) :: st) w Q := zR_go (zst zT_155_455 rfl)
theorem zT_155_456 : zT 155 456 = some (.iaload, 1, 0, []) := by decide +kernel
theorem zr_155_456 {l0 l1 l2 l3 : Option zV} {j : Int} {h : Nat} {st : List zV} {w : zW} {Q : Option zV → zW → Prop} (hk : (zk w h = zNC ∨ zk w h = zNC + 2) ∧ 0 ≤ zN j ∧ zN j < zl w h) : zR 155 456 [l0, l1, l2, l3] (.inl j :: .inr (some h) :: st) w Q = zR 155 457 [l0, l1, l2, l3] (.inl (za w h (zN j).toNat) :: st) w Q := zR_go (zst zT_155_456 (if_pos hk))
theorem zT_155_457 : zT 155 457 = some (.invokevirtual 61, 3, 2, [(11, 68)]) := by decide +kernel
theorem zr_155_457 {l0 l1 l2 l3 : Option zV} {a0 a1 : zV} {h : Nat} {st : List zV} {w : zW} {Q : Option zV → zW → Prop} (hs : st.length ≤ 8) (hk : zk w h = 11) : zR 155 457 [l0, l1, l2, l3] (a1 :: a0 :: .inr (some h) :: st) w Q = zR 68 0 [some (.inr (some h)), some a0, some a1] [] w (fun r w2 => zR 155 460 [l0, l1, l2, l3] (r.toList ++ st) w2 Q) := zR_call (zst zT_155_457 (zcall_v [a1, a0] rfl hs hk rfl))
theorem zT_155_460 : zT 155 460 = some (.if_icmp .eq 170, 3, 0, []) := by decide +kernel
theorem zr_155_460 {l0 l1 l2 l3 : Option zV} {x y : Int} {st : List zV} {w : zW} {Q : Option zV → zW → Prop}  : zR 155 460 [l0, l1, l2, l3] (.inl y :: .inl x :: st) w Q = (if zN x = zN y then zR 155 630 [l0, l1, l2, l3] st w Q else zR 155 463 [l0, l1, l2, l3] st w Q) := zR_if (zstB zT_155_460 rfl) (by simp [zcmp])
theorem zT_155_463 : zT 155 463 = some (.iconst 0, 1, 0, []) := by decide +kernel
theorem zr_155_463 {l0 l1 l2 l3 : Option zV} {st : List zV} {w : zW} {Q : Option zV → zW → Prop}  : zR 155 463 [l0, l1, l2, l3] st w Q = zR 155 464 [l0, l1, l2, l3] (.inl 0 :: st) w Q := zR_go (zst zT_155_463 rfl)
theorem zT_155_464 : zT 155 464 = some (.ireturn, 1, 0, []) := by decide +kernel
theorem zr_155_464 {l0 l1 l2 l3 : Option zV} {x : Int} {w : zW} {Q : Option zV → zW → Prop} (hx : zN x = 0 ∨ zN x = 1) : zR 155 464 [l0, l1, l2, l3] [.inl x] w Q = Q (some (.inl x)) w := zR_ret (zst zT_155_464 (if_pos (Or.inr ⟨rfl, hx⟩)))
theorem zT_155_465 : zT 155 465 = some (.aload_n 1, 1, 0, []) := by decide +kernel
theorem zr_155_465 {l0 l2 l3 : Option zV} {x : Option Nat} {st : List zV} {w : zW} {Q : Option zV → zW → Prop}  : zR 155 465 [l0, some (.inr x), l2, l3] st w Q = zR 155 466 [l0, some (.inr x), l2, l3] (.inr x :: st) w Q := zR_go (zst zT_155_465 rfl)
theorem zT_155_466 : zT 155 466 = some (.aload_n 0, 1, 0, []) := by decide +kernel
theorem zr_155_466 {l1 l2 l3 : Option zV} {x : Option Nat} {st : List zV} {w : zW} {Q : Option zV → zW → Prop}  : zR 155 466 [some (.inr x), l1, l2, l3] st w Q = zR 155 467 [some (.inr x), l1, l2, l3] (.inr x :: st) w Q := zR_go (zst zT_155_466 rfl)
theorem zT_155_467 : zT 155 467 = some (.iload_n 3, 1, 0, []) := by decide +kernel
theorem zr_155_467 {l0 l1 l2 : Option zV} {x : Int} {st : List zV} {w : zW} {Q : Option zV → zW → Prop}  : zR 155 467 [l0, l1, l2, some (.inl x)] st w Q = zR 155 468 [l0, l1, l2, some (.inl x)] (.inl x :: st) w Q := zR_go (zst zT_155_467 rfl)
theorem zT_155_468 : zT 155 468 = some (.iconst 1, 1, 0, []) := by decide +kernel
theorem zr_155_468 {l0 l1 l2 l3 : Option zV} {st : List zV} {w : zW} {Q : Option zV → zW → Prop}  : zR 155 468 [l0, l1, l2, l3] st w Q = zR 155 469 [l0, l1, l2, l3] (.inl 1 :: st) w Q := zR_go (zst zT_155_468 rfl)
theorem zT_155_469 : zT 155 469 = some (.iadd, 1, 0, []) := by decide +kernel
theorem zr_155_469 {l0 l1 l2 l3 : Option zV} {x y : Int} {st : List zV} {w : zW} {Q : Option zV → zW → Prop}  : zR 155 469 [l0, l1, l2, l3] (.inl y :: .inl x :: st) w Q = zR 155 470 [l0, l1, l2, l3] (.inl (x + y) :: st) w Q := zR_go (zst zT_155_469 rfl)
theorem zT_155_470 : zT 155 470 = some (.iaload, 1, 0, []) := by decide +kernel
theorem zr_155_470 {l0 l1 l2 l3 : Option zV} {j : Int} {h : Nat} {st : List zV} {w : zW} {Q : Option zV → zW → Prop} (hk : (zk w h = zNC ∨ zk w h = zNC + 2) ∧ 0 ≤ zN j ∧ zN j < zl w h) : zR 155 470 [l0, l1, l2, l3] (.inl j :: .inr (some h) :: st) w Q = zR 155 471 [l0, l1, l2, l3] (.inl (za w h (zN j).toNat) :: st) w Q := zR_go (zst zT_155_470 (if_pos hk))
theorem zT_155_471 : zT 155 471 = some (.aload_n 0, 1, 0, []) := by decide +kernel
theorem zr_155_471 {l1 l2 l3 : Option zV} {x : Option Nat} {st : List zV} {w : zW} {Q : Option zV → zW → Prop}  : zR 155 471 [some (.inr x), l1, l2, l3] st w Q = zR 155 472 [some (.inr x), l1, l2, l3] (.inr x :: st) w Q := zR_go (zst zT_155_471 rfl)
theorem zT_155_472 : zT 155 472 = some (.iload_n 3, 1, 0, []) := by decide +kernel
theorem zr_155_472 {l0 l1 l2 : Option zV} {x : Int} {st : List zV} {w : zW} {Q : Option zV → zW → Prop}  : zR 155 472 [l0, l1, l2, some (.inl x)] st w Q = zR 155 473 [l0, l1, l2, some (.inl x)] (.inl x :: st) w Q := zR_go (zst zT_155_472 rfl)
theorem zT_155_473 : zT 155 473 = some (.iconst 2, 1, 0, []) := by decide +kernel
theorem zr_155_473 {l0 l1 l2 l3 : Option zV} {st : List zV} {w : zW} {Q : Option zV → zW → Prop}  : zR 155 473 [l0, l1, l2, l3] st w Q = zR 155 474 [l0, l1, l2, l3] (.inl 2 :: st) w Q := zR_go (zst zT_155_473 rfl)
theorem zT_155_474 : zT 155 474 = some (.iadd, 1, 0, []) := by decide +kernel
theorem zr_155_474 {l0 l1 l2 l3 : Option zV} {x y : Int} {st : List zV} {w : zW} {Q : Option zV → zW → Prop}  : zR 155 474 [l0, l1, l2, l3] (.inl y :: .inl x :: st) w Q = zR 155 475 [l0, l1, l2, l3] (.inl (x + y) :: st) w Q := zR_go (zst zT_155_474 rfl)
theorem zT_155_475 : zT 155 475 = some (.iaload, 1, 0, []) := by decide +kernel
theorem zr_155_475 {l0 l1 l2 l3 : Option zV} {j : Int} {h : Nat} {st : List zV} {w : zW} {Q : Option zV → zW → Prop} (hk : (zk w h = zNC ∨ zk w h = zNC + 2) ∧ 0 ≤ zN j ∧ zN j < zl w h) : zR 155 475 [l0, l1, l2, l3] (.inl j :: .inr (some h) :: st) w Q = zR 155 476 [l0, l1, l2, l3] (.inl (za w h (zN j).toNat) :: st) w Q := zR_go (zst zT_155_475 (if_pos hk))
theorem zT_155_476 : zT 155 476 = some (.invokevirtual 62, 3, 2, [(0, 12)]) := by decide +kernel
theorem zr_155_476 {l0 l1 l2 l3 : Option zV} {a0 a1 : zV} {h : Nat} {st : List zV} {w : zW} {Q : Option zV → zW → Prop} (hs : st.length ≤ 8) (hk : zk w h = 0) : zR 155 476 [l0, l1, l2, l3] (a1 :: a0 :: .inr (some h) :: st) w Q = zR 12 0 [some (.inr (some h)), some a0, some a1, none] [] w (fun r w2 => zR 155 479 [l0, l1, l2, l3] (r.toList ++ st) w2 Q) := zR_call (zst zT_155_476 (zcall_v [a1, a0] rfl hs hk rfl))
theorem zT_155_479 : zT 155 479 = some (.aload_n 2, 1, 0, []) := by decide +kernel
theorem zr_155_479 {l0 l1 l3 : Option zV} {x : Option Nat} {st : List zV} {w : zW} {Q : Option zV → zW → Prop}  : zR 155 479 [l0, l1, some (.inr x), l3] st w Q = zR 155 480 [l0, l1, some (.inr x), l3] (.inr x :: st) w Q := zR_go (zst zT_155_479 rfl)
theorem zT_155_480 : zT 155 480 = some (.aload_n 0, 1, 0, []) := by decide +kernel
theorem zr_155_480 {l1 l2 l3 : Option zV} {x : Option Nat} {st : List zV} {w : zW} {Q : Option zV → zW → Prop}  : zR 155 480 [some (.inr x), l1, l2, l3] st w Q = zR 155 481 [some (.inr x), l1, l2, l3] (.inr x :: st) w Q := zR_go (zst zT_155_480 rfl)
theorem zT_155_481 : zT 155 481 = some (.iload_n 3, 1, 0, []) := by decide +kernel
theorem zr_155_481 {l0 l1 l2 : Option zV} {x : Int} {st : List zV} {w : zW} {Q : Option zV → zW → Prop}  : zR 155 481 [l0, l1, l2, some (.inl x)] st w Q = zR 155 482 [l0, l1, l2, some (.inl x)] (.inl x :: st) w Q := zR_go (zst zT_155_481 rfl)
theorem zT_155_482 : zT 155 482 = some (.iconst 1, 1, 0, []) := by decide +kernel
theorem zr_155_482 {l0 l1 l2 l3 : Option zV} {st : List zV} {w : zW} {Q : Option zV → zW → Prop}  : zR 155 482 [l0, l1, l2, l3] st w Q = zR 155 483 [l0, l1, l2, l3] (.inl 1 :: st) w Q := zR_go (zst zT_155_482 rfl)
theorem zT_155_483 : zT 155 483 = some (.iadd, 1, 0, []) := by decide +kernel
theorem zr_155_483 {l0 l1 l2 l3 : Option zV} {x y : Int} {st : List zV} {w : zW} {Q : Option zV → zW → Prop}  : zR 155 483 [l0, l1, l2, l3] (.inl y :: .inl x :: st) w Q = zR 155 484 [l0, l1, l2, l3] (.inl (x + y) :: st) w Q := zR_go (zst zT_155_483 rfl)
theorem zT_155_484 : zT 155 484 = some (.iaload, 1, 0, []) := by decide +kernel
theorem zr_155_484 {l0 l1 l2 l3 : Option zV} {j : Int} {h : Nat} {st : List zV} {w : zW} {Q : Option zV → zW → Prop} (hk : (zk w h = zNC ∨ zk w h = zNC + 2) ∧ 0 ≤ zN j ∧ zN j < zl w h) : zR 155 484 [l0, l1, l2, l3] (.inl j :: .inr (some h) :: st) w Q = zR 155 485 [l0, l1, l2, l3] (.inl (za w h (zN j).toNat) :: st) w Q := zR_go (zst zT_155_484 (if_pos hk))
theorem zT_155_485 : zT 155 485 = some (.aload_n 0, 1, 0, []) := by decide +kernel
theorem zr_155_485 {l1 l2 l3 : Option zV} {x : Option Nat} {st : List zV} {w : zW} {Q : Option zV → zW → Prop}  : zR 155 485 [some (.inr x), l1, l2, l3] st w Q = zR 155 486 [some (.inr x), l1, l2, l3] (.inr x :: st) w Q := zR_go (zst zT_155_485 rfl)
theorem zT_155_486 : zT 155 486 = some (.iload_n 3, 1, 0, []) := by decide +kernel
theorem zr_155_486 {l0 l1 l2 : Option zV} {x : Int} {st : List zV} {w : zW} {Q : Option zV → zW → Prop}  : zR 155 486 [l0, l1, l2, some (.inl x)] st w Q = zR 155 487 [l0, l1, l2, some (.inl x)] (.inl x :: st) w Q := zR_go (zst zT_155_486 rfl)
theorem zT_155_487 : zT 155 487 = some (.iconst 2, 1, 0, []) := by decide +kernel
theorem zr_155_487 {l0 l1 l2 l3 : Option zV} {st : List zV} {w : zW} {Q : Option zV → zW → Prop}  : zR 155 487 [l0, l1, l2, l3] st w Q = zR 155 488 [l0, l1, l2, l3] (.inl 2 :: st) w Q := zR_go (zst zT_155_487 rfl)
theorem zT_155_488 : zT 155 488 = some (.iadd, 1, 0, []) := by decide +kernel
theorem zr_155_488 {l0 l1 l2 l3 : Option zV} {x y : Int} {st : List zV} {w : zW} {Q : Option zV → zW → Prop}  : zR 155 488 [l0, l1, l2, l3] (.inl y :: .inl x :: st) w Q = zR 155 489 [l0, l1, l2, l3] (.inl (x + y) :: st) w Q := zR_go (zst zT_155_488 rfl)
theorem zT_155_489 : zT 155 489 = some (.iaload, 1, 0, []) := by decide +kernel
theorem zr_155_489 {l0 l1 l2 l3 : Option zV} {j : Int} {h : Nat} {st : List zV} {w : zW} {Q : Option zV → zW → Prop} (hk : (zk w h = zNC ∨ zk w h = zNC + 2) ∧ 0 ≤ zN j ∧ zN j < zl w h) : zR 155 489 [l0, l1, l2, l3] (.inl j :: .inr (some h) :: st) w Q = zR 155 490 [l0, l1, l2, l3] (.inl (za w h (zN j).toNat) :: st) w Q := zR_go (zst zT_155_489 (if_pos hk))
theorem zT_155_490 : zT 155 490 = some (.invokevirtual 65, 3, 2, [(11, 69)]) := by decide +kernel
theorem zr_155_490 {l0 l1 l2 l3 : Option zV} {a0 a1 : zV} {h : Nat} {st : List zV} {w : zW} {Q : Option zV → zW → Prop} (hs : st.length ≤ 8) (hk : zk w h = 11) : zR 155 490 [l0, l1, l2, l3] (a1 :: a0 :: .inr (some h) :: st) w Q = zR 69 0 [some (.inr (some h)), some a0, some a1] [] w (fun r w2 => zR 155 493 [l0, l1, l2, l3] (r.toList ++ st) w2 Q) := zR_call (zst zT_155_490 (zcall_v [a1, a0] rfl hs hk rfl))
theorem zT_155_493 : zT 155 493 = some (.if_icmp .eq 137, 3, 0, []) := by decide +kernel
theorem zr_155_493 {l0 l1 l2 l3 : Option zV} {x y : Int} {st : List zV} {w : zW} {Q : Option zV → zW → Prop}  : zR 155 493 [l0, l1, l2, l3] (.inl y :: .inl x :: st) w Q = (if zN x = zN y then zR 155 630 [l0, l1, l2, l3] st w Q else zR 155 496 [l0, l1, l2, l3] st w Q) := zR_if (zstB zT_155_493 rfl) (by simp [zcmp])
theorem zT_155_496 : zT 155 496 = some (.iconst 0, 1, 0, []) := by decide +kernel
theorem zr_155_496 {l0 l1 l2 l3 : Option zV} {st : List zV} {w : zW} {Q : Option zV → zW → Prop}  : zR 155 496 [l0, l1, l2, l3] st w Q = zR 155 497 [l0, l1, l2, l3] (.inl 0 :: st) w Q := zR_go (zst zT_155_496 rfl)
theorem zT_155_497 : zT 155 497 = some (.ireturn, 1, 0, []) := by decide +kernel
theorem zr_155_497 {l0 l1 l2 l3 : Option zV} {x : Int} {w : zW} {Q : Option zV → zW → Prop} (hx : zN x = 0 ∨ zN x = 1) : zR 155 497 [l0, l1, l2, l3] [.inl x] w Q = Q (some (.inl x)) w := zR_ret (zst zT_155_497 (if_pos (Or.inr ⟨rfl, hx⟩)))
theorem zT_155_498 : zT 155 498 = some (.aload_n 1, 1, 0, []) := by decide +kernel
theorem zr_155_498 {l0 l2 l3 : Option zV} {x : Option Nat} {st : List zV} {w : zW} {Q : Option zV → zW → Prop}  : zR 155 498 [l0, some (.inr x), l2, l3] st w Q = zR 155 499 [l0, some (.inr x), l2, l3] (.inr x :: st) w Q := zR_go (zst zT_155_498 rfl)
theorem zT_155_499 : zT 155 499 = some (.aload_n 0, 1, 0, []) := by decide +kernel
theorem zr_155_499 {l1 l2 l3 : Option zV} {x : Option Nat} {st : List zV} {w : zW} {Q : Option zV → zW → Prop}  : zR 155 499 [some (.inr x), l1, l2, l3] st w Q = zR 155 500 [some (.inr x), l1, l2, l3] (.inr x :: st) w Q := zR_go (zst zT_155_499 rfl)
theorem zT_155_500 : zT 155 500 = some (.iload_n 3, 1, 0, []) := by decide +kernel
theorem zr_155_500 {l0 l1 l2 : Option zV} {x : Int} {st : List zV} {w : zW} {Q : Option zV → zW → Prop}  : zR 155 500 [l0, l1, l2, some (.inl x)] st w Q = zR 155 501 [l0, l1, l2, some (.inl x)] (.inl x :: st) w Q := zR_go (zst zT_155_500 rfl)
theorem zT_155_501 : zT 155 501 = some (.iconst 1, 1, 0, []) := by decide +kernel
theorem zr_155_501 {l0 l1 l2 l3 : Option zV} {st : List zV} {w : zW} {Q : Option zV → zW → Prop}  : zR 155 501 [l0, l1, l2, l3] st w Q = zR 155 502 [l0, l1, l2, l3] (.inl 1 :: st) w Q := zR_go (zst zT_155_501 rfl)
theorem zT_155_502 : zT 155 502 = some (.iadd, 1, 0, []) := by decide +kernel
theorem zr_155_502 {l0 l1 l2 l3 : Option zV} {x y : Int} {st : List zV} {w : zW} {Q : Option zV → zW → Prop}  : zR 155 502 [l0, l1, l2, l3] (.inl y :: .inl x :: st) w Q = zR 155 503 [l0, l1, l2, l3] (.inl (x + y) :: st) w Q := zR_go (zst zT_155_502 rfl)
theorem zT_155_503 : zT 155 503 = some (.iaload, 1, 0, []) := by decide +kernel
theorem zr_155_503 {l0 l1 l2 l3 : Option zV} {j : Int} {h : Nat} {st : List zV} {w : zW} {Q : Option zV → zW → Prop} (hk : (zk w h = zNC ∨ zk w h = zNC + 2) ∧ 0 ≤ zN j ∧ zN j < zl w h) : zR 155 503 [l0, l1, l2, l3] (.inl j :: .inr (some h) :: st) w Q = zR 155 504 [l0, l1, l2, l3] (.inl (za w h (zN j).toNat) :: st) w Q := zR_go (zst zT_155_503 (if_pos hk))
theorem zT_155_504 : zT 155 504 = some (.aload_n 0, 1, 0, []) := by decide +kernel
theorem zr_155_504 {l1 l2 l3 : Option zV} {x : Option Nat} {st : List zV} {w : zW} {Q : Option zV → zW → Prop}  : zR 155 504 [some (.inr x), l1, l2, l3] st w Q = zR 155 505 [some (.inr x), l1, l2, l3] (.inr x :: st) w Q := zR_go (zst zT_155_504 rfl)
theorem zT_155_505 : zT 155 505 = some (.iload_n 3, 1, 0, []) := by decide +kernel
theorem zr_155_505 {l0 l1 l2 : Option zV} {x : Int} {st : List zV} {w : zW} {Q : Option zV → zW → Prop}  : zR 155 505 [l0, l1, l2, some (.inl x)] st w Q = zR 155 506 [l0, l1, l2, some (.inl x)] (.inl x :: st) w Q := zR_go (zst zT_155_505 rfl)
theorem zT_155_506 : zT 155 506 = some (.iconst 2, 1, 0, []) := by decide +kernel
theorem zr_155_506 {l0 l1 l2 l3 : Option zV} {st : List zV} {w : zW} {Q : Option zV → zW → Prop}  : zR 155 506 [l0, l1, l2, l3] st w Q = zR 155 507 [l0, l1, l2, l3] (.inl 2 :: st) w Q := zR_go (zst zT_155_506 rfl)
theorem zT_155_507 : zT 155 507 = some (.iadd, 1, 0, []) := by decide +kernel
theorem zr_155_507 {l0 l1 l2 l3 : Option zV} {x y : Int} {st : List zV} {w : zW} {Q : Option zV → zW → Prop}  : zR 155 507 [l0, l1, l2, l3] (.inl y :: .inl x :: st) w Q = zR 155 508 [l0, l1, l2, l3] (.inl (x + y) :: st) w Q := zR_go (zst zT_155_507 rfl)
theorem zT_155_508 : zT 155 508 = some (.iaload, 1, 0, []) := by decide +kernel
theorem zr_155_508 {l0 l1 l2 l3 : Option zV} {j : Int} {h : Nat} {st : List zV} {w : zW} {Q : Option zV → zW → Prop} (hk : (zk w h = zNC ∨ zk w h = zNC + 2) ∧ 0 ≤ zN j ∧ zN j < zl w h) : zR 155 508 [l0, l1, l2, l3] (.inl j :: .inr (some h) :: st) w Q = zR 155 509 [l0, l1, l2, l3] (.inl (za w h (zN j).toNat) :: st) w Q := zR_go (zst zT_155_508 (if_pos hk))
theorem zT_155_509 : zT 155 509 = some (.invokevirtual 66, 3, 2, [(0, 13)]) := by decide +kernel
theorem zr_155_509 {l0 l1 l2 l3 : Option zV} {a0 a1 : zV} {h : Nat} {st : List zV} {w : zW} {Q : Option zV → zW → Prop} (hs : st.length ≤ 8) (hk : zk w h = 0) : zR 155 509 [l0, l1, l2, l3] (a1 :: a0 :: .inr (some h) :: st) w Q = zR 13 0 [some (.inr (some h)), some a0, some a1, none] [] w (fun r w2 => zR 155 512 [l0, l1, l2, l3] (r.toList ++ st) w2 Q) := zR_call (zst zT_155_509 (zcall_v [a1, a0] rfl hs hk rfl))
theorem zT_155_512 : zT 155 512 = some (.aload_n 2, 1, 0, []) := by decide +kernel
theorem zr_155_512 {l0 l1 l3 : Option zV} {x : Option Nat} {st : List zV} {w : zW} {Q : Option zV → zW → Prop}  : zR 155 512 [l0, l1, some (.inr x), l3] st w Q = zR 155 513 [l0, l1, some (.inr x), l3] (.inr x :: st) w Q := zR_go (zst zT_155_512 rfl)
theorem zT_155_513 : zT 155 513 = some (.aload_n 0, 1, 0, []) := by decide +kernel
theorem zr_155_513 {l1 l2 l3 : Option zV} {x : Option Nat} {st : List zV} {w : zW} {Q : Option zV → zW → Prop}  : zR 155 513 [some (.inr x), l1, l2, l3] st w Q = zR 155 514 [some (.inr x), l1, l2, l3] (.inr x :: st) w Q := zR_go (zst zT_155_513 rfl)
theorem zT_155_514 : zT 155 514 = some (.iload_n 3, 1, 0, []) := by decide +kernel
theorem zr_155_514 {l0 l1 l2 : Option zV} {x : Int} {st : List zV} {w : zW} {Q : Option zV → zW → Prop}  : zR 155 514 [l0, l1, l2, some (.inl x)] st w Q = zR 155 515 [l0, l1, l2, some (.inl x)] (.inl x :: st) w Q := zR_go (zst zT_155_514 rfl)
theorem zT_155_515 : zT 155 515 = some (.iconst 1, 1, 0, []) := by decide +kernel
theorem zr_155_515 {l0 l1 l2 l3 : Option zV} {st : List zV} {w : zW} {Q : Option zV → zW → Prop}  : zR 155 515 [l0, l1, l2, l3] st w Q = zR 155 516 [l0, l1, l2, l3] (.inl 1 :: st) w Q := zR_go (zst zT_155_515 rfl)
theorem zT_155_516 : zT 155 516 = some (.iadd, 1, 0, []) := by decide +kernel
theorem zr_155_516 {l0 l1 l2 l3 : Option zV} {x y : Int} {st : List zV} {w : zW} {Q : Option zV → zW → Prop}  : zR 155 516 [l0, l1, l2, l3] (.inl y :: .inl x :: st) w Q = zR 155 517 [l0, l1, l2, l3] (.inl (x + y) :: st) w Q := zR_go (zst zT_155_516 rfl)
theorem zT_155_517 : zT 155 517 = some (.iaload, 1, 0, []) := by decide +kernel
theorem zr_155_517 {l0 l1 l2 l3 : Option zV} {j : Int} {h : Nat} {st : List zV} {w : zW} {Q : Option zV → zW → Prop} (hk : (zk w h = zNC ∨ zk w h = zNC + 2) ∧ 0 ≤ zN j ∧ zN j < zl w h) : zR 155 517 [l0, l1, l2, l3] (.inl j :: .inr (some h) :: st) w Q = zR 155 518 [l0, l1, l2, l3] (.inl (za w h (zN j).toNat) :: st) w Q := zR_go (zst zT_155_517 (if_pos hk))
theorem zT_155_518 : zT 155 518 = some (.aload_n 0, 1, 0, []) := by decide +kernel
theorem zr_155_518 {l1 l2 l3 : Option zV} {x : Option Nat} {st : List zV} {w : zW} {Q : Option zV → zW → Prop}  : zR 155 518 [some (.inr x), l1, l2, l3] st w Q = zR 155 519 [some (.inr x), l1, l2, l3] (.inr x :: st) w Q := zR_go (zst zT_155_518 rfl)
theorem zT_155_519 : zT 155 519 = some (.iload_n 3, 1, 0, []) := by decide +kernel
theorem zr_155_519 {l0 l1 l2 : Option zV} {x : Int} {st : List zV} {w : zW} {Q : Option zV → zW → Prop}  : zR 155 519 [l0, l1, l2, some (.inl x)] st w Q = zR 155 520 [l0, l1, l2, some (.inl x)] (.inl x :: st) w Q := zR_go (zst zT_155_519 rfl)
theorem zT_155_520 : zT 155 520 = some (.iconst 2, 1, 0, []) := by decide +kernel
theorem zr_155_520 {l0 l1 l2 l3 : Option zV} {st : List zV} {w : zW} {Q : Option zV → zW → Prop}  : zR 155 520 [l0, l1, l2, l3] st w Q = zR 155 521 [l0, l1, l2, l3] (.inl 2 :: st) w Q := zR_go (zst zT_155_520 rfl)
theorem zT_155_521 : zT 155 521 = some (.iadd, 1, 0, []) := by decide +kernel
theorem zr_155_521 {l0 l1 l2 l3 : Option zV} {x y : Int} {st : List zV} {w : zW} {Q : Option zV → zW → Prop}  : zR 155 521 [l0, l1, l2, l3] (.inl y :: .inl x :: st) w Q = zR 155 522 [l0, l1, l2, l3] (.inl (x + y) :: st) w Q := zR_go (zst zT_155_521 rfl)
theorem zT_155_522 : zT 155 522 = some (.iaload, 1, 0, []) := by decide +kernel
theorem zr_155_522 {l0 l1 l2 l3 : Option zV} {j : Int} {h : Nat} {st : List zV} {w : zW} {Q : Option zV → zW → Prop} (hk : (zk w h = zNC ∨ zk w h = zNC + 2) ∧ 0 ≤ zN j ∧ zN j < zl w h) : zR 155 522 [l0, l1, l2, l3] (.inl j :: .inr (some h) :: st) w Q = zR 155 523 [l0, l1, l2, l3] (.inl (za w h (zN j).toNat) :: st) w Q := zR_go (zst zT_155_522 (if_pos hk))
theorem zT_155_523 : zT 155 523 = some (.invokevirtual 69, 3, 2, [(11, 70)]) := by decide +kernel
theorem zr_155_523 {l0 l1 l2 l3 : Option zV} {a0 a1 : zV} {h : Nat} {st : List zV} {w : zW} {Q : Option zV → zW → Prop} (hs : st.length ≤ 8) (hk : zk w h = 11) : zR 155 523 [l0, l1, l2, l3] (a1 :: a0 :: .inr (some h) :: st) w Q = zR 70 0 [some (.inr (some h)), some a0, some a1] [] w (fun r w2 => zR 155 526 [l0, l1, l2, l3] (r.toList ++ st) w2 Q) := zR_call (zst zT_155_523 (zcall_v [a1, a0] rfl hs hk rfl))
theorem zT_155_526 : zT 155 526 = some (.if_icmp .eq 104, 3, 0, []) := by decide +kernel
theorem zr_155_526 {l0 l1 l2 l3 : Option zV} {x y : Int} {st : List zV} {w : zW} {Q : Option zV → zW → Prop}  : zR 155 526 [l0, l1, l2, l3] (.inl y :: .inl x :: st) w Q = (if zN x = zN y then zR 155 630 [l0, l1, l2, l3] st w Q else zR 155 529 [l0, l1, l2, l3] st w Q) := zR_if (zstB zT_155_526 rfl) (by simp [zcmp])
theorem zT_155_529 : zT 155 529 = some (.iconst 0, 1, 0, []) := by decide +kernel
theorem zr_155_529 {l0 l1 l2 l3 : Option zV} {st : List zV} {w : zW} {Q : Option zV → zW → Prop}  : zR 155 529 [l0, l1, l2, l3] st w Q = zR 155 530 [l0, l1, l2, l3] (.inl 0 :: st) w Q := zR_go (zst zT_155_529 rfl)
theorem zT_155_530 : zT 155 530 = some (.ireturn, 1, 0, []) := by decide +kernel
theorem zr_155_530 {l0 l1 l2 l3 : Option zV} {x : Int} {w : zW} {Q : Option zV → zW → Prop} (hx : zN x = 0 ∨ zN x = 1) : zR 155 530 [l0, l1, l2, l3] [.inl x] w Q = Q (some (.inl x)) w := zR_ret (zst zT_155_530 (if_pos (Or.inr ⟨rfl, hx⟩)))
theorem zT_155_531 : zT 155 531 = some (.aload_n 1, 1, 0, []) := by decide +kernel
theorem zr_155_531 {l0 l2 l3 : Option zV} {x : Option Nat} {st : List zV} {w : zW} {Q : Option zV → zW → Prop}  : zR 155 531 [l0, some (.inr x), l2, l3] st w Q = zR 155 532 [l0, some (.inr x), l2, l3] (.inr x :: st) w Q := zR_go (zst zT_155_531 rfl)
theorem zT_155_532 : zT 155 532 = some (.aload_n 0, 1, 0, []) := by decide +kernel
theorem zr_155_532 {l1 l2 l3 : Option zV} {x : Option Nat} {st : List zV} {w : zW} {Q : Option zV → zW → Prop}  : zR 155 532 [some (.inr x), l1, l2, l3] st w Q = zR 155 533 [some (.inr x), l1, l2, l3] (.inr x :: st) w Q := zR_go (zst zT_155_532 rfl)
theorem zT_155_533 : zT 155 533 = some (.iload_n 3, 1, 0, []) := by decide +kernel
theorem zr_155_533 {l0 l1 l2 : Option zV} {x : Int} {st : List zV} {w : zW} {Q : Option zV → zW → Prop}  : zR 155 533 [l0, l1, l2, some (.inl x)] st w Q = zR 155 534 [l0, l1, l2, some (.inl x)] (.inl x :: st) w Q := zR_go (zst zT_155_533 rfl)
theorem zT_155_534 : zT 155 534 = some (.iconst 1, 1, 0, []) := by decide +kernel
theorem zr_155_534 {l0 l1 l2 l3 : Option zV} {st : List zV} {w : zW} {Q : Option zV → zW → Prop}  : zR 155 534 [l0, l1, l2, l3] st w Q = zR 155 535 [l0, l1, l2, l3] (.inl 1 :: st) w Q := zR_go (zst zT_155_534 rfl)
theorem zT_155_535 : zT 155 535 = some (.iadd, 1, 0, []) := by decide +kernel
theorem zr_155_535 {l0 l1 l2 l3 : Option zV} {x y : Int} {st : List zV} {w : zW} {Q : Option zV → zW → Prop}  : zR 155 535 [l0, l1, l2, l3] (.inl y :: .inl x :: st) w Q = zR 155 536 [l0, l1, l2, l3] (.inl (x + y) :: st) w Q := zR_go (zst zT_155_535 rfl)
theorem zT_155_536 : zT 155 536 = some (.iaload, 1, 0, []) := by decide +kernel
theorem zr_155_536 {l0 l1 l2 l3 : Option zV} {j : Int} {h : Nat} {st : List zV} {w : zW} {Q : Option zV → zW → Prop} (hk : (zk w h = zNC ∨ zk w h = zNC + 2) ∧ 0 ≤ zN j ∧ zN j < zl w h) : zR 155 536 [l0, l1, l2, l3] (.inl j :: .inr (some h) :: st) w Q = zR 155 537 [l0, l1, l2, l3] (.inl (za w h (zN j).toNat) :: st) w Q := zR_go (zst zT_155_536 (if_pos hk))
theorem zT_155_537 : zT 155 537 = some (.aload_n 0, 1, 0, []) := by decide +kernel
theorem zr_155_537 {l1 l2 l3 : Option zV} {x : Option Nat} {st : List zV} {w : zW} {Q : Option zV → zW → Prop}  : zR 155 537 [some (.inr x), l1, l2, l3] st w Q = zR 155 538 [some (.inr x), l1, l2, l3] (.inr x :: st) w Q := zR_go (zst zT_155_537 rfl)
theorem zT_155_538 : zT 155 538 = some (.iload_n 3, 1, 0, []) := by decide +kernel
theorem zr_155_538 {l0 l1 l2 : Option zV} {x : Int} {st : List zV} {w : zW} {Q : Option zV → zW → Prop}  : zR 155 538 [l0, l1, l2, some (.inl x)] st w Q = zR 155 539 [l0, l1, l2, some (.inl x)] (.inl x :: st) w Q := zR_go (zst zT_155_538 rfl)
theorem zT_155_539 : zT 155 539 = some (.iconst 2, 1, 0, []) := by decide +kernel
theorem zr_155_539 {l0 l1 l2 l3 : Option zV} {st : List zV} {w : zW} {Q : Option zV → zW → Prop}  : zR 155 539 [l0, l1, l2, l3] st w Q = zR 155 540 [l0, l1, l2, l3] (.inl 2 :: st) w Q := zR_go (zst zT_155_539 rfl)
theorem zT_155_540 : zT 155 540 = some (.iadd, 1, 0, []) := by decide +kernel
theorem zr_155_540 {l0 l1 l2 l3 : Option zV} {x y : Int} {st : List zV} {w : zW} {Q : Option zV → zW → Prop}  : zR 155 540 [l0, l1, l2, l3] (.inl y :: .inl x :: st) w Q = zR 155 541 [l0, l1, l2, l3] (.inl (x + y) :: st) w Q := zR_go (zst zT_155_540 rfl)
theorem zT_155_541 : zT 155 541 = some (.iaload, 1, 0, []) := by decide +kernel
theorem zr_155_541 {l0 l1 l2 l3 : Option zV} {j : Int} {h : Nat} {st : List zV} {w : zW} {Q : Option zV → zW → Prop} (hk : (zk w h = zNC ∨ zk w h = zNC + 2) ∧ 0 ≤ zN j ∧ zN j < zl w h) : zR 155 541 [l0, l1, l2, l3] (.inl j :: .inr (some h) :: st) w Q = zR 155 542 [l0, l1, l2, l3] (.inl (za w h (zN j).toNat) :: st) w Q := zR_go (zst zT_155_541 (if_pos hk))
theorem zT_155_542 : zT 155 542 = some (.invokevirtual 70, 3, 2, [(0, 14)]) := by decide +kernel
theorem zr_155_542 {l0 l1 l2 l3 : Option zV} {a0 a1 : zV} {h : Nat} {st : List zV} {w : zW} {Q : Option zV → zW → Prop} (hs : st.length ≤ 8) (hk : zk w h = 0) : zR 155 542 [l0, l1, l2, l3] (a1 :: a0 :: .inr (some h) :: st) w Q = zR 14 0 [some (.inr (some h)), some a0, some a1, none] [] w (fun r w2 => zR 155 545 [l0, l1, l2, l3] (r.toList ++ st) w2 Q) := zR_call (zst zT_155_542 (zcall_v [a1, a0] rfl hs hk rfl))
theorem zT_155_545 : zT 155 545 = some (.aload_n 2, 1, 0, []) := by decide +kernel
theorem zr_155_545 {l0 l1 l3 : Option zV} {x : Option Nat} {st : List zV} {w : zW} {Q : Option zV → zW → Prop}  : zR 155 545 [l0, l1, some (.inr x), l3] st w Q = zR 155 546 [l0, l1, some (.inr x), l3] (.inr x :: st) w Q := zR_go (zst zT_155_545 rfl)
theorem zT_155_546 : zT 155 546 = some (.aload_n 0, 1, 0, []) := by decide +kernel
theorem zr_155_546 {l1 l2 l3 : Option zV} {x : Option Nat} {st : List zV} {w : zW} {Q : Option zV → zW → Prop}  : zR 155 546 [some (.inr x), l1, l2, l3] st w Q = zR 155 547 [some (.inr x), l1, l2, l3] (.inr x :: st) w Q := zR_go (zst zT_155_546 rfl)
theorem zT_155_547 : zT 155 547 = some (.iload_n 3, 1, 0, []) := by decide +kernel
theorem zr_155_547 {l0 l1 l2 : Option zV} {x : Int} {st : List zV} {w : zW} {Q : Option zV → zW → Prop}  : zR 155 547 [l0, l1, l2, some (.inl x)] st w Q = zR 155 548 [l0, l1, l2, some (.inl x)] (.inl x :: st) w Q := zR_go (zst zT_155_547 rfl)
theorem zT_155_548 : zT 155 548 = some (.iconst 1, 1, 0, []) := by decide +kernel
theorem zr_155_548 {l0 l1 l2 l3 : Option zV} {st : List zV} {w : zW} {Q : Option zV → zW → Prop}  : zR 155 548 [l0, l1, l2, l3] st w Q = zR 155 549 [l0, l1, l2, l3] (.inl 1 :: st) w Q := zR_go (zst zT_155_548 rfl)
theorem zT_155_549 : zT 155 549 = some (.iadd, 1, 0, []) := by decide +kernel
theorem zr_155_549 {l0 l1 l2 l3 : Option zV} {x y : Int} {st : List zV} {w : zW} {Q : Option zV → zW → Prop}  : zR 155 549 [l0, l1, l2, l3] (.inl y :: .inl x :: st) w Q = zR 155 550 [l0, l1, l2, l3] (.inl (x + y) :: st) w Q := zR_go (zst zT_155_549 rfl)
theorem zT_155_550 : zT 155 550 = some (.iaload, 1, 0, []) := by decide +kernel
theorem zr_155_550 {l0 l1 l2 l3 : Option zV} {j : Int} {h : Nat} {st : List zV} {w : zW} {Q : Option zV → zW → Prop} (hk : (zk w h = zNC ∨ zk w h = zNC + 2) ∧ 0 ≤ zN j ∧ zN j < zl w h) : zR 155 550 [l0, l1, l2, l3] (.inl j :: .inr (some h) :: st) w Q = zR 155 551 [l0, l1, l2, l3] (.inl (za w h (zN j).toNat) :: st) w Q := zR_go (zst zT_155_550 (if_pos hk))
theorem zT_155_551 : zT 155 551 = some (.aload_n 0, 1, 0, []) := by decide +kernel
theorem zr_155_551 {l1 l2 l3 : Option zV} {x : Option Nat} {st : List zV} {w : zW} {Q : Option zV → zW → Prop}  : zR 155 551 [some (.inr x), l1, l2, l3] st w Q = zR 155 552 [some (.inr x), l1, l2, l3] (.inr x :: st) w Q := zR_go (zst zT_155_551 rfl)
theorem zT_155_552 : zT 155 552 = some (.iload_n 3, 1, 0, []) := by decide +kernel
theorem zr_155_552 {l0 l1 l2 : Option zV} {x : Int} {st : List zV} {w : zW} {Q : Option zV → zW → Prop}  : zR 155 552 [l0, l1, l2, some (.inl x)] st w Q = zR 155 553 [l0, l1, l2, some (.inl x)] (.inl x :: st) w Q := zR_go (zst zT_155_552 rfl)
theorem zT_155_553 : zT 155 553 = some (.iconst 2, 1, 0, []) := by decide +kernel
theorem zr_155_553 {l0 l1 l2 l3 : Option zV} {st : List zV} {w : zW} {Q : Option zV → zW → Prop}  : zR 155 553 [l0, l1, l2, l3] st w Q = zR 155 554 [l0, l1, l2, l3] (.inl 2 :: st) w Q := zR_go (zst zT_155_553 rfl)
theorem zT_155_554 : zT 155 554 = some (.iadd, 1, 0, []) := by decide +kernel
theorem zr_155_554 {l0 l1 l2 l3 : Option zV} {x y : Int} {st : List zV} {w : zW} {Q : Option zV → zW → Prop}  : zR 155 554 [l0, l1, l2, l3] (.inl y :: .inl x :: st) w Q = zR 155 555 [l0, l1, l2, l3] (.inl (x + y) :: st) w Q := zR_go (zst zT_155_554 rfl)
theorem zT_155_555 : zT 155 555 = some (.iaload, 1, 0, []) := by decide +kernel
theorem zr_155_555 {l0 l1 l2 l3 : Option zV} {j : Int} {h : Nat} {st : List zV} {w : zW} {Q : Option zV → zW → Prop} (hk : (zk w h = zNC ∨ zk w h = zNC + 2) ∧ 0 ≤ zN j ∧ zN j < zl w h) : zR 155 555 [l0, l1, l2, l3] (.inl j :: .inr (some h) :: st) w Q = zR 155 556 [l0, l1, l2, l3] (.inl (za w h (zN j).toNat) :: st) w Q := zR_go (zst zT_155_555 (if_pos hk))
theorem zT_155_556 : zT 155 556 = some (.invokevirtual 73, 3, 2, [(11, 71)]) := by decide +kernel
theorem zr_155_556 {l0 l1 l2 l3 : Option zV} {a0 a1 : zV} {h : Nat} {st : List zV} {w : zW} {Q : Option zV → zW → Prop} (hs : st.length ≤ 8) (hk : zk w h = 11) : zR 155 556 [l0, l1, l2, l3] (a1 :: a0 :: .inr (some h) :: st) w Q = zR 71 0 [some (.inr (some h)), some a0, some a1] [] w (fun r w2 => zR 155 559 [l0, l1, l2, l3] (r.toList ++ st) w2 Q) := zR_call (zst zT_155_556 (zcall_v [a1, a0] rfl hs hk rfl))
theorem zT_155_559 : zT 155 559 = some (.if_icmp .eq 71, 3, 0, []) := by decide +kernel
theorem zr_155_559 {l0 l1 l2 l3 : Option zV} {x y : Int} {st : List zV} {w : zW} {Q : Option zV → zW → Prop}  : zR 155 559 [l0, l1, l2, l3] (.inl y :: .inl x :: st) w Q = (if zN x = zN y then zR 155 630 [l0, l1, l2, l3] st w Q else zR 155 562 [l0, l1, l2, l3] st w Q) := zR_if (zstB zT_155_559 rfl) (by simp [zcmp])
theorem zT_155_562 : zT 155 562 = some (.iconst 0, 1, 0, []) := by decide +kernel
theorem zr_155_562 {l0 l1 l2 l3 : Option zV} {st : List zV} {w : zW} {Q : Option zV → zW → Prop}  : zR 155 562 [l0, l1, l2, l3] st w Q = zR 155 563 [l0, l1, l2, l3] (.inl 0 :: st) w Q := zR_go (zst zT_155_562 rfl)
theorem zT_155_563 : zT 155 563 = some (.ireturn, 1, 0, []) := by decide +kernel
theorem zr_155_563 {l0 l1 l2 l3 : Option zV} {x : Int} {w : zW} {Q : Option zV → zW → Prop} (hx : zN x = 0 ∨ zN x = 1) : zR 155 563 [l0, l1, l2, l3] [.inl x] w Q = Q (some (.inl x)) w := zR_ret (zst zT_155_563 (if_pos (Or.inr ⟨rfl, hx⟩)))
theorem zT_155_564 : zT 155 564 = some (.aload_n 1, 1, 0, []) := by decide +kernel
theorem zr_155_564 {l0 l2 l3 : Option zV} {x : Option Nat} {st : List zV} {w : zW} {Q : Option zV → zW → Prop}  : zR 155 564 [l0, some (.inr x), l2, l3] st w Q = zR 155 565 [l0, some (.inr x), l2, l3] (.inr x :: st) w Q := zR_go (zst zT_155_564 rfl)
theorem zT_155_565 : zT 155 565 = some (.aload_n 0, 1, 0, []) := by decide +kernel
theorem zr_155_565 {l1 l2 l3 : Option zV} {x : Option Nat} {st : List zV} {w : zW} {Q : Option zV → zW → Prop}  : zR 155 565 [some (.inr x), l1, l2, l3] st w Q = zR 155 566 [some (.inr x), l1, l2, l3] (.inr x :: st) w Q := zR_go (zst zT_155_565 rfl)
theorem zT_155_566 : zT 155 566 = some (.iload_n 3, 1, 0, []) := by decide +kernel
theorem zr_155_566 {l0 l1 l2 : Option zV} {x : Int} {st : List zV} {w : zW} {Q : Option zV → zW → Prop}  : zR 155 566 [l0, l1, l2, some (.inl x)] st w Q = zR 155 567 [l0, l1, l2, some (.inl x)] (.inl x :: st) w Q := zR_go (zst zT_155_566 rfl)
theorem zT_155_567 : zT 155 567 = some (.iconst 1, 1, 0, []) := by decide +kernel
theorem zr_155_567 {l0 l1 l2 l3 : Option zV} {st : List zV} {w : zW} {Q : Option zV → zW → Prop}  : zR 155 567 [l0, l1, l2, l3] st w Q = zR 155 568 [l0, l1, l2, l3] (.inl 1 :: st) w Q := zR_go (zst zT_155_567 rfl)
theorem zT_155_568 : zT 155 568 = some (.iadd, 1, 0, []) := by decide +kernel
theorem zr_155_568 {l0 l1 l2 l3 : Option zV} {x y : Int} {st : List zV} {w : zW} {Q : Option zV → zW → Prop}  : zR 155 568 [l0, l1, l2, l3] (.inl y :: .inl x :: st) w Q = zR 155 569 [l0, l1, l2, l3] (.inl (x + y) :: st) w Q := zR_go (zst zT_155_568 rfl)
theorem zT_155_569 : zT 155 569 = some (.iaload, 1, 0, []) := by decide +kernel
theorem zr_155_569 {l0 l1 l2 l3 : Option zV} {j : Int} {h : Nat} {st : List zV} {w : zW} {Q : Option zV → zW → Prop} (hk : (zk w h = zNC ∨ zk w h = zNC + 2) ∧ 0 ≤ zN j ∧ zN j < zl w h) : zR 155 569 [l0, l1, l2, l3] (.inl j :: .inr (some h) :: st) w Q = zR 155 570 [l0, l1, l2, l3] (.inl (za w h (zN j).toNat) :: st) w Q := zR_go (zst zT_155_569 (if_pos hk))
theorem zT_155_570 : zT 155 570 = some (.aload_n 0, 1, 0, []) := by decide +kernel
theorem zr_155_570 {l1 l2 l3 : Option zV} {x : Option Nat} {st : List zV} {w : zW} {Q : Option zV → zW → Prop}  : zR 155 570 [some (.inr x), l1, l2, l3] st w Q = zR 155 571 [some (.inr x), l1, l2, l3] (.inr x :: st) w Q := zR_go (zst zT_155_570 rfl)
theorem zT_155_571 : zT 155 571 = some (.iload_n 3, 1, 0, []) := by decide +kernel
theorem zr_155_571 {l0 l1 l2 : Option zV} {x : Int} {st : List zV} {w : zW} {Q : Option zV → zW → Prop}  : zR 155 571 [l0, l1, l2, some (.inl x)] st w Q = zR 155 572 [l0, l1, l2, some (.inl x)] (.inl x :: st) w Q := zR_go (zst zT_155_571 rfl)
theorem zT_155_572 : zT 155 572 = some (.iconst 2, 1, 0, []) := by decide +kernel
theorem zr_155_572 {l0 l1 l2 l3 : Option zV} {st : List zV} {w : zW} {Q : Option zV → zW → Prop}  : zR 155 572 [l0, l1, l2, l3] st w Q = zR 155 573 [l0, l1, l2, l3] (.inl 2 :: st) w Q := zR_go (zst zT_155_572 rfl)
theorem zT_155_573 : zT 155 573 = some (.iadd, 1, 0, []) := by decide +kernel
theorem zr_155_573 {l0 l1 l2 l3 : Option zV} {x y : Int} {st : List zV} {w : zW} {Q : Option zV → zW → Prop}  : zR 155 573 [l0, l1, l2, l3] (.inl y :: .inl x :: st) w Q = zR 155 574 [l0, l1, l2, l3] (.inl (x + y) :: st) w Q := zR_go (zst zT_155_573 rfl)
theorem zT_155_574 : zT 155 574 = some (.iaload, 1, 0, []) := by decide +kernel
theorem zr_155_574 {l0 l1 l2 l3 : Option zV} {j : Int} {h : Nat} {st : List zV} {w : zW} {Q : Option zV → zW → Prop} (hk : (zk w h = zNC ∨ zk w h = zNC + 2) ∧ 0 ≤ zN j ∧ zN j < zl w h) : zR 155 574 [l0, l1, l2, l3] (.inl j :: .inr (some h) :: st) w Q = zR 155 575 [l0, l1, l2, l3] (.inl (za w h (zN j).toNat) :: st) w Q := zR_go (zst zT_155_574 (if_pos hk))
theorem zT_155_575 : zT 155 575 = some (.invokevirtual 74, 3, 2, [(0, 15)]) := by decide +kernel
theorem zr_155_575 {l0 l1 l2 l3 : Option zV} {a0 a1 : zV} {h : Nat} {st : List zV} {w : zW} {Q : Option zV → zW → Prop} (hs : st.length ≤ 8) (hk : zk w h = 0) : zR 155 575 [l0, l1, l2, l3] (a1 :: a0 :: .inr (some h) :: st) w Q = zR 15 0 [some (.inr (some h)), some a0, some a1, none] [] w (fun r w2 => zR 155 578 [l0, l1, l2, l3] (r.toList ++ st) w2 Q) := zR_call (zst zT_155_575 (zcall_v [a1, a0] rfl hs hk rfl))
theorem zT_155_578 : zT 155 578 = some (.aload_n 2, 1, 0, []) := by decide +kernel
theorem zr_155_578 {l0 l1 l3 : Option zV} {x : Option Nat} {st : List zV} {w : zW} {Q : Option zV → zW → Prop}  : zR 155 578 [l0, l1, some (.inr x), l3] st w Q = zR 155 579 [l0, l1, some (.inr x), l3] (.inr x :: st) w Q := zR_go (zst zT_155_578 rfl)
theorem zT_155_579 : zT 155 579 = some (.aload_n 0, 1, 0, []) := by decide +kernel
theorem zr_155_579 {l1 l2 l3 : Option zV} {x : Option Nat} {st : List zV} {w : zW} {Q : Option zV → zW → Prop}  : zR 155 579 [some (.inr x), l1, l2, l3] st w Q = zR 155 580 [some (.inr x), l1, l2, l3] (.inr x :: st) w Q := zR_go (zst zT_155_579 rfl)
theorem zT_155_580 : zT 155 580 = some (.iload_n 3, 1, 0, []) := by decide +kernel
theorem zr_155_580 {l0 l1 l2 : Option zV} {x : Int} {st : List zV} {w : zW} {Q : Option zV → zW → Prop}  : zR 155 580 [l0, l1, l2, some (.inl x)] st w Q = zR 155 581 [l0, l1, l2, some (.inl x)] (.inl x :: st) w Q := zR_go (zst zT_155_580 rfl)
theorem zT_155_581 : zT 155 581 = some (.iconst 1, 1, 0, []) := by decide +kernel
theorem zr_155_581 {l0 l1 l2 l3 : Option zV} {st : List zV} {w : zW} {Q : Option zV → zW → Prop}  : zR 155 581 [l0, l1, l2, l3] st w Q = zR 155 582 [l0, l1, l2, l3] (.inl 1 :: st) w Q := zR_go (zst zT_155_581 rfl)
theorem zT_155_582 : zT 155 582 = some (.iadd, 1, 0, []) := by decide +kernel
theorem zr_155_582 {l0 l1 l2 l3 : Option zV} {x y : Int} {st : List zV} {w : zW} {Q : Option zV → zW → Prop}  : zR 155 582 [l0, l1, l2, l3] (.inl y :: .inl x :: st) w Q = zR 155 583 [l0, l1, l2, l3] (.inl (x + y) :: st) w Q := zR_go (zst zT_155_582 rfl)
theorem zT_155_583 : zT 155 583 = some (.iaload, 1, 0, []) := by decide +kernel
theorem zr_155_583 {l0 l1 l2 l3 : Option zV} {j : Int} {h : Nat} {st : List zV} {w : zW} {Q : Option zV → zW → Prop} (hk : (zk w h = zNC ∨ zk w h = zNC + 2) ∧ 0 ≤ zN j ∧ zN j < zl w h) : zR 155 583 [l0, l1, l2, l3] (.inl j :: .inr (some h) :: st) w Q = zR 155 584 [l0, l1, l2, l3] (.inl (za w h (zN j).toNat) :: st) w Q := zR_go (zst zT_155_583 (if_pos hk))
theorem zT_155_584 : zT 155 584 = some (.aload_n 0, 1, 0, []) := by decide +kernel
theorem zr_155_584 {l1 l2 l3 : Option zV} {x : Option Nat} {st : List zV} {w : zW} {Q : Option zV → zW → Prop}  : zR 155 584 [some (.inr x), l1, l2, l3] st w Q = zR 155 585 [some (.inr x), l1, l2, l3] (.inr x :: st) w Q := zR_go (zst zT_155_584 rfl)
theorem zT_155_585 : zT 155 585 = some (.iload_n 3, 1, 0, []) := by decide +kernel
theorem zr_155_585 {l0 l1 l2 : Option zV} {x : Int} {st : List zV} {w : zW} {Q : Option zV → zW → Prop}  : zR 155 585 [l0, l1, l2, some (.inl x)] st w Q = zR 155 586 [l0, l1, l2, some (.inl x)] (.inl x :: st) w Q := zR_go (zst zT_155_585 rfl)
theorem zT_155_586 : zT 155 586 = some (.iconst 2, 1, 0, []) := by decide +kernel
theorem zr_155_586 {l0 l1 l2 l3 : Option zV} {st : List zV} {w : zW} {Q : Option zV → zW → Prop}  : zR 155 586 [l0, l1, l2, l3] st w Q = zR 155 587 [l0, l1, l2, l3] (.inl 2 :: st) w Q := zR_go (zst zT_155_586 rfl)
theorem zT_155_587 : zT 155 587 = some (.iadd, 1, 0, []) := by decide +kernel
theorem zr_155_587 {l0 l1 l2 l3 : Option zV} {x y : Int} {st : List zV} {w : zW} {Q : Option zV → zW → Prop}  : zR 155 587 [l0, l1, l2, l3] (.inl y :: .inl x :: st) w Q = zR 155 588 [l0, l1, l2, l3] (.inl (x + y) :: st) w Q := zR_go (zst zT_155_587 rfl)
theorem zT_155_588 : zT 155 588 = some (.iaload, 1, 0, []) := by decide +kernel
theorem zr_155_588 {l0 l1 l2 l3 : Option zV} {j : Int} {h : Nat} {st : List zV} {w : zW} {Q : Option zV → zW → Prop} (hk : (zk w h = zNC ∨ zk w h = zNC + 2) ∧ 0 ≤ zN j ∧ zN j < zl w h) : zR 155 588 [l0, l1, l2, l3] (.inl j :: .inr (some h) :: st) w Q = zR 155 589 [l0, l1, l2, l3] (.inl (za w h (zN j).toNat) :: st) w Q := zR_go (zst zT_155_588 (if_pos hk))
theorem zT_155_589 : zT 155 589 = some (.invokevirtual 77, 3, 2, [(11, 72)]) := by decide +kernel
theorem zr_155_589 {l0 l1 l2 l3 : Option zV} {a0 a1 : zV} {h : Nat} {st : List zV} {w : zW} {Q : Option zV → zW → Prop} (hs : st.length ≤ 8) (hk : zk w h = 11) : zR 155 589 [l0, l1, l2, l3] (a1 :: a0 :: .inr (some h) :: st) w Q = zR 72 0 [some (.inr (some h)), some a0, some a1] [] w (fun r w2 => zR 155 592 [l0, l1, l2, l3] (r.toList ++ st) w2 Q) := zR_call (zst zT_155_589 (zcall_v [a1, a0] rfl hs hk rfl))
theorem zT_155_592 : zT 155 592 = some (.if_icmp .eq 38, 3, 0, []) := by decide +kernel
theorem zr_155_592 {l0 l1 l2 l3 : Option zV} {x y : Int} {st : List zV} {w : zW} {Q : Option zV → zW → Prop}  : zR 155 592 [l0, l1, l2, l3] (.inl y :: .inl x :: st) w Q = (if zN x = zN y then zR 155 630 [l0, l1, l2, l3] st w Q else zR 155 595 [l0, l1, l2, l3] st w Q) := zR_if (zstB zT_155_592 rfl) (by simp [zcmp])
theorem zT_155_595 : zT 155 595 = some (.iconst 0, 1, 0, []) := by decide +kernel
theorem zr_155_595 {l0 l1 l2 l3 : Option zV} {st : List zV} {w : zW} {Q : Option zV → zW → Prop}  : zR 155 595 [l0, l1, l2, l3] st w Q = zR 155 596 [l0, l1, l2, l3] (.inl 0 :: st) w Q := zR_go (zst zT_155_595 rfl)
theorem zT_155_596 : zT 155 596 = some (.ireturn, 1, 0, []) := by decide +kernel
theorem zr_155_596 {l0 l1 l2 l3 : Option zV} {x : Int} {w : zW} {Q : Option zV → zW → Prop} (hx : zN x = 0 ∨ zN x = 1) : zR 155 596 [l0, l1, l2, l3] [.inl x] w Q = Q (some (.inl x)) w := zR_ret (zst zT_155_596 (if_pos (Or.inr ⟨rfl, hx⟩)))
theorem zT_155_597 : zT 155 597 = some (.aload_n 1, 1, 0, []) := by decide +kernel
theorem zr_155_597 {l0 l2 l3 : Option zV} {x : Option Nat} {st : List zV} {w : zW} {Q : Option zV → zW → Prop}  : zR 155 597 [l0, some (.inr x), l2, l3] st w Q = zR 155 598 [l0, some (.inr x), l2, l3] (.inr x :: st) w Q := zR_go (zst zT_155_597 rfl)
theorem zT_155_598 : zT 155 598 = some (.aload_n 0, 1, 0, []) := by decide +kernel
theorem zr_155_598 {l1 l2 l3 : Option zV} {x : Option Nat} {st : List zV} {w : zW} {Q : Option zV → zW → Prop}  : zR 155 598 [some (.inr x), l1, l2, l3] st w Q = zR 155 599 [some (.inr x), l1, l2, l3] (.inr x :: st) w Q := zR_go (zst zT_155_598 rfl)
theorem zT_155_599 : zT 155 599 = some (.iload_n 3, 1, 0, []) := by decide +kernel
theorem zr_155_599 {l0 l1 l2 : Option zV} {x : Int} {st : List zV} {w : zW} {Q : Option zV → zW → Prop}  : zR 155 599 [l0, l1, l2, some (.inl x)] st w Q = zR 155 600 [l0, l1, l2, some (.inl x)] (.inl x :: st) w Q := zR_go (zst zT_155_599 rfl)
theorem zT_155_600 : zT 155 600 = some (.iconst 1, 1, 0, []) := by decide +kernel
theorem zr_155_600 {l0 l1 l2 l3 : Option zV} {st : List zV} {w : zW} {Q : Option zV → zW → Prop}  : zR 155 600 [l0, l1, l2, l3] st w Q = zR 155 601 [l0, l1, l2, l3] (.inl 1 :: st) w Q := zR_go (zst zT_155_600 rfl)
theorem zT_155_601 : zT 155 601 = some (.iadd, 1, 0, []) := by decide +kernel
theorem zr_155_601 {l0 l1 l2 l3 : Option zV} {x y : Int} {st : List zV} {w : zW} {Q : Option zV → zW → Prop}  : zR 155 601 [l0, l1, l2, l3] (.inl y :: .inl x :: st) w Q = zR 155 602 [l0, l1, l2, l3] (.inl (x + y) :: st) w Q := zR_go (zst zT_155_601 rfl)
theorem zT_155_602 : zT 155 602 = some (.iaload, 1, 0, []) := by decide +kernel
theorem zr_155_602 {l0 l1 l2 l3 : Option zV} {j : Int} {h : Nat} {st : List zV} {w : zW} {Q : Option zV → zW → Prop} (hk : (zk w h = zNC ∨ zk w h = zNC + 2) ∧ 0 ≤ zN j ∧ zN j < zl w h) : zR 155 602 [l0, l1, l2, l3] (.inl j :: .inr (some h) :: st) w Q = zR 155 603 [l0, l1, l2, l3] (.inl (za w h (zN j).toNat) :: st) w Q := zR_go (zst zT_155_602 (if_pos hk))
theorem zT_155_603 : zT 155 603 = some (.aload_n 0, 1, 0, []) := by decide +kernel
theorem zr_155_603 {l1 l2 l3 : Option zV} {x : Option Nat} {st : List zV} {w : zW} {Q : Option zV → zW → Prop}  : zR 155 603 [some (.inr x), l1, l2, l3] st w Q = zR 155 604 [some (.inr x), l1, l2, l3] (.inr x :: st) w Q := zR_go (zst zT_155_603 rfl)
theorem zT_155_604 : zT 155 604 = some (.iload_n 3, 1, 0, []) := by decide +kernel
theorem zr_155_604 {l0 l1 l2 : Option zV} {x : Int} {st : List zV} {w : zW} {Q : Option zV → zW → Prop}  : zR 155 604 [l0, l1, l2, some (.inl x)] st w Q = zR 155 605 [l0, l1, l2, some (.inl x)] (.inl x :: st) w Q := zR_go (zst zT_155_604 rfl)
theorem zT_155_605 : zT 155 605 = some (.iconst 2, 1, 0, []) := by decide +kernel
theorem zr_155_605 {l0 l1 l2 l3 : Option zV} {st : List zV} {w : zW} {Q : Option zV → zW → Prop}  : zR 155 605 [l0, l1, l2, l3] st w Q = zR 155 606 [l0, l1, l2, l3] (.inl 2 :: st) w Q := zR_go (zst zT_155_605 rfl)
theorem zT_155_606 : zT 155 606 = some (.iadd, 1, 0, []) := by decide +kernel
theorem zr_155_606 {l0 l1 l2 l3 : Option zV} {x y : Int} {st : List zV} {w : zW} {Q : Option zV → zW → Prop}  : zR 155 606 [l0, l1, l2, l3] (.inl y :: .inl x :: st) w Q = zR 155 607 [l0, l1, l2, l3] (.inl (x + y) :: st) w Q := zR_go (zst zT_155_606 rfl)
theorem zT_155_607 : zT 155 607 = some (.iaload, 1, 0, []) := by decide +kernel
theorem zr_155_607 {l0 l1 l2 l3 : Option zV} {j : Int} {h : Nat} {st : List zV} {w : zW} {Q : Option zV → zW → Prop} (hk : (zk w h = zNC ∨ zk w h = zNC + 2) ∧ 0 ≤ zN j ∧ zN j < zl w h) : zR 155 607 [l0, l1, l2, l3] (.inl j :: .inr (some h) :: st) w Q = zR 155 608 [l0, l1, l2, l3] (.inl (za w h (zN j).toNat) :: st) w Q := zR_go (zst zT_155_607 (if_pos hk))
theorem zT_155_608 : zT 155 608 = some (.invokevirtual 78, 3, 2, [(0, 16)]) := by decide +kernel
theorem zr_155_608 {l0 l1 l2 l3 : Option zV} {a0 a1 : zV} {h : Nat} {st : List zV} {w : zW} {Q : Option zV → zW → Prop} (hs : st.length ≤ 8) (hk : zk w h = 0) : zR 155 608 [l0, l1, l2, l3] (a1 :: a0 :: .inr (some h) :: st) w Q = zR 16 0 [some (.inr (some h)), some a0, some a1, none] [] w (fun r w2 => zR 155 611 [l0, l1, l2, l3] (r.toList ++ st) w2 Q) := zR_call (zst zT_155_608 (zcall_v [a1, a0] rfl hs hk rfl))
theorem zT_155_611 : zT 155 611 = some (.aload_n 2, 1, 0, []) := by decide +kernel
theorem zr_155_611 {l0 l1 l3 : Option zV} {x : Option Nat} {st : List zV} {w : zW} {Q : Option zV → zW → Prop}  : zR 155 611 [l0, l1, some (.inr x), l3] st w Q = zR 155 612 [l0, l1, some (.inr x), l3] (.inr x :: st) w Q := zR_go (zst zT_155_611 rfl)
theorem zT_155_612 : zT 155 612 = some (.aload_n 0, 1, 0, []) := by decide +kernel
theorem zr_155_612 {l1 l2 l3 : Option zV} {x : Option Nat} {st : List zV} {w : zW} {Q : Option zV → zW → Prop}  : zR 155 612 [some (.inr x), l1, l2, l3] st w Q = zR 155 613 [some (.inr x), l1, l2, l3] (.inr x :: st) w Q := zR_go (zst zT_155_612 rfl)
theorem zT_155_613 : zT 155 613 = some (.iload_n 3, 1, 0, []) := by decide +kernel
theorem zr_155_613 {l0 l1 l2 : Option zV} {x : Int} {st : List zV} {w : zW} {Q : Option zV → zW → Prop}  : zR 155 613 [l0, l1, l2, some (.inl x)] st w Q = zR 155 614 [l0, l1, l2, some (.inl x)] (.inl x :: st) w Q := zR_go (zst zT_155_613 rfl)
theorem zT_155_614 : zT 155 614 = some (.iconst 1, 1, 0, []) := by decide +kernel
theorem zr_155_614 {l0 l1 l2 l3 : Option zV} {st : List zV} {w : zW} {Q : Option zV → zW → Prop}  : zR 155 614 [l0, l1, l2, l3] st w Q = zR 155 615 [l0, l1, l2, l3] (.inl 1 :: st) w Q := zR_go (zst zT_155_614 rfl)
theorem zT_155_615 : zT 155 615 = some (.iadd, 1, 0, []) := by decide +kernel
theorem zr_155_615 {l0 l1 l2 l3 : Option zV} {x y : Int} {st : List zV} {w : zW} {Q : Option zV → zW → Prop}  : zR 155 615 [l0, l1, l2, l3] (.inl y :: .inl x :: st) w Q = zR 155 616 [l0, l1, l2, l3] (.inl (x + y) :: st) w Q := zR_go (zst zT_155_615 rfl)
theorem zT_155_616 : zT 155 616 = some (.iaload, 1, 0, []) := by decide +kernel
theorem zr_155_616 {l0 l1 l2 l3 : Option zV} {j : Int} {h : Nat} {st : List zV} {w : zW} {Q : Option zV → zW → Prop} (hk : (zk w h = zNC ∨ zk w h = zNC + 2) ∧ 0 ≤ zN j ∧ zN j < zl w h) : zR 155 616 [l0, l1, l2, l3] (.inl j :: .inr (some h) :: st) w Q = zR 155 617 [l0, l1, l2, l3] (.inl (za w h (zN j).toNat) :: st) w Q := zR_go (zst zT_155_616 (if_pos hk))
theorem zT_155_617 : zT 155 617 = some (.aload_n 0, 1, 0, []) := by decide +kernel
theorem zr_155_617 {l1 l2 l3 : Option zV} {x : Option Nat} {st : List zV} {w : zW} {Q : Option zV → zW → Prop}  : zR 155 617 [some (.inr x), l1, l2, l3] st w Q = zR 155 618 [some (.inr x), l1, l2, l3] (.inr x :: st) w Q := zR_go (zst zT_155_617 rfl)
theorem zT_155_618 : zT 155 618 = some (.iload_n 3, 1, 0, []) := by decide +kernel
theorem zr_155_618 {l0 l1 l2 : Option zV} {x : Int} {st : List zV} {w : zW} {Q : Option zV → zW → Prop}  : zR 155 618 [l0, l1, l2, some (.inl x)] st w Q = zR 155 619 [l0, l1, l2, some (.inl x)] (.inl x :: st) w Q := zR_go (zst zT_155_618 rfl)
theorem zT_155_619 : zT 155 619 = some (.iconst 2, 1, 0, []) := by decide +kernel
theorem zr_155_619 {l0 l1 l2 l3 : Option zV} {st : List zV} {w : zW} {Q : Option zV → zW → Prop}  : zR 155 619 [l0, l1, l2, l3] st w Q = zR 155 620 [l0, l1, l2, l3] (.inl 2 :: st) w Q := zR_go (zst zT_155_619 rfl)
theorem zT_155_620 : zT 155 620 = some (.iadd, 1, 0, []) := by decide +kernel
theorem zr_155_620 {l0 l1 l2 l3 : Option zV} {x y : Int} {st : List zV} {w : zW} {Q : Option zV → zW → Prop}  : zR 155 620 [l0, l1, l2, l3] (.inl y :: .inl x :: st) w Q = zR 155 621 [l0, l1, l2, l3] (.inl (x + y) :: st) w Q := zR_go (zst zT_155_620 rfl)
theorem zT_155_621 : zT 155 621 = some (.iaload, 1, 0, []) := by decide +kernel
theorem zr_155_621 {l0 l1 l2 l3 : Option zV} {j : Int} {h : Nat} {st : List zV} {w : zW} {Q : Option zV → zW → Prop} (hk : (zk w h = zNC ∨ zk w h = zNC + 2) ∧ 0 ≤ zN j ∧ zN j < zl w h) : zR 155 621 [l0, l1, l2, l3] (.inl j :: .inr (some h) :: st) w Q = zR 155 622 [l0, l1, l2, l3] (.inl (za w h (zN j).toNat) :: st) w Q := zR_go (zst zT_155_621 (if_pos hk))
theorem zT_155_622 : zT 155 622 = some (.invokevirtual 81, 3, 2, [(11, 73)]) := by decide +kernel
theorem zr_155_622 {l0 l1 l2 l3 : Option zV} {a0 a1 : zV} {h : Nat} {st : List zV} {w : zW} {Q : Option zV → zW → Prop} (hs : st.length ≤ 8) (hk : zk w h = 11) : zR 155 622 [l0, l1, l2, l3] (a1 :: a0 :: .inr (some h) :: st) w Q = zR 73 0 [some (.inr (some h)), some a0, some a1] [] w (fun r w2 => zR 155 625 [l0, l1, l2, l3] (r.toList ++ st) w2 Q) := zR_call (zst zT_155_622 (zcall_v [a1, a0] rfl hs hk rfl))
theorem zT_155_625 : zT 155 625 = some (.if_icmp .eq 5, 3, 0, []) := by decide +kernel
theorem zr_155_625 {l0 l1 l2 l3 : Option zV} {x y : Int} {st : List zV} {w : zW} {Q : Option zV → zW → Prop}  : zR 155 625 [l0, l1, l2, l3] (.inl y :: .inl x :: st) w Q = (if zN x = zN y then zR 155 630 [l0, l1, l2, l3] st w Q else zR 155 628 [l0, l1, l2, l3] st w Q) := zR_if (zstB zT_155_625 rfl) (by simp [zcmp])
theorem zT_155_628 : zT 155 628 = some (.iconst 0, 1, 0, []) := by decide +kernel
theorem zr_155_628 {l0 l1 l2 l3 : Option zV} {st : List zV} {w : zW} {Q : Option zV → zW → Prop}  : zR 155 628 [l0, l1, l2, l3] st w Q = zR 155 629 [l0, l1, l2, l3] (.inl 0 :: st) w Q := zR_go (zst zT_155_628 rfl)
theorem zT_155_629 : zT 155 629 = some (.ireturn, 1, 0, []) := by decide +kernel
theorem zr_155_629 {l0 l1 l2 l3 : Option zV} {x : Int} {w : zW} {Q : Option zV → zW → Prop} (hx : zN x = 0 ∨ zN x = 1) : zR 155 629 [l0, l1, l2, l3] [.inl x] w Q = Q (some (.inl x)) w := zR_ret (zst zT_155_629 (if_pos (Or.inr ⟨rfl, hx⟩)))
theorem zT_155_630 : zT 155 630 = some (.iinc 3 4, 3, 0, []) := by decide +kernel
theorem zr_155_630 {l0 l1 l2 : Option zV} {x : Int} {st : List zV} {w : zW} {Q : Option zV → zW → Prop}  : zR 155 630 [l0, l1, l2, some (.inl x)] st w Q = zR 155 633 [l0, l1, l2, some (.inl (x + 4))] st w Q := zR_go (zst zT_155_630 rfl)
theorem zT_155_633 : zT 155 633 = some (.goto (-615), 3, 0, []) := by decide +kernel
theorem zr_155_633 {l0 l1 l2 l3 : Option zV} {st : List zV} {w : zW} {Q : Option zV → zW → Prop}  : zR 155 633 [l0, l1, l2, l3] st w Q = zR 155 18 [l0, l1, l2, l3] st w Q := zR_go (zst zT_155_633 rfl)
theorem zT_155_636 : zT 155 636 = some (.iconst 1, 1, 0, []) := by decide +kernel
theorem zr_155_636 {l0 l1 l2 l3 : Option zV} {st : List zV} {w : zW} {Q : Option zV → zW → Prop}  : zR 155 636 [l0, l1, l2, l3] st w Q = zR 155 637 [l0, l1, l2, l3] (.inl 1 :: st) w Q := zR_go (zst zT_155_636 rfl)
theorem zT_155_637 : zT 155 637 = some (.ireturn, 1, 0, []) := by decide +kernel
theorem zr_155_637 {l0 l1 l2 l3 : Option zV} {x : Int} {w : zW} {Q : Option zV → zW → Prop} (hx : zN x = 0 ∨ zN x = 1) : zR 155 637 [l0, l1, l2, l3] [.inl x] w Q = Q (some (.inl x)) w := zR_ret (zst zT_155_637 (if_pos (Or.inr ⟨rfl, hx⟩)))
theorem zT_156_0 : zT 156 0 = some (.iload_n 1, 1, 0, []) := by decide +kernel
theorem zr_156_0 {l0 l2 : Option zV} {x : Int} {st : List zV} {w : zW} {Q : Option zV → zW → Prop}  : zR 156 0 [l0, some (.inl x), l2] st w Q = zR 156 1 [l0, some (.inl x), l2] (.inl x :: st) w Q := zR_go (zst zT_156_0 rfl)
theorem zT_156_1 : zT 156 1 = some (.aload_n 0, 1, 0, []) := by decide +kernel
theorem zr_156_1 {l1 l2 : Option zV} {x : Option Nat} {st : List zV} {w : zW} {Q : Option zV → zW → Prop}  : zR 156 1 [some (.inr x), l1, l2] st w Q = zR 156 2 [some (.inr x), l1, l2] (.inr x :: st) w Q := zR_go (zst zT_156_1 rfl)
theorem zT_156_2 : zT 156 2 = some (.arraylength, 1, 0, []) := by decide +kernel
theorem zr_156_2 {l0 l1 l2 : Option zV} {h : Nat} {st : List zV} {w : zW} {Q : Option zV → zW → Prop} (hk : zNC ≤ zk w h ∧ zk w h < 1000) : zR 156 2 [l0, l1, l2] (.inr (some h) :: st) w Q = zR 156 3 [l0, l1, l2] (.inl (zl w h : Int) :: st) w Q := zR_go (zst zT_156_2 (if_pos hk))
theorem zT_156_3 : zT 156 3 = some (.if_icmp .ne 11, 3, 0, []) := by decide +kernel
theorem zr_156_3 {l0 l1 l2 : Option zV} {x y : Int} {st : List zV} {w : zW} {Q : Option zV → zW → Prop}  : zR 156 3 [l0, l1, l2] (.inl y :: .inl x :: st) w Q = (if zN x ≠ zN y then zR 156 14 [l0, l1, l2] st w Q else zR 156 6 [l0, l1, l2] st w Q) := zR_if (zstB zT_156_3 rfl) (by simp [zcmp])
theorem zT_156_6 : zT 156 6 = some (.aload_n 0, 1, 0, []) := by decide +kernel
theorem zr_156_6 {l1 l2 : Option zV} {x : Option Nat} {st : List zV} {w : zW} {Q : Option zV → zW → Prop}  : zR 156 6 [some (.inr x), l1, l2] st w Q = zR 156 7 [some (.inr x), l1, l2] (.inr x :: st) w Q := zR_go (zst zT_156_6 rfl)
theorem zT_156_7 : zT 156 7 = some (.invokevirtual 316, 3, (-1), []) := by decide +kernel
theorem zr_156_7 {l0 l1 l2 : Option zV} {h : Nat} {st : List zV} {w : zW} {Q : Option zV → zW → Prop} (hk : zk w h = zNC ∧ st.length ≤ 8) : zR 156 7 [l0, l1, l2] (.inr (some h) :: st) w Q = zR 156 10 [l0, l1, l2] (.inr (some (zn w + 1)) :: st) (zclone w h) Q := zR_go (zst zT_156_7 (if_pos hk))
theorem zT_156_10 : zT 156 10 = some (.checkcast 317, 3, 0, []) := by decide +kernel
theorem zr_156_10 {l0 l1 l2 : Option zV} {h : Nat} {st : List zV} {w : zW} {Q : Option zV → zW → Prop} (hk : zk w h = zNC) : zR 156 10 [l0, l1, l2] (.inr (some h) :: st) w Q = zR 156 13 [l0, l1, l2] (.inr (some h) :: st) w Q := zR_go (zst zT_156_10 (if_pos hk))
theorem zT_156_13 : zT 156 13 = some (.areturn, 1, 0, []) := by decide +kernel
theorem zr_156_13 {l0 l1 l2 : Option zV} {x : Option Nat} {w : zW} {Q : Option zV → zW → Prop} : zR 156 13 [l0, l1, l2] [.inr x] w Q = Q (some (.inr x)) w := zR_ret (zst zT_156_13 rfl)
theorem zT_156_14 : zT 156 14 = some (.iload_n 1, 1, 0, []) := by decide +kernel
theorem zr_156_14 {l0 l2 : Option zV} {x : Int} {st : List zV} {w : zW} {Q : Option zV → zW → Prop}  : zR 156 14 [l0, some (.inl x), l2] st w Q = zR 156 15 [l0, some (.inl x), l2] (.inl x :: st) w Q := zR_go (zst zT_156_14 rfl)
theorem zT_156_15 : zT 156 15 = some (.newarray .int, 2, 0, []) := by decide +kernel
theorem zr_156_15 {l0 l1 l2 : Option zV} {x : Int} {st : List zV} {w : zW} {Q : Option zV → zW → Prop} (hk : 0 ≤ zN x ∧ zN x ≤ 1000000) : zR 156 15 [l0, l1, l2] (.inl x :: st) w Q = zR 156 17 [l0, l1, l2] (.inr (some (zn w + 1)) :: st) (znew w zNC (zN x).toNat) Q := zR_go (zst zT_156_15 (if_pos hk))
theorem zT_156_17 : zT 156 17 = some (.astore_n 2, 1, 0, []) := by decide +kernel
theorem zr_156_17 {l0 l1 l2 : Option zV} {x : Option Nat} {st : List zV} {w : zW} {Q : Option zV → zW → Prop}  : zR 156 17 [l0, l1, l2] (.inr x :: st) w Q = zR 156 18 [l0, l1, some (.inr x)] st w Q := zR_go (zst zT_156_17 rfl)
theorem zT_156_18 : zT 156 18 = some (.aload_n 0, 1, 0, []) := by decide +kernel
theorem zr_156_18 {l1 l2 : Option zV} {x : Option Nat} {st : List zV} {w : zW} {Q : Option zV → zW → Prop}  : zR 156 18 [some (.inr x), l1, l2] st w Q = zR 156 19 [some (.inr x), l1, l2] (.inr x :: st) w Q := zR_go (zst zT_156_18 rfl)
theorem zT_156_19 : zT 156 19 = some (.iconst 0, 1, 0, []) := by decide +kernel
theorem zr_156_19 {l0 l1 l2 : Option zV} {st : List zV} {w : zW} {Q : Option zV → zW → Prop}  : zR 156 19 [l0, l1, l2] st w Q = zR 156 20 [l0, l1, l2] (.inl 0 :: st) w Q := zR_go (zst zT_156_19 rfl)
theorem zT_156_20 : zT 156 20 = some (.aload_n 2, 1, 0, []) := by decide +kernel
theorem zr_156_20 {l0 l1 : Option zV} {x : Option Nat} {st : List zV} {w : zW} {Q : Option zV → zW → Prop}  : zR 156 20 [l0, l1, some (.inr x)] st w Q = zR 156 21 [l0, l1, some (.inr x)] (.inr x :: st) w Q := zR_go (zst zT_156_20 rfl)
theorem zT_156_21 : zT 156 21 = some (.iconst 0, 1, 0, []) := by decide +kernel
theorem zr_156_21 {l0 l1 l2 : Option zV} {st : List zV} {w : zW} {Q : Option zV → zW → Prop}  : zR 156 21 [l0, l1, l2] st w Q = zR 156 22 [l0, l1, l2] (.inl 0 :: st) w Q := zR_go (zst zT_156_21 rfl)
theorem zT_156_22 : zT 156 22 = some (.aload_n 0, 1, 0, []) := by decide +kernel
theorem zr_156_22 {l1 l2 : Option zV} {x : Option Nat} {st : List zV} {w : zW} {Q : Option zV → zW → Prop}  : zR 156 22 [some (.inr x), l1, l2] st w Q = zR 156 23 [some (.inr x), l1, l2] (.inr x :: st) w Q := zR_go (zst zT_156_22 rfl)
theorem zT_156_23 : zT 156 23 = some (.arraylength, 1, 0, []) := by decide +kernel
theorem zr_156_23 {l0 l1 l2 : Option zV} {h : Nat} {st : List zV} {w : zW} {Q : Option zV → zW → Prop} (hk : zNC ≤ zk w h ∧ zk w h < 1000) : zR 156 23 [l0, l1, l2] (.inr (some h) :: st) w Q = zR 156 24 [l0, l1, l2] (.inl (zl w h : Int) :: st) w Q := zR_go (zst zT_156_23 (if_pos hk))
theorem zT_156_24 : zT 156 24 = some (.iload_n 1, 1, 0, []) := by decide +kernel
theorem zr_156_24 {l0 l2 : Option zV} {x : Int} {st : List zV} {w : zW} {Q : Option zV → zW → Prop}  : zR 156 24 [l0, some (.inl x), l2] st w Q = zR 156 25 [l0, some (.inl x), l2] (.inl x :: st) w Q := zR_go (zst zT_156_24 rfl)
theorem zT_156_25 : zT 156 25 = some (.invokestatic 304, 3, 2, [(1, 0)]) := by decide +kernel
theorem zr_156_25 {l0 l1 l2 : Option zV} {x y : Int} {st : List zV} {w : zW} {Q : Option zV → zW → Prop} (hk : st.length ≤ 8) : zR 156 25 [l0, l1, l2] (.inl y :: .inl x :: st) w Q = zR 156 28 [l0, l1, l2] (.inl (if zN y < zN x then y else x) :: st) w Q := zR_go (zst zT_156_25 (if_pos hk))
theorem zT_156_28 : zT 156 28 = some (.invokestatic 150, 3, 5, [(0, 0)]) := by decide +kernel
theorem zr_156_28 {l0 l1 l2 : Option zV} {n dp sp : Int} {g h : Nat} {st : List zV} {w : zW} {Q : Option zV → zW → Prop} (hk : zk w h = zNC ∧ zk w g = zNC ∧ 0 ≤ zN sp ∧ 0 ≤ zN dp ∧ 0 ≤ zN n ∧ zN sp + zN n ≤ zl w h ∧ zN dp + zN n ≤ zl w g ∧ st.length ≤ 8) : zR 156 28 [l0, l1, l2] (.inl n :: .inl dp :: .inr (some g) :: .inl sp :: .inr (some h) :: st) w Q = zR 156 31 [l0, l1, l2] st (zcp w h (zN sp).toNat g (zN dp).toNat (zN n).toNat) Q := zR_go (zst zT_156_28 (if_pos hk))
theorem zT_156_31 : zT 156 31 = some (.aload_n 2, 1, 0, []) := by decide +kernel
theorem zr_156_31 {l0 l1 : Option zV} {x : Option Nat} {st : List zV} {w : zW} {Q : Option zV → zW → Prop}  : zR 156 31 [l0, l1, some (.inr x)] st w Q = zR 156 32 [l0, l1, some (.inr x)] (.inr x :: st) w Q := zR_go (zst zT_156_31 rfl)
theorem zT_156_32 : zT 156 32 = some (.areturn, 1, 0, []) := by decide +kernel
theorem zr_156_32 {l0 l1 l2 : Option zV} {x : Option Nat} {w : zW} {Q : Option zV → zW → Prop} : zR 156 32 [l0, l1, l2] [.inr x] w Q = Q (some (.inr x)) w := zR_ret (zst zT_156_32 rfl)
theorem zT_157_0 : zT 157 0 = some (.iconst 0, 1, 0, []) := by decide +kernel
theorem zr_157_0 {l0 l1 l2 l3 : Option zV} {st : List zV} {w : zW} {Q : Option zV → zW → Prop}  : zR 157 0 [l0, l1, l2, l3] st w Q = zR 157 1 [l0, l1, l2, l3] (.inl 0 :: st) w Q := zR_go (zst zT_157_0 rfl)
theorem zT_157_1 : zT 157 1 = some (.istore_n 2, 1, 0, []) := by decide +kernel
theorem zr_157_1 {l0 l1 l2 l3 : Option zV} {x : Int} {st : List zV} {w : zW} {Q : Option zV → zW → Prop}  : zR 157 1 [l0, l1, l2, l3] (.inl x :: st) w Q = zR 157 2 [l0, l1, some (.inl x), l3] st w Q := zR_go (zst zT_157_1 rfl)
theorem zT_157_2 : zT 157 2 = some (.aload_n 0, 1, 0, []) := by decide +kernel
theorem zr_157_2 {l1 l2 l3 : Option zV} {x : Option Nat} {st : List zV} {w : zW} {Q : Option zV → zW → Prop}  : zR 157 2 [some (.inr x), l1, l2, l3] st w Q = zR 157 3 [some (.inr x), l1, l2, l3] (.inr x :: st) w Q := zR_go (zst zT_157_2 rfl)
theorem zT_157_3 : zT 157 3 = some (.arraylength, 1, 0, []) := by decide +kernel
theorem zr_157_3 {l0 l1 l2 l3 : Option zV} {h : Nat} {st : List zV} {w : zW} {Q : Option zV → zW → Prop} (hk : zNC ≤ zk w h ∧ zk w h < 1000) : zR 157 3 [l0, l1, l2, l3] (.inr (some h) :: st) w Q = zR 157 4 [l0, l1, l2, l3] (.inl (zl w h : Int) :: st) w Q := zR_go (zst zT_157_3 (if_pos hk))
theorem zT_157_4 : zT 157 4 = some (.istore_n 3, 1, 0, []) := by decide +kernel
theorem zr_157_4 {l0 l1 l2 l3 : Option zV} {x : Int} {st : List zV} {w : zW} {Q : Option zV → zW → Prop}  : zR 157 4 [l0, l1, l2, l3] (.inl x :: st) w Q = zR 157 5 [l0, l1, l2, some (.inl x)] st w Q := zR_go (zst zT_157_4 rfl)
theorem zT_157_5 : zT 157 5 = some (.iload_n 2, 1, 0, []) := by decide +kernel
theorem zr_157_5 {l0 l1 l3 : Option zV} {x : Int} {st : List zV} {w : zW} {Q : Option zV → zW → Prop}  : zR 157 5 [l0, l1, some (.inl x), l3] st w Q = zR 157 6 [l0, l1, some (.inl x), l3] (.inl x :: st) w Q := zR_go (zst zT_157_5 rfl)
theorem zT_157_6 : zT 157 6 = some (.iload_n 3, 1, 0, []) := by decide +kernel
theorem zr_157_6 {l0 l1 l2 : Option zV} {x : Int} {st : List zV} {w : zW} {Q : Option zV → zW → Prop}  : zR 157 6 [l0, l1, l2, some (.inl x)] st w Q = zR 157 7 [l0, l1, l2, some (.inl x)] (.inl x :: st) w Q := zR_go (zst zT_157_6 rfl)
theorem zT_157_7 : zT 157 7 = some (.if_icmp .ge 13, 3, 0, []) := by decide +kernel
theorem zr_157_7 {l0 l1 l2 l3 : Option zV} {x y : Int} {st : List zV} {w : zW} {Q : Option zV → zW → Prop}  : zR 157 7 [l0, l1, l2, l3] (.inl y :: .inl x :: st) w Q = (if zN y ≤ zN x then zR 157 20 [l0, l1, l2, l3] st w Q else zR 157 10 [l0, l1, l2, l3] st w Q) := zR_if (zstB zT_157_7 rfl) (by simp [zcmp])
theorem zT_157_10 : zT 157 10 = some (.aload_n 0, 1, 0, []) := by decide +kernel
theorem zr_157_10 {l1 l2 l3 : Option zV} {x : Option Nat} {st : List zV} {w : zW} {Q : Option zV → zW → Prop}  : zR 157 10 [some (.inr x), l1, l2, l3] st w Q = zR 157 11 [some (.inr x), l1, l2, l3] (.inr x :: st) w Q := zR_go (zst zT_157_10 rfl)
theorem zT_157_11 : zT 157 11 = some (.iload_n 2, 1, 0, []) := by decide +kernel
theorem zr_157_11 {l0 l1 l3 : Option zV} {x : Int} {st : List zV} {w : zW} {Q : Option zV → zW → Prop}  : zR 157 11 [l0, l1, some (.inl x), l3] st w Q = zR 157 12 [l0, l1, some (.inl x), l3] (.inl x :: st) w Q := zR_go (zst zT_157_11 rfl)
theorem zT_157_12 : zT 157 12 = some (.iload_n 1, 1, 0, []) := by decide +kernel
theorem zr_157_12 {l0 l2 l3 : Option zV} {x : Int} {st : List zV} {w : zW} {Q : Option zV → zW → Prop}  : zR 157 12 [l0, some (.inl x), l2, l3] st w Q = zR 157 13 [l0, some (.inl x), l2, l3] (.inl x :: st) w Q := zR_go (zst zT_157_12 rfl)
theorem zT_157_13 : zT 157 13 = some (.iastore, 1, 0, []) := by decide +kernel
theorem zr_157_13 {l0 l1 l2 l3 : Option zV} {j x : Int} {h : Nat} {st : List zV} {w : zW} {Q : Option zV → zW → Prop} (hk : zk w h = zNC ∧ 0 ≤ zN j ∧ zN j < zl w h) : zR 157 13 [l0, l1, l2, l3] (.inl x :: .inl j :: .inr (some h) :: st) w Q = zR 157 14 [l0, l1, l2, l3] st (zsa w h (zN j).toNat x) Q := zR_go (zst zT_157_13 (if_pos hk))
theorem zT_157_14 : zT 157 14 = some (.iinc 2 1, 3, 0, []) := by decide +kernel
theorem zr_157_14 {l0 l1 l3 : Option zV} {x : Int} {st : List zV} {w : zW} {Q : Option zV → zW → Prop}  : zR 157 14 [l0, l1, some (.inl x), l3] st w Q = zR 157 17 [l0, l1, some (.inl (x + 1)), l3] st w Q := zR_go (zst zT_157_14 rfl)
theorem zT_157_17 : zT 157 17 = some (.goto (-12), 3, 0, []) := by decide +kernel
theorem zr_157_17 {l0 l1 l2 l3 : Option zV} {st : List zV} {w : zW} {Q : Option zV → zW → Prop}  : zR 157 17 [l0, l1, l2, l3] st w Q = zR 157 5 [l0, l1, l2, l3] st w Q := zR_go (zst zT_157_17 rfl)
theorem zT_157_20 : zT 157 20 = some (.return_, 1, 0, []) := by decide +kernel
theorem zr_157_20 {l0 l1 l2 l3 : Option zV} {w : zW} {Q : Option zV → zW → Prop} : zR 157 20 [l0, l1, l2, l3] [] w Q = Q none w := zR_ret (zst zT_157_20 rfl)
theorem zT_123_0 : zT 123 0 = some (.aload_n 0, 1, 0, []) := by decide +kernel
theorem zr_123_0 {l1 : Option zV} {x : Option Nat} {st : List zV} {w : zW} {Q : Option zV → zW → Prop}  : zR 123 0 [some (.inr x), l1] st w Q = zR 123 1 [some (.inr x), l1] (.inr x :: st) w Q := zR_go (zst zT_123_0 rfl)
theorem zT_123_1 : zT 123 1 = some (.invokespecial 3, 3, 0, []) := by decide +kernel
theorem zr_123_1 {l0 l1 : Option zV} {h : Nat} {st : List zV} {w : zW} {Q : Option zV → zW → Prop} (hk : st.length ≤ 8) : zR 123 1 [l0, l1] (.inr (some h) :: st) w Q = zR 123 4 [l0, l1] st w Q := zR_go (zst zT_123_1 (if_pos hk))
theorem zT_123_4 : zT 123 4 = some (.aload_n 0, 1, 0, []) := by decide +kernel
theorem zr_123_4 {l1 : Option zV} {x : Option Nat} {st : List zV} {w : zW} {Q : Option zV → zW → Prop}  : zR 123 4 [some (.inr x), l1] st w Q = zR 123 5 [some (.inr x), l1] (.inr x :: st) w Q := zR_go (zst zT_123_4 rfl)
theorem zT_123_5 : zT 123 5 = some (.bipush 32, 2, 0, []) := by decide +kernel
theorem zr_123_5 {l0 l1 : Option zV} {st : List zV} {w : zW} {Q : Option zV → zW → Prop}  : zR 123 5 [l0, l1] st w Q = zR 123 7 [l0, l1] (.inl 32 :: st) w Q := zR_go (zst zT_123_5 rfl)
theorem zT_123_7 : zT 123 7 = some (.newarray .int, 2, 0, []) := by decide +kernel
theorem zr_123_7 {l0 l1 : Option zV} {x : Int} {st : List zV} {w : zW} {Q : Option zV → zW → Prop} (hk : 0 ≤ zN x ∧ zN x ≤ 1000000) : zR 123 7 [l0, l1] (.inl x :: st) w Q = zR 123 9 [l0, l1] (.inr (some (zn w + 1)) :: st) (znew w zNC (zN x).toNat) Q := zR_go (zst zT_123_7 (if_pos hk))
theorem zT_123_9 : zT 123 9 = some (.putfield 9, 3, 0, [(9, 3)]) := by decide +kernel
theorem zr_123_9 {l0 l1 : Option zV} {h : Nat} {x : Option Nat} {st : List zV} {w : zW} {Q : Option zV → zW → Prop} (hk : zk w h = 9) : zR 123 9 [l0, l1] (.inr x :: .inr (some h) :: st) w Q = zR 123 12 [l0, l1] st (zsp w 61 h x) Q := zR_go (zst zT_123_9 (zput_r hk rfl))
theorem zT_123_12 : zT 123 12 = some (.aload_n 0, 1, 0, []) := by decide +kernel
theorem zr_123_12 {l1 : Option zV} {x : Option Nat} {st : List zV} {w : zW} {Q : Option zV → zW → Prop}  : zR 123 12 [some (.inr x), l1] st w Q = zR 123 13 [some (.inr x), l1] (.inr x :: st) w Q := zR_go (zst zT_123_12 rfl)
theorem zT_123_13 : zT 123 13 = some (.iload_n 1, 1, 0, []) := by decide +kernel
theorem zr_123_13 {l0 : Option zV} {x : Int} {st : List zV} {w : zW} {Q : Option zV → zW → Prop}  : zR 123 13 [l0, some (.inl x)] st w Q = zR 123 14 [l0, some (.inl x)] (.inl x :: st) w Q := zR_go (zst zT_123_13 rfl)
theorem zT_123_14 : zT 123 14 = some (.putfield 15, 3, 0, [(9, 0)]) := by decide +kernel
theorem zr_123_14 {l0 l1 : Option zV} {h : Nat} {x : Int} {st : List zV} {w : zW} {Q : Option zV → zW → Prop} (hk : zk w h = 9) : zR 123 14 [l0, l1] (.inl x :: .inr (some h) :: st) w Q = zR 123 17 [l0, l1] st (zsf w 58 h x) Q := zR_go (zst zT_123_14 (zput_i hk rfl))
theorem zT_123_17 : zT 123 17 = some (.return_, 1, 0, []) := by decide +kernel
theorem zr_123_17 {l0 l1 : Option zV} {w : zW} {Q : Option zV → zW → Prop} : zR 123 17 [l0, l1] [] w Q = Q none w := zR_ret (zst zT_123_17 rfl)
theorem zT_134_0 : zT 134 0 = some (.aload_n 0, 1, 0, []) := by decide +kernel
theorem zr_134_0 {l1 l2 l3 : Option zV} {x : Option Nat} {st : List zV} {w : zW} {Q : Option zV → zW → Prop}  : zR 134 0 [some (.inr x), l1, l2, l3] st w Q = zR 134 1 [some (.inr x), l1, l2, l3] (.inr x :: st) w Q := zR_go (zst zT_134_0 rfl)
theorem zT_134_1 : zT 134 1 = some (.invokespecial 3, 3, 0, []) := by decide +kernel
theorem zr_134_1 {l0 l1 l2 l3 : Option zV} {h : Nat} {st : List zV} {w : zW} {Q : Option zV → zW → Prop} (hk : st.length ≤ 8) : zR 134 1 [l0, l1, l2, l3] (.inr (some h) :: st) w Q = zR 134 4 [l0, l1, l2, l3] st w Q := zR_go (zst zT_134_1 (if_pos hk))
theorem zT_134_4 : zT 134 4 = some (.aload_n 0, 1, 0, []) := by decide +kernel
theorem zr_134_4 {l1 l2 l3 : Option zV} {x : Option Nat} {st : List zV} {w : zW} {Q : Option zV → zW → Prop}  : zR 134 4 [some (.inr x), l1, l2, l3] st w Q = zR 134 5 [some (.inr x), l1, l2, l3] (.inr x :: st) w Q := zR_go (zst zT_134_4 rfl)
theorem zT_134_5 : zT 134 5 = some (.bipush 32, 2, 0, []) := by decide +kernel
theorem zr_134_5 {l0 l1 l2 l3 : Option zV} {st : List zV} {w : zW} {Q : Option zV → zW → Prop}  : zR 134 5 [l0, l1, l2, l3] st w Q = zR 134 7 [l0, l1, l2, l3] (.inl 32 :: st) w Q := zR_go (zst zT_134_5 rfl)
theorem zT_134_7 : zT 134 7 = some (.newarray .int, 2, 0, []) := by decide +kernel
theorem zr_134_7 {l0 l1 l2 l3 : Option zV} {x : Int} {st : List zV} {w : zW} {Q : Option zV → zW → Prop} (hk : 0 ≤ zN x ∧ zN x ≤ 1000000) : zR 134 7 [l0, l1, l2, l3] (.inl x :: st) w Q = zR 134 9 [l0, l1, l2, l3] (.inr (some (zn w + 1)) :: st) (znew w zNC (zN x).toNat) Q := zR_go (zst zT_134_7 (if_pos hk))
theorem zT_134_9 : zT 134 9 = some (.putfield 9, 3, 0, [(10, 3)]) := by decide +kernel
theorem zr_134_9 {l0 l1 l2 l3 : Option zV} {h : Nat} {x : Option Nat} {st : List zV} {w : zW} {Q : Option zV → zW → Prop} (hk : zk w h = 10) : zR 134 9 [l0, l1, l2, l3] (.inr x :: .inr (some h) :: st) w Q = zR 134 12 [l0, l1, l2, l3] st (zsp w 67 h x) Q := zR_go (zst zT_134_9 (zput_r hk rfl))
theorem zT_134_12 : zT 134 12 = some (.aload_n 0, 1, 0, []) := by decide +kernel
theorem zr_134_12 {l1 l2 l3 : Option zV} {x : Option Nat} {st : List zV} {w : zW} {Q : Option zV → zW → Prop}  : zR 134 12 [some (.inr x), l1, l2, l3] st w Q = zR 134 13 [some (.inr x), l1, l2, l3] (.inr x :: st) w Q := zR_go (zst zT_134_12 rfl)
theorem zT_134_13 : zT 134 13 = some (.iconst 1, 1, 0, []) := by decide +kernel
theorem zr_134_13 {l0 l1 l2 l3 : Option zV} {st : List zV} {w : zW} {Q : Option zV → zW → Prop}  : zR 134 13 [l0, l1, l2, l3] st w Q = zR 134 14 [l0, l1, l2, l3] (.inl 1 :: st) w Q := zR_go (zst zT_134_13 rfl)
theorem zT_134_14 : zT 134 14 = some (.putfield 15, 3, 0, [(10, 5)]) := by decide +kernel
theorem zr_134_14 {l0 l1 l2 l3 : Option zV} {h : Nat} {x : Int} {st : List zV} {w : zW} {Q : Option zV → zW → Prop} (hk : zk w h = 10) : zR 134 14 [l0, l1, l2, l3] (.inl x :: .inr (some h) :: st) w Q = zR 134 17 [l0, l1, l2, l3] st (zsf w 69 h x) Q := zR_go (zst zT_134_14 (zput_i hk rfl))
theorem zT_134_17 : zT 134 17 = some (.aload_n 0, 1, 0, []) := by decide +kernel
theorem zr_134_17 {l1 l2 l3 : Option zV} {x : Option Nat} {st : List zV} {w : zW} {Q : Option zV → zW → Prop}  : zR 134 17 [some (.inr x), l1, l2, l3] st w Q = zR 134 18 [some (.inr x), l1, l2, l3] (.inr x :: st) w Q := zR_go (zst zT_134_17 rfl)
theorem zT_134_18 : zT 134 18 = some (.bipush 30, 2, 0, []) := by decide +kernel
theorem zr_134_18 {l0 l1 l2 l3 : Option zV} {st : List zV} {w : zW} {Q : Option zV → zW → Prop}  : zR 134 18 [l0, l1, l2, l3] st w Q = zR 134 20 [l0, l1, l2, l3] (.inl 30 :: st) w Q := zR_go (zst zT_134_18 rfl)
theorem zT_134_20 : zT 134 20 = some (.putfield 19, 3, 0, [(10, 6)]) := by decide +kernel
theorem zr_134_20 {l0 l1 l2 l3 : Option zV} {h : Nat} {x : Int} {st : List zV} {w : zW} {Q : Option zV → zW → Prop} (hk : zk w h = 10) : zR 134 20 [l0, l1, l2, l3] (.inl x :: .inr (some h) :: st) w Q = zR 134 23 [l0, l1, l2, l3] st (zsf w 70 h x) Q := zR_go (zst zT_134_20 (zput_i hk rfl))
theorem zT_134_23 : zT 134 23 = some (.aload_n 0, 1, 0, []) := by decide +kernel
theorem zr_134_23 {l1 l2 l3 : Option zV} {x : Option Nat} {st : List zV} {w : zW} {Q : Option zV → zW → Prop}  : zR 134 23 [some (.inr x), l1, l2, l3] st w Q = zR 134 24 [some (.inr x), l1, l2, l3] (.inr x :: st) w Q := zR_go (zst zT_134_23 rfl)
theorem zT_134_24 : zT 134 24 = some (.iconst 1, 1, 0, []) := by decide +kernel
theorem zr_134_24 {l0 l1 l2 l3 : Option zV} {st : List zV} {w : zW} {Q : Option zV → zW → Prop}  : zR 134 24 [l0, l1, l2, l3] st w Q = zR 134 25 [l0, l1, l2, l3] (.inl 1 :: st) w Q := zR_go (zst zT_134_24 rfl)
theorem zT_134_25 : zT 134 25 = some (.putfield 22, 3, 0, [(10, 7)]) := by decide +kernel
theorem zr_134_25 {l0 l1 l2 l3 : Option zV} {h : Nat} {x : Int} {st : List zV} {w : zW} {Q : Option zV → zW → Prop} (hk : zk w h = 10) : zR 134 25 [l0, l1, l2, l3] (.inl x :: .inr (some h) :: st) w Q = zR 134 28 [l0, l1, l2, l3] st (zsf w 71 h x) Q := zR_go (zst zT_134_25 (zput_i hk rfl))
theorem zT_134_28 : zT 134 28 = some (.aload_n 0, 1, 0, []) := by decide +kernel
theorem zr_134_28 {l1 l2 l3 : Option zV} {x : Option Nat} {st : List zV} {w : zW} {Q : Option zV → zW → Prop}  : zR 134 28 [some (.inr x), l1, l2, l3] st w Q = zR 134 29 [some (.inr x), l1, l2, l3] (.inr x :: st) w Q := zR_go (zst zT_134_28 rfl)
theorem zT_134_29 : zT 134 29 = some (.iload_n 1, 1, 0, []) := by decide +kernel
theorem zr_134_29 {l0 l2 l3 : Option zV} {x : Int} {st : List zV} {w : zW} {Q : Option zV → zW → Prop}  : zR 134 29 [l0, some (.inl x), l2, l3] st w Q = zR 134 30 [l0, some (.inl x), l2, l3] (.inl x :: st) w Q := zR_go (zst zT_134_29 rfl)
theorem zT_134_30 : zT 134 30 = some (.putfield 25, 3, 0, [(10, 0)]) := by decide +kernel
theorem zr_134_30 {l0 l1 l2 l3 : Option zV} {h : Nat} {x : Int} {st : List zV} {w : zW} {Q : Option zV → zW → Prop} (hk : zk w h = 10) : zR 134 30 [l0, l1, l2, l3] (.inl x :: .inr (some h) :: st) w Q = zR 134 33 [l0, l1, l2, l3] st (zsf w 64 h x) Q := zR_go (zst zT_134_30 (zput_i hk rfl))
theorem zT_134_33 : zT 134 33 = some (.aload_n 0, 1, 0, []) := by decide +kernel
theorem zr_134_33 {l1 l2 l3 : Option zV} {x : Option Nat} {st : List zV} {w : zW} {Q : Option zV → zW → Prop}  : zR 134 33 [some (.inr x), l1, l2, l3] st w Q = zR 134 34 [some (.inr x), l1, l2, l3] (.inr x :: st) w Q := zR_go (zst zT_134_33 rfl)
theorem zT_134_34 : zT 134 34 = some (.iload_n 2, 1, 0, []) := by decide +kernel
theorem zr_134_34 {l0 l1 l3 : Option zV} {x : Int} {st : List zV} {w : zW} {Q : Option zV → zW → Prop}  : zR 134 34 [l0, l1, some (.inl x), l3] st w Q = zR 134 35 [l0, l1, some (.inl x), l3] (.inl x :: st) w Q := zR_go (zst zT_134_34 rfl)
theorem zT_134_35 : zT 134 35 = some (.putfield 28, 3, 0, [(10, 1)]) := by decide +kernel
theorem zr_134_35 {l0 l1 l2 l3 : Option zV} {h : Nat} {x : Int} {st : List zV} {w : zW} {Q : Option zV → zW → Prop} (hk : zk w h = 10) : zR 134 35 [l0, l1, l2, l3] (.inl x :: .inr (some h) :: st) w Q = zR 134 38 [l0, l1, l2, l3] st (zsf w 65 h x) Q := zR_go (zst zT_134_35 (zput_i hk rfl))
theorem zT_134_38 : zT 134 38 = some (.aload_n 0, 1, 0, []) := by decide +kernel
theorem zr_134_38 {l1 l2 l3 : Option zV} {x : Option Nat} {st : List zV} {w : zW} {Q : Option zV → zW → Prop}  : zR 134 38 [some (.inr x), l1, l2, l3] st w Q = zR 134 39 [some (.inr x), l1, l2, l3] (.inr x :: st) w Q := zR_go (zst zT_134_38 rfl)
theorem zT_134_39 : zT 134 39 = some (.aload_n 3, 1, 0, []) := by decide +kernel
theorem zr_134_39 {l0 l1 l2 : Option zV} {x : Option Nat} {st : List zV} {w : zW} {Q : Option zV → zW → Prop}  : zR 134 39 [l0, l1, l2, some (.inr x)] st w Q = zR 134 40 [l0, l1, l2, some (.inr x)] (.inr x :: st) w Q := zR_go (zst zT_134_39 rfl)
theorem zT_134_40 : zT 134 40 = some (.putfield 31, 3, 0, [(10, 2)]) := by decide +kernel
theorem zr_134_40 {l0 l1 l2 l3 : Option zV} {h : Nat} {x : Option Nat} {st : List zV} {w : zW} {Q : Option zV → zW → Prop} (hk : zk w h = 10) : zR 134 40 [l0, l1, l2, l3] (.inr x :: .inr (some h) :: st) w Q = zR 134 43 [l0, l1, l2, l3] st (zsp w 66 h x) Q := zR_go (zst zT_134_40 (zput_r hk rfl))
theorem zT_134_43 : zT 134 43 = some (.return_, 1, 0, []) := by decide +kernel
theorem zr_134_43 {l0 l1 l2 l3 : Option zV} {w : zW} {Q : Option zV → zW → Prop} : zR 134 43 [l0, l1, l2, l3] [] w Q = Q none w := zR_ret (zst zT_134_43 rfl)
