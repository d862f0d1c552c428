-- rules of rewriting, an instruction each: laid by program
theorem zT_75_0 : zT 75 0 = some (.aload_n 1, 1, 0, []) := by decide +kernel
theorem zr_75_0 {l0 l2 l3 l4 l5 : Option zV} {x : Option Nat} {st : List zV} {w : zW} {Q : Option zV → zW → Prop}  : zR 75 0 [l0, some (.inr x), l2, l3, l4, l5] st w Q = zR 75 1 [l0, some (.inr x), l2, l3, l4, l5] (.inr x :: st) w Q := zR_go (zst zT_75_0 rfl)
theorem zT_75_1 : zT 75 1 = some (.getfield 27, 3, 0, [(3, 0)]) := by decide +kernel
theorem zr_75_1 {l0 l1 l2 l3 l4 l5 : Option zV} {h : Nat} {st : List zV} {w : zW} {Q : Option zV → zW → Prop} (hk : zk w h = 3) : zR 75 1 [l0, l1, l2, l3, l4, l5] (.inr (some h) :: st) w Q = zR 75 4 [l0, l1, l2, l3, l4, l5] (.inl (zf w 26 h) :: st) w Q := zR_go (zst zT_75_1 (zget_i hk (Or.inl rfl)))
theorem zT_75_4 : zT 75 4 = some (.bipush 32, 2, 0, []) := by decide +kernel
theorem zr_75_4 {l0 l1 l2 l3 l4 l5 : Option zV} {st : List zV} {w : zW} {Q : Option zV → zW → Prop}  : zR 75 4 [l0, l1, l2, l3, l4, l5] st w Q = zR 75 6 [l0, l1, l2, l3, l4, l5] (.inl 32 :: st) w Q := zR_go (zst zT_75_4 rfl)
theorem zT_75_6 : zT 75 6 = some (.if_icmp .lt 7, 3, 0, []) := by decide +kernel
theorem zr_75_6 {l0 l1 l2 l3 l4 l5 : Option zV} {x y : Int} {st : List zV} {w : zW} {Q : Option zV → zW → Prop}  : zR 75 6 [l0, l1, l2, l3, l4, l5] (.inl y :: .inl x :: st) w Q = (if zN x < zN y then zR 75 13 [l0, l1, l2, l3, l4, l5] st w Q else zR 75 9 [l0, l1, l2, l3, l4, l5] st w Q) := zR_if (zstB zT_75_6 rfl) (by simp [zcmp])
theorem zT_75_9 : zT 75 9 = some (.iconst 1, 1, 0, []) := by decide +kernel
theorem zr_75_9 {l0 l1 l2 l3 l4 l5 : Option zV} {st : List zV} {w : zW} {Q : Option zV → zW → Prop}  : zR 75 9 [l0, l1, l2, l3, l4, l5] st w Q = zR 75 10 [l0, l1, l2, l3, l4, l5] (.inl 1 :: st) w Q := zR_go (zst zT_75_9 rfl)
theorem zT_75_10 : zT 75 10 = some (.goto 4, 3, 0, []) := by decide +kernel
theorem zr_75_10 {l0 l1 l2 l3 l4 l5 : Option zV} {st : List zV} {w : zW} {Q : Option zV → zW → Prop}  : zR 75 10 [l0, l1, l2, l3, l4, l5] st w Q = zR 75 14 [l0, l1, l2, l3, l4, l5] st w Q := zR_go (zst zT_75_10 rfl)
theorem zT_75_13 : zT 75 13 = some (.iconst 0, 1, 0, []) := by decide +kernel
theorem zr_75_13 {l0 l1 l2 l3 l4 l5 : Option zV} {st : List zV} {w : zW} {Q : Option zV → zW → Prop}  : zR 75 13 [l0, l1, l2, l3, l4, l5] st w Q = zR 75 14 [l0, l1, l2, l3, l4, l5] (.inl 0 :: st) w Q := zR_go (zst zT_75_13 rfl)
theorem zT_75_14 : zT 75 14 = some (.istore_n 3, 1, 0, []) := by decide +kernel
theorem zr_75_14 {l0 l1 l2 l3 l4 l5 : Option zV} {x : Int} {st : List zV} {w : zW} {Q : Option zV → zW → Prop}  : zR 75 14 [l0, l1, l2, l3, l4, l5] (.inl x :: st) w Q = zR 75 15 [l0, l1, l2, some (.inl x), l4, l5] st w Q := zR_go (zst zT_75_14 rfl)
theorem zT_75_15 : zT 75 15 = some (.iload_n 3, 1, 0, []) := by decide +kernel
theorem zr_75_15 {l0 l1 l2 l4 l5 : Option zV} {x : Int} {st : List zV} {w : zW} {Q : Option zV → zW → Prop}  : zR 75 15 [l0, l1, l2, some (.inl x), l4, l5] st w Q = zR 75 16 [l0, l1, l2, some (.inl x), l4, l5] (.inl x :: st) w Q := zR_go (zst zT_75_15 rfl)
theorem zT_75_16 : zT 75 16 = some (.iload_n 2, 1, 0, []) := by decide +kernel
theorem zr_75_16 {l0 l1 l3 l4 l5 : Option zV} {x : Int} {st : List zV} {w : zW} {Q : Option zV → zW → Prop}  : zR 75 16 [l0, l1, some (.inl x), l3, l4, l5] st w Q = zR 75 17 [l0, l1, some (.inl x), l3, l4, l5] (.inl x :: st) w Q := zR_go (zst zT_75_16 rfl)
theorem zT_75_17 : zT 75 17 = some (.ifCond .ne 7, 3, 0, []) := by decide +kernel
theorem zr_75_17 {l0 l1 l2 l3 l4 l5 : Option zV} {x : Int} {st : List zV} {w : zW} {Q : Option zV → zW → Prop}  : zR 75 17 [l0, l1, l2, l3, l4, l5] (.inl x :: st) w Q = (if zN x ≠ 0 then zR 75 24 [l0, l1, l2, l3, l4, l5] st w Q else zR 75 20 [l0, l1, l2, l3, l4, l5] st w Q) := zR_if (zstB zT_75_17 rfl) (by simp [zcmp])
theorem zT_75_20 : zT 75 20 = some (.iconst 1, 1, 0, []) := by decide +kernel
theorem zr_75_20 {l0 l1 l2 l3 l4 l5 : Option zV} {st : List zV} {w : zW} {Q : Option zV → zW → Prop}  : zR 75 20 [l0, l1, l2, l3, l4, l5] st w Q = zR 75 21 [l0, l1, l2, l3, l4, l5] (.inl 1 :: st) w Q := zR_go (zst zT_75_20 rfl)
theorem zT_75_21 : zT 75 21 = some (.goto 4, 3, 0, []) := by decide +kernel
theorem zr_75_21 {l0 l1 l2 l3 l4 l5 : Option zV} {st : List zV} {w : zW} {Q : Option zV → zW → Prop}  : zR 75 21 [l0, l1, l2, l3, l4, l5] st w Q = zR 75 25 [l0, l1, l2, l3, l4, l5] st w Q := zR_go (zst zT_75_21 rfl)
theorem zT_75_24 : zT 75 24 = some (.iconst 0, 1, 0, []) := by decide +kernel
theorem zr_75_24 {l0 l1 l2 l3 l4 l5 : Option zV} {st : List zV} {w : zW} {Q : Option zV → zW → Prop}  : zR 75 24 [l0, l1, l2, l3, l4, l5] st w Q = zR 75 25 [l0, l1, l2, l3, l4, l5] (.inl 0 :: st) w Q := zR_go (zst zT_75_24 rfl)
theorem zT_75_25 : zT 75 25 = some (.if_icmp .eq 4, 3, 0, []) := by decide +kernel
theorem zr_75_25 {l0 l1 l2 l3 l4 l5 : Option zV} {x y : Int} {st : List zV} {w : zW} {Q : Option zV → zW → Prop}  : zR 75 25 [l0, l1, l2, l3, l4, l5] (.inl y :: .inl x :: st) w Q = (if zN x = zN y then zR 75 29 [l0, l1, l2, l3, l4, l5] st w Q else zR 75 28 [l0, l1, l2, l3, l4, l5] st w Q) := zR_if (zstB zT_75_25 rfl) (by simp [zcmp])
theorem zT_75_28 : zT 75 28 = some (.return_, 1, 0, []) := by decide +kernel
theorem zr_75_28 {l0 l1 l2 l3 l4 l5 : Option zV} {w : zW} {Q : Option zV → zW → Prop} : zR 75 28 [l0, l1, l2, l3, l4, l5] [] w Q = Q none w := zR_ret (zst zT_75_28 rfl)
theorem zT_75_29 : zT 75 29 = some (.iload_n 2, 1, 0, []) := by decide +kernel
theorem zr_75_29 {l0 l1 l3 l4 l5 : Option zV} {x : Int} {st : List zV} {w : zW} {Q : Option zV → zW → Prop}  : zR 75 29 [l0, l1, some (.inl x), l3, l4, l5] st w Q = zR 75 30 [l0, l1, some (.inl x), l3, l4, l5] (.inl x :: st) w Q := zR_go (zst zT_75_29 rfl)
theorem zT_75_30 : zT 75 30 = some (.ifCond .ne 10, 3, 0, []) := by decide +kernel
theorem zr_75_30 {l0 l1 l2 l3 l4 l5 : Option zV} {x : Int} {st : List zV} {w : zW} {Q : Option zV → zW → Prop}  : zR 75 30 [l0, l1, l2, l3, l4, l5] (.inl x :: st) w Q = (if zN x ≠ 0 then zR 75 40 [l0, l1, l2, l3, l4, l5] st w Q else zR 75 33 [l0, l1, l2, l3, l4, l5] st w Q) := zR_if (zstB zT_75_30 rfl) (by simp [zcmp])
theorem zT_75_33 : zT 75 33 = some (.aload_n 0, 1, 0, []) := by decide +kernel
theorem zr_75_33 {l1 l2 l3 l4 l5 : Option zV} {x : Option Nat} {st : List zV} {w : zW} {Q : Option zV → zW → Prop}  : zR 75 33 [some (.inr x), l1, l2, l3, l4, l5] st w Q = zR 75 34 [some (.inr x), l1, l2, l3, l4, l5] (.inr x :: st) w Q := zR_go (zst zT_75_33 rfl)
theorem zT_75_34 : zT 75 34 = some (.getfield 14, 3, 0, [(4, 0)]) := by decide +kernel
theorem zr_75_34 {l0 l1 l2 l3 l4 l5 : Option zV} {h : Nat} {st : List zV} {w : zW} {Q : Option zV → zW → Prop} (hk : zk w h = 4) : zR 75 34 [l0, l1, l2, l3, l4, l5] (.inr (some h) :: st) w Q = zR 75 37 [l0, l1, l2, l3, l4, l5] (.inr (zp w 31 h) :: st) w Q := zR_go (zst zT_75_34 (zget_r hk rfl))
theorem zT_75_37 : zT 75 37 = some (.goto 7, 3, 0, []) := by decide +kernel
theorem zr_75_37 {l0 l1 l2 l3 l4 l5 : Option zV} {st : List zV} {w : zW} {Q : Option zV → zW → Prop}  : zR 75 37 [l0, l1, l2, l3, l4, l5] st w Q = zR 75 44 [l0, l1, l2, l3, l4, l5] st w Q := zR_go (zst zT_75_37 rfl)
theorem zT_75_40 : zT 75 40 = some (.aload_n 0, 1, 0, []) := by decide +kernel
theorem zr_75_40 {l1 l2 l3 l4 l5 : Option zV} {x : Option Nat} {st : List zV} {w : zW} {Q : Option zV → zW → Prop}  : zR 75 40 [some (.inr x), l1, l2, l3, l4, l5] st w Q = zR 75 41 [some (.inr x), l1, l2, l3, l4, l5] (.inr x :: st) w Q := zR_go (zst zT_75_40 rfl)
theorem zT_75_41 : zT 75 41 = some (.getfield 20, 3, 0, [(4, 10)]) := by decide +kernel
theorem zr_75_41 {l0 l1 l2 l3 l4 l5 : Option zV} {h : Nat} {st : List zV} {w : zW} {Q : Option zV → zW → Prop} (hk : zk w h = 4) : zR 75 41 [l0, l1, l2, l3, l4, l5] (.inr (some h) :: st) w Q = zR 75 44 [l0, l1, l2, l3, l4, l5] (.inr (zp w 14 h) :: st) w Q := zR_go (zst zT_75_41 (zget_r hk rfl))
theorem zT_75_44 : zT 75 44 = some (.astore 4, 2, 0, []) := by decide +kernel
theorem zr_75_44 {l0 l1 l2 l3 l4 l5 : Option zV} {x : Option Nat} {st : List zV} {w : zW} {Q : Option zV → zW → Prop}  : zR 75 44 [l0, l1, l2, l3, l4, l5] (.inr x :: st) w Q = zR 75 46 [l0, l1, l2, l3, some (.inr x), l5] st w Q := zR_go (zst zT_75_44 rfl)
theorem zT_75_46 : zT 75 46 = some (.aload 4, 2, 0, []) := by decide +kernel
theorem zr_75_46 {l0 l1 l2 l3 l5 : Option zV} {x : Option Nat} {st : List zV} {w : zW} {Q : Option zV → zW → Prop}  : zR 75 46 [l0, l1, l2, l3, some (.inr x), l5] st w Q = zR 75 48 [l0, l1, l2, l3, some (.inr x), l5] (.inr x :: st) w Q := zR_go (zst zT_75_46 rfl)
theorem zT_75_48 : zT 75 48 = some (.iconst 1, 1, 0, []) := by decide +kernel
theorem zr_75_48 {l0 l1 l2 l3 l4 l5 : Option zV} {st : List zV} {w : zW} {Q : Option zV → zW → Prop}  : zR 75 48 [l0, l1, l2, l3, l4, l5] st w Q = zR 75 49 [l0, l1, l2, l3, l4, l5] (.inl 1 :: st) w Q := zR_go (zst zT_75_48 rfl)
theorem zT_75_49 : zT 75 49 = some (.invokevirtual 32, 3, 1, [(2, 129)]) := by decide +kernel
theorem zr_75_49 {l0 l1 l2 l3 l4 l5 : Option zV} {a0 : zV} {h : Nat} {st : List zV} {w : zW} {Q : Option zV → zW → Prop} (hs : st.length ≤ 8) (hk : zk w h = 2) : zR 75 49 [l0, l1, l2, l3, l4, l5] (a0 :: .inr (some h) :: st) w Q = zR 129 0 [some (.inr (some h)), some a0] [] w (fun r w2 => zR 75 52 [l0, l1, l2, l3, l4, l5] (r.toList ++ st) w2 Q) := zR_call (zst zT_75_49 (zcall_v [a0] rfl hs hk rfl))
theorem zT_75_52 : zT 75 52 = some (.ifCond .eq 41, 3, 0, []) := by decide +kernel
theorem zr_75_52 {l0 l1 l2 l3 l4 l5 : Option zV} {x : Int} {st : List zV} {w : zW} {Q : Option zV → zW → Prop}  : zR 75 52 [l0, l1, l2, l3, l4, l5] (.inl x :: st) w Q = (if zN x = 0 then zR 75 93 [l0, l1, l2, l3, l4, l5] st w Q else zR 75 55 [l0, l1, l2, l3, l4, l5] st w Q) := zR_if (zstB zT_75_52 rfl) (by simp [zcmp])
theorem zT_75_55 : zT 75 55 = some (.aload 4, 2, 0, []) := by decide +kernel
theorem zr_75_55 {l0 l1 l2 l3 l5 : Option zV} {x : Option Nat} {st : List zV} {w : zW} {Q : Option zV → zW → Prop}  : zR 75 55 [l0, l1, l2, l3, some (.inr x), l5] st w Q = zR 75 57 [l0, l1, l2, l3, some (.inr x), l5] (.inr x :: st) w Q := zR_go (zst zT_75_55 rfl)
theorem zT_75_57 : zT 75 57 = some (.invokevirtual 36, 3, 0, [(2, 131)]) := by decide +kernel
theorem zr_75_57 {l0 l1 l2 l3 l4 l5 : Option zV} {h : Nat} {st : List zV} {w : zW} {Q : Option zV → zW → Prop} (hs : st.length ≤ 8) (hk : zk w h = 2) : zR 75 57 [l0, l1, l2, l3, l4, l5] (.inr (some h) :: st) w Q = zR 131 0 [some (.inr (some h)), none] [] w (fun r w2 => zR 75 60 [l0, l1, l2, l3, l4, l5] (r.toList ++ st) w2 Q) := zR_call (zst zT_75_57 (zcall_v [] rfl hs hk rfl))
theorem zT_75_60 : zT 75 60 = some (.astore 5, 2, 0, []) := by decide +kernel
theorem zr_75_60 {l0 l1 l2 l3 l4 l5 : Option zV} {x : Option Nat} {st : List zV} {w : zW} {Q : Option zV → zW → Prop}  : zR 75 60 [l0, l1, l2, l3, l4, l5] (.inr x :: st) w Q = zR 75 62 [l0, l1, l2, l3, l4, some (.inr x)] st w Q := zR_go (zst zT_75_60 rfl)
theorem zT_75_62 : zT 75 62 = some (.aload 5, 2, 0, []) := by decide +kernel
theorem zr_75_62 {l0 l1 l2 l3 l4 : Option zV} {x : Option Nat} {st : List zV} {w : zW} {Q : Option zV → zW → Prop}  : zR 75 62 [l0, l1, l2, l3, l4, some (.inr x)] st w Q = zR 75 64 [l0, l1, l2, l3, l4, some (.inr x)] (.inr x :: st) w Q := zR_go (zst zT_75_62 rfl)
theorem zT_75_64 : zT 75 64 = some (.aload_n 1, 1, 0, []) := by decide +kernel
theorem zr_75_64 {l0 l2 l3 l4 l5 : Option zV} {x : Option Nat} {st : List zV} {w : zW} {Q : Option zV → zW → Prop}  : zR 75 64 [l0, some (.inr x), l2, l3, l4, l5] st w Q = zR 75 65 [l0, some (.inr x), l2, l3, l4, l5] (.inr x :: st) w Q := zR_go (zst zT_75_64 rfl)
theorem zT_75_65 : zT 75 65 = some (.getfield 27, 3, 0, [(3, 0)]) := by decide +kernel
theorem zr_75_65 {l0 l1 l2 l3 l4 l5 : Option zV} {h : Nat} {st : List zV} {w : zW} {Q : Option zV → zW → Prop} (hk : zk w h = 3) : zR 75 65 [l0, l1, l2, l3, l4, l5] (.inr (some h) :: st) w Q = zR 75 68 [l0, l1, l2, l3, l4, l5] (.inl (zf w 26 h) :: st) w Q := zR_go (zst zT_75_65 (zget_i hk (Or.inl rfl)))
theorem zT_75_68 : zT 75 68 = some (.aload_n 1, 1, 0, []) := by decide +kernel
theorem zr_75_68 {l0 l2 l3 l4 l5 : Option zV} {x : Option Nat} {st : List zV} {w : zW} {Q : Option zV → zW → Prop}  : zR 75 68 [l0, some (.inr x), l2, l3, l4, l5] st w Q = zR 75 69 [l0, some (.inr x), l2, l3, l4, l5] (.inr x :: st) w Q := zR_go (zst zT_75_68 rfl)
theorem zT_75_69 : zT 75 69 = some (.getfield 40, 3, 0, [(3, 1)]) := by decide +kernel
theorem zr_75_69 {l0 l1 l2 l3 l4 l5 : Option zV} {h : Nat} {st : List zV} {w : zW} {Q : Option zV → zW → Prop} (hk : zk w h = 3) : zR 75 69 [l0, l1, l2, l3, l4, l5] (.inr (some h) :: st) w Q = zR 75 72 [l0, l1, l2, l3, l4, l5] (.inl (zf w 27 h) :: st) w Q := zR_go (zst zT_75_69 (zget_i hk (Or.inl rfl)))
theorem zT_75_72 : zT 75 72 = some (.aload_n 1, 1, 0, []) := by decide +kernel
theorem zr_75_72 {l0 l2 l3 l4 l5 : Option zV} {x : Option Nat} {st : List zV} {w : zW} {Q : Option zV → zW → Prop}  : zR 75 72 [l0, some (.inr x), l2, l3, l4, l5] st w Q = zR 75 73 [l0, some (.inr x), l2, l3, l4, l5] (.inr x :: st) w Q := zR_go (zst zT_75_72 rfl)
theorem zT_75_73 : zT 75 73 = some (.getfield 43, 3, 0, [(3, 2)]) := by decide +kernel
theorem zr_75_73 {l0 l1 l2 l3 l4 l5 : Option zV} {h : Nat} {st : List zV} {w : zW} {Q : Option zV → zW → Prop} (hk : zk w h = 3) : zR 75 73 [l0, l1, l2, l3, l4, l5] (.inr (some h) :: st) w Q = zR 75 76 [l0, l1, l2, l3, l4, l5] (.inl (zf w 28 h) :: st) w Q := zR_go (zst zT_75_73 (zget_i hk (Or.inl rfl)))
theorem zT_75_76 : zT 75 76 = some (.invokevirtual 46, 3, 3, [(3, 117)]) := by decide +kernel
theorem zr_75_76 {l0 l1 l2 l3 l4 l5 : Option zV} {a0 a1 a2 : zV} {h : Nat} {st : List zV} {w : zW} {Q : Option zV → zW → Prop} (hs : st.length ≤ 8) (hk : zk w h = 3) : zR 75 76 [l0, l1, l2, l3, l4, l5] (a2 :: a1 :: a0 :: .inr (some h) :: st) w Q = zR 117 0 [some (.inr (some h)), some a0, some a1, some a2] [] w (fun r w2 => zR 75 79 [l0, l1, l2, l3, l4, l5] (r.toList ++ st) w2 Q) := zR_call (zst zT_75_76 (zcall_v [a2, a1, a0] rfl hs hk rfl))
theorem zT_75_79 : zT 75 79 = some (.aload 5, 2, 0, []) := by decide +kernel
theorem zr_75_79 {l0 l1 l2 l3 l4 : Option zV} {x : Option Nat} {st : List zV} {w : zW} {Q : Option zV → zW → Prop}  : zR 75 79 [l0, l1, l2, l3, l4, some (.inr x)] st w Q = zR 75 81 [l0, l1, l2, l3, l4, some (.inr x)] (.inr x :: st) w Q := zR_go (zst zT_75_79 rfl)
theorem zT_75_81 : zT 75 81 = some (.aload_n 1, 1, 0, []) := by decide +kernel
theorem zr_75_81 {l0 l2 l3 l4 l5 : Option zV} {x : Option Nat} {st : List zV} {w : zW} {Q : Option zV → zW → Prop}  : zR 75 81 [l0, some (.inr x), l2, l3, l4, l5] st w Q = zR 75 82 [l0, some (.inr x), l2, l3, l4, l5] (.inr x :: st) w Q := zR_go (zst zT_75_81 rfl)
theorem zT_75_82 : zT 75 82 = some (.getfield 50, 3, 0, [(3, 4)]) := by decide +kernel
theorem zr_75_82 {l0 l1 l2 l3 l4 l5 : Option zV} {h : Nat} {st : List zV} {w : zW} {Q : Option zV → zW → Prop} (hk : zk w h = 3) : zR 75 82 [l0, l1, l2, l3, l4, l5] (.inr (some h) :: st) w Q = zR 75 85 [l0, l1, l2, l3, l4, l5] (.inr (zp w 30 h) :: st) w Q := zR_go (zst zT_75_82 (zget_r hk rfl))
theorem zT_75_85 : zT 75 85 = some (.iconst 0, 1, 0, []) := by decide +kernel
theorem zr_75_85 {l0 l1 l2 l3 l4 l5 : Option zV} {st : List zV} {w : zW} {Q : Option zV → zW → Prop}  : zR 75 85 [l0, l1, l2, l3, l4, l5] st w Q = zR 75 86 [l0, l1, l2, l3, l4, l5] (.inl 0 :: st) w Q := zR_go (zst zT_75_85 rfl)
theorem zT_75_86 : zT 75 86 = some (.aload_n 1, 1, 0, []) := by decide +kernel
theorem zr_75_86 {l0 l2 l3 l4 l5 : Option zV} {x : Option Nat} {st : List zV} {w : zW} {Q : Option zV → zW → Prop}  : zR 75 86 [l0, some (.inr x), l2, l3, l4, l5] st w Q = zR 75 87 [l0, some (.inr x), l2, l3, l4, l5] (.inr x :: st) w Q := zR_go (zst zT_75_86 rfl)
theorem zT_75_87 : zT 75 87 = some (.getfield 54, 3, 0, [(3, 3)]) := by decide +kernel
theorem zr_75_87 {l0 l1 l2 l3 l4 l5 : Option zV} {h : Nat} {st : List zV} {w : zW} {Q : Option zV → zW → Prop} (hk : zk w h = 3) : zR 75 87 [l0, l1, l2, l3, l4, l5] (.inr (some h) :: st) w Q = zR 75 90 [l0, l1, l2, l3, l4, l5] (.inl (zf w 29 h) :: st) w Q := zR_go (zst zT_75_87 (zget_i hk (Or.inl rfl)))
theorem zT_75_90 : zT 75 90 = some (.invokevirtual 57, 3, 3, [(3, 118)]) := by decide +kernel
theorem zr_75_90 {l0 l1 l2 l3 l4 l5 : Option zV} {a0 a1 a2 : zV} {h : Nat} {st : List zV} {w : zW} {Q : Option zV → zW → Prop} (hs : st.length ≤ 8) (hk : zk w h = 3) : zR 75 90 [l0, l1, l2, l3, l4, l5] (a2 :: a1 :: a0 :: .inr (some h) :: st) w Q = zR 118 0 [some (.inr (some h)), some a0, some a1, some a2] [] w (fun r w2 => zR 75 93 [l0, l1, l2, l3, l4, l5] (r.toList ++ st) w2 Q) := zR_call (zst zT_75_90 (zcall_v [a2, a1, a0] rfl hs hk rfl))
theorem zT_75_93 : zT 75 93 = some (.return_, 1, 0, []) := by decide +kernel
theorem zr_75_93 {l0 l1 l2 l3 l4 l5 : Option zV} {w : zW} {Q : Option zV → zW → Prop} : zR 75 93 [l0, l1, l2, l3, l4, l5] [] w Q = Q none w := zR_ret (zst zT_75_93 rfl)
theorem zT_77_0 : zT 77 0 = some (.aload_n 0, 1, 0, []) := by decide +kernel
theorem zr_77_0 {x : Option Nat} {st : List zV} {w : zW} {Q : Option zV → zW → Prop}  : zR 77 0 [some (.inr x)] st w Q = zR 77 1 [some (.inr x)] (.inr x :: st) w Q := zR_go (zst zT_77_0 rfl)
theorem zT_77_1 : zT 77 1 = some (.getfield 31, 3, 0, [(5, 4)]) := by decide +kernel
theorem zr_77_1 {l0 : Option zV} {h : Nat} {st : List zV} {w : zW} {Q : Option zV → zW → Prop} (hk : zk w h = 5) : zR 77 1 [l0] (.inr (some h) :: st) w Q = zR 77 4 [l0] (.inl (zf w 45 h) :: st) w Q := zR_go (zst zT_77_1 (zget_i hk (Or.inl rfl)))
theorem zT_77_4 : zT 77 4 = some (.ifCond .lt 36, 3, 0, []) := by decide +kernel
theorem zr_77_4 {l0 : Option zV} {x : Int} {st : List zV} {w : zW} {Q : Option zV → zW → Prop}  : zR 77 4 [l0] (.inl x :: st) w Q = (if zN x < 0 then zR 77 40 [l0] st w Q else zR 77 7 [l0] st w Q) := zR_if (zstB zT_77_4 rfl) (by simp [zcmp])
theorem zT_77_7 : zT 77 7 = some (.aload_n 0, 1, 0, []) := by decide +kernel
theorem zr_77_7 {x : Option Nat} {st : List zV} {w : zW} {Q : Option zV → zW → Prop}  : zR 77 7 [some (.inr x)] st w Q = zR 77 8 [some (.inr x)] (.inr x :: st) w Q := zR_go (zst zT_77_7 rfl)
theorem zT_77_8 : zT 77 8 = some (.getfield 31, 3, 0, [(5, 4)]) := by decide +kernel
theorem zr_77_8 {l0 : Option zV} {h : Nat} {st : List zV} {w : zW} {Q : Option zV → zW → Prop} (hk : zk w h = 5) : zR 77 8 [l0] (.inr (some h) :: st) w Q = zR 77 11 [l0] (.inl (zf w 45 h) :: st) w Q := zR_go (zst zT_77_8 (zget_i hk (Or.inl rfl)))
theorem zT_77_11 : zT 77 11 = some (.aload_n 0, 1, 0, []) := by decide +kernel
theorem zr_77_11 {x : Option Nat} {st : List zV} {w : zW} {Q : Option zV → zW → Prop}  : zR 77 11 [some (.inr x)] st w Q = zR 77 12 [some (.inr x)] (.inr x :: st) w Q := zR_go (zst zT_77_11 rfl)
theorem zT_77_12 : zT 77 12 = some (.getfield 27, 3, 0, [(5, 3)]) := by decide +kernel
theorem zr_77_12 {l0 : Option zV} {h : Nat} {st : List zV} {w : zW} {Q : Option zV → zW → Prop} (hk : zk w h = 5) : zR 77 12 [l0] (.inr (some h) :: st) w Q = zR 77 15 [l0] (.inr (zp w 44 h) :: st) w Q := zR_go (zst zT_77_12 (zget_r hk rfl))
theorem zT_77_15 : zT 77 15 = some (.getfield 41, 3, 0, [(7, 1)]) := by decide +kernel
theorem zr_77_15 {l0 : Option zV} {h : Nat} {st : List zV} {w : zW} {Q : Option zV → zW → Prop} (hk : zk w h = 7) : zR 77 15 [l0] (.inr (some h) :: st) w Q = zR 77 18 [l0] (.inl (zf w 57 h) :: st) w Q := zR_go (zst zT_77_15 (zget_i hk (Or.inl rfl)))
theorem zT_77_18 : zT 77 18 = some (.if_icmp .ge 22, 3, 0, []) := by decide +kernel
theorem zr_77_18 {l0 : Option zV} {x y : Int} {st : List zV} {w : zW} {Q : Option zV → zW → Prop}  : zR 77 18 [l0] (.inl y :: .inl x :: st) w Q = (if zN y ≤ zN x then zR 77 40 [l0] st w Q else zR 77 21 [l0] st w Q) := zR_if (zstB zT_77_18 rfl) (by simp [zcmp])
theorem zT_77_21 : zT 77 21 = some (.aload_n 0, 1, 0, []) := by decide +kernel
theorem zr_77_21 {x : Option Nat} {st : List zV} {w : zW} {Q : Option zV → zW → Prop}  : zR 77 21 [some (.inr x)] st w Q = zR 77 22 [some (.inr x)] (.inr x :: st) w Q := zR_go (zst zT_77_21 rfl)
theorem zT_77_22 : zT 77 22 = some (.getfield 27, 3, 0, [(5, 3)]) := by decide +kernel
theorem zr_77_22 {l0 : Option zV} {h : Nat} {st : List zV} {w : zW} {Q : Option zV → zW → Prop} (hk : zk w h = 5) : zR 77 22 [l0] (.inr (some h) :: st) w Q = zR 77 25 [l0] (.inr (zp w 44 h) :: st) w Q := zR_go (zst zT_77_22 (zget_r hk rfl))
theorem zT_77_25 : zT 77 25 = some (.getfield 44, 3, 0, [(7, 0)]) := by decide +kernel
theorem zr_77_25 {l0 : Option zV} {h : Nat} {st : List zV} {w : zW} {Q : Option zV → zW → Prop} (hk : zk w h = 7) : zR 77 25 [l0] (.inr (some h) :: st) w Q = zR 77 28 [l0] (.inr (zp w 56 h) :: st) w Q := zR_go (zst zT_77_25 (zget_r hk rfl))
theorem zT_77_28 : zT 77 28 = some (.aload_n 0, 1, 0, []) := by decide +kernel
theorem zr_77_28 {x : Option Nat} {st : List zV} {w : zW} {Q : Option zV → zW → Prop}  : zR 77 28 [some (.inr x)] st w Q = zR 77 29 [some (.inr x)] (.inr x :: st) w Q := zR_go (zst zT_77_28 rfl)
theorem zT_77_29 : zT 77 29 = some (.getfield 31, 3, 0, [(5, 4)]) := by decide +kernel
theorem zr_77_29 {l0 : Option zV} {h : Nat} {st : List zV} {w : zW} {Q : Option zV → zW → Prop} (hk : zk w h = 5) : zR 77 29 [l0] (.inr (some h) :: st) w Q = zR 77 32 [l0] (.inl (zf w 45 h) :: st) w Q := zR_go (zst zT_77_29 (zget_i hk (Or.inl rfl)))
theorem zT_77_32 : zT 77 32 = some (.dup2, 1, 0, []) := by decide +kernel
theorem zr_77_32 {l0 : Option zV} {u v : zV} {st : List zV} {w : zW} {Q : Option zV → zW → Prop}  : zR 77 32 [l0] (v :: u :: st) w Q = zR 77 33 [l0] (v :: u :: v :: u :: st) w Q := zR_go (zst zT_77_32 rfl)
theorem zT_77_33 : zT 77 33 = some (.iaload, 1, 0, []) := by decide +kernel
theorem zr_77_33 {l0 : Option zV} {j : Int} {h : Nat} {st : List zV} {w : zW} {Q : Option zV → zW → Prop} (hk : (zk w h = zNC ∨ zk w h = zNC + 2) ∧ 0 ≤ zN j ∧ zN j < zl w h) : zR 77 33 [l0] (.inl j :: .inr (some h) :: st) w Q = zR 77 34 [l0] (.inl (za w h (zN j).toNat) :: st) w Q := zR_go (zst zT_77_33 (if_pos hk))
theorem zT_77_34 : zT 77 34 = some (.aload_n 0, 1, 0, []) := by decide +kernel
theorem zr_77_34 {x : Option Nat} {st : List zV} {w : zW} {Q : Option zV → zW → Prop}  : zR 77 34 [some (.inr x)] st w Q = zR 77 35 [some (.inr x)] (.inr x :: st) w Q := zR_go (zst zT_77_34 rfl)
theorem zT_77_35 : zT 77 35 = some (.getfield 48, 3, 0, [(5, 5)]) := by decide +kernel
theorem zr_77_35 {l0 : Option zV} {h : Nat} {st : List zV} {w : zW} {Q : Option zV → zW → Prop} (hk : zk w h = 5) : zR 77 35 [l0] (.inr (some h) :: st) w Q = zR 77 38 [l0] (.inl (zf w 46 h) :: st) w Q := zR_go (zst zT_77_35 (zget_i hk (Or.inl rfl)))
theorem zT_77_38 : zT 77 38 = some (.ixor, 1, 0, []) := by decide +kernel
theorem zr_77_38 {l0 : Option zV} {x y : Int} {st : List zV} {w : zW} {Q : Option zV → zW → Prop}  : zR 77 38 [l0] (.inl y :: .inl x :: st) w Q = zR 77 39 [l0] (.inl (zo_xor x y) :: st) w Q := zR_go (zst zT_77_38 rfl)
theorem zT_77_39 : zT 77 39 = some (.iastore, 1, 0, []) := by decide +kernel
theorem zr_77_39 {l0 : Option zV} {j x : Int} {h : Nat} {st : List zV} {w : zW} {Q : Option zV → zW → Prop} (hk : zk w h = zNC ∧ 0 ≤ zN j ∧ zN j < zl w h) : zR 77 39 [l0] (.inl x :: .inl j :: .inr (some h) :: st) w Q = zR 77 40 [l0] st (zsa w h (zN j).toNat x) Q := zR_go (zst zT_77_39 (if_pos hk))
theorem zT_77_40 : zT 77 40 = some (.aload_n 0, 1, 0, []) := by decide +kernel
theorem zr_77_40 {x : Option Nat} {st : List zV} {w : zW} {Q : Option zV → zW → Prop}  : zR 77 40 [some (.inr x)] st w Q = zR 77 41 [some (.inr x)] (.inr x :: st) w Q := zR_go (zst zT_77_40 rfl)
theorem zT_77_41 : zT 77 41 = some (.iconst (-1), 1, 0, []) := by decide +kernel
theorem zr_77_41 {l0 : Option zV} {st : List zV} {w : zW} {Q : Option zV → zW → Prop}  : zR 77 41 [l0] st w Q = zR 77 42 [l0] (.inl (-1) :: st) w Q := zR_go (zst zT_77_41 rfl)
theorem zT_77_42 : zT 77 42 = some (.putfield 31, 3, 0, [(5, 4)]) := by decide +kernel
theorem zr_77_42 {l0 : Option zV} {h : Nat} {x : Int} {st : List zV} {w : zW} {Q : Option zV → zW → Prop} (hk : zk w h = 5) : zR 77 42 [l0] (.inl x :: .inr (some h) :: st) w Q = zR 77 45 [l0] st (zsf w 45 h x) Q := zR_go (zst zT_77_42 (zput_i hk rfl))
theorem zT_77_45 : zT 77 45 = some (.aload_n 0, 1, 0, []) := by decide +kernel
theorem zr_77_45 {x : Option Nat} {st : List zV} {w : zW} {Q : Option zV → zW → Prop}  : zR 77 45 [some (.inr x)] st w Q = zR 77 46 [some (.inr x)] (.inr x :: st) w Q := zR_go (zst zT_77_45 rfl)
theorem zT_77_46 : zT 77 46 = some (.getfield 27, 3, 0, [(5, 3)]) := by decide +kernel
theorem zr_77_46 {l0 : Option zV} {h : Nat} {st : List zV} {w : zW} {Q : Option zV → zW → Prop} (hk : zk w h = 5) : zR 77 46 [l0] (.inr (some h) :: st) w Q = zR 77 49 [l0] (.inr (zp w 44 h) :: st) w Q := zR_go (zst zT_77_46 (zget_r hk rfl))
theorem zT_77_49 : zT 77 49 = some (.invokevirtual 51, 3, 0, [(7, 142)]) := by decide +kernel
theorem zr_77_49 {l0 : Option zV} {h : Nat} {st : List zV} {w : zW} {Q : Option zV → zW → Prop} (hs : st.length ≤ 8) (hk : zk w h = 7) : zR 77 49 [l0] (.inr (some h) :: st) w Q = zR 142 0 [some (.inr (some h))] [] w (fun r w2 => zR 77 52 [l0] (r.toList ++ st) w2 Q) := zR_call (zst zT_77_49 (zcall_v [] rfl hs hk rfl))
theorem zT_77_52 : zT 77 52 = some (.ireturn, 1, 0, []) := by decide +kernel
theorem zr_77_52 {l0 : Option zV} {x : Int} {w : zW} {Q : Option zV → zW → Prop} (hx : zN x = 0 ∨ zN x = 1) : zR 77 52 [l0] [.inl x] w Q = Q (some (.inl x)) w := zR_ret (zst zT_77_52 (if_pos (Or.inr ⟨rfl, hx⟩)))
theorem zT_78_0 : zT 78 0 = some (.aconst_null, 1, 0, []) := by decide +kernel
theorem zr_78_0 {l0 l1 l2 l3 : Option zV} {st : List zV} {w : zW} {Q : Option zV → zW → Prop}  : zR 78 0 [l0, l1, l2, l3] st w Q = zR 78 1 [l0, l1, l2, l3] (.inr none :: st) w Q := zR_go (zst zT_78_0 rfl)
theorem zT_78_1 : zT 78 1 = some (.astore_n 1, 1, 0, []) := by decide +kernel
theorem zr_78_1 {l0 l1 l2 l3 : Option zV} {x : Option Nat} {st : List zV} {w : zW} {Q : Option zV → zW → Prop}  : zR 78 1 [l0, l1, l2, l3] (.inr x :: st) w Q = zR 78 2 [l0, some (.inr x), l2, l3] st w Q := zR_go (zst zT_78_1 rfl)
theorem zT_78_2 : zT 78 2 = some (.iconst 0, 1, 0, []) := by decide +kernel
theorem zr_78_2 {l0 l1 l2 l3 : Option zV} {st : List zV} {w : zW} {Q : Option zV → zW → Prop}  : zR 78 2 [l0, l1, l2, l3] st w Q = zR 78 3 [l0, l1, l2, l3] (.inl 0 :: st) w Q := zR_go (zst zT_78_2 rfl)
theorem zT_78_3 : zT 78 3 = some (.istore_n 2, 1, 0, []) := by decide +kernel
theorem zr_78_3 {l0 l1 l2 l3 : Option zV} {x : Int} {st : List zV} {w : zW} {Q : Option zV → zW → Prop}  : zR 78 3 [l0, l1, l2, l3] (.inl x :: st) w Q = zR 78 4 [l0, l1, some (.inl x), l3] st w Q := zR_go (zst zT_78_3 rfl)
theorem zT_78_4 : zT 78 4 = some (.iload_n 2, 1, 0, []) := by decide +kernel
theorem zr_78_4 {l0 l1 l3 : Option zV} {x : Int} {st : List zV} {w : zW} {Q : Option zV → zW → Prop}  : zR 78 4 [l0, l1, some (.inl x), l3] st w Q = zR 78 5 [l0, l1, some (.inl x), l3] (.inl x :: st) w Q := zR_go (zst zT_78_4 rfl)
theorem zT_78_5 : zT 78 5 = some (.bipush 7, 2, 0, []) := by decide +kernel
theorem zr_78_5 {l0 l1 l2 l3 : Option zV} {st : List zV} {w : zW} {Q : Option zV → zW → Prop}  : zR 78 5 [l0, l1, l2, l3] st w Q = zR 78 7 [l0, l1, l2, l3] (.inl 7 :: st) w Q := zR_go (zst zT_78_5 rfl)
theorem zT_78_7 : zT 78 7 = some (.if_icmp .ge 67, 3, 0, []) := by decide +kernel
theorem zr_78_7 {l0 l1 l2 l3 : Option zV} {x y : Int} {st : List zV} {w : zW} {Q : Option zV → zW → Prop}  : zR 78 7 [l0, l1, l2, l3] (.inl y :: .inl x :: st) w Q = (if zN y ≤ zN x then zR 78 74 [l0, l1, l2, l3] st w Q else zR 78 10 [l0, l1, l2, l3] st w Q) := zR_if (zstB zT_78_7 rfl) (by simp [zcmp])
theorem zT_78_10 : zT 78 10 = some (.aload_n 0, 1, 0, []) := by decide +kernel
theorem zr_78_10 {l1 l2 l3 : Option zV} {x : Option Nat} {st : List zV} {w : zW} {Q : Option zV → zW → Prop}  : zR 78 10 [some (.inr x), l1, l2, l3] st w Q = zR 78 11 [some (.inr x), l1, l2, l3] (.inr x :: st) w Q := zR_go (zst zT_78_10 rfl)
theorem zT_78_11 : zT 78 11 = some (.getfield 11, 3, 0, [(5, 1)]) := by decide +kernel
theorem zr_78_11 {l0 l1 l2 l3 : Option zV} {h : Nat} {st : List zV} {w : zW} {Q : Option zV → zW → Prop} (hk : zk w h = 5) : zR 78 11 [l0, l1, l2, l3] (.inr (some h) :: st) w Q = zR 78 14 [l0, l1, l2, l3] (.inr (zp w 42 h) :: st) w Q := zR_go (zst zT_78_11 (zget_r hk rfl))
theorem zT_78_14 : zT 78 14 = some (.iload_n 2, 1, 0, []) := by decide +kernel
theorem zr_78_14 {l0 l1 l3 : Option zV} {x : Int} {st : List zV} {w : zW} {Q : Option zV → zW → Prop}  : zR 78 14 [l0, l1, some (.inl x), l3] st w Q = zR 78 15 [l0, l1, some (.inl x), l3] (.inl x :: st) w Q := zR_go (zst zT_78_14 rfl)
theorem zT_78_15 : zT 78 15 = some (.aaload, 1, 0, []) := by decide +kernel
theorem zr_78_15 {l0 l1 l2 l3 : Option zV} {j : Int} {h : Nat} {st : List zV} {w : zW} {Q : Option zV → zW → Prop} (hk : zNC + 2 < zk w h ∧ zk w h < 1000 ∧ 0 ≤ zN j ∧ zN j < zl w h) : zR 78 15 [l0, l1, l2, l3] (.inl j :: .inr (some h) :: st) w Q = zR 78 16 [l0, l1, l2, l3] (.inr (zb w h (zN j).toNat) :: st) w Q := zR_go (zst zT_78_15 (if_pos hk))
theorem zT_78_16 : zT 78 16 = some (.astore_n 3, 1, 0, []) := by decide +kernel
theorem zr_78_16 {l0 l1 l2 l3 : Option zV} {x : Option Nat} {st : List zV} {w : zW} {Q : Option zV → zW → Prop}  : zR 78 16 [l0, l1, l2, l3] (.inr x :: st) w Q = zR 78 17 [l0, l1, l2, some (.inr x)] st w Q := zR_go (zst zT_78_16 rfl)
theorem zT_78_17 : zT 78 17 = some (.aload_n 3, 1, 0, []) := by decide +kernel
theorem zr_78_17 {l0 l1 l2 : Option zV} {x : Option Nat} {st : List zV} {w : zW} {Q : Option zV → zW → Prop}  : zR 78 17 [l0, l1, l2, some (.inr x)] st w Q = zR 78 18 [l0, l1, l2, some (.inr x)] (.inr x :: st) w Q := zR_go (zst zT_78_17 rfl)
theorem zT_78_18 : zT 78 18 = some (.ifnull 50, 3, 0, []) := by decide +kernel
theorem zr_78_18n {l0 l1 l2 l3 : Option zV} {st : List zV} {w : zW} {Q : Option zV → zW → Prop}  : zR 78 18 [l0, l1, l2, l3] (.inr none :: st) w Q = zR 78 68 [l0, l1, l2, l3] st w Q := zR_go (zst zT_78_18 rfl)
theorem zr_78_18s {l0 l1 l2 l3 : Option zV} {h : Nat} {st : List zV} {w : zW} {Q : Option zV → zW → Prop}  : zR 78 18 [l0, l1, l2, l3] (.inr (some h) :: st) w Q = zR 78 21 [l0, l1, l2, l3] st w Q := zR_go (zst zT_78_18 rfl)
theorem zT_78_21 : zT 78 21 = some (.aload_n 0, 1, 0, []) := by decide +kernel
theorem zr_78_21 {l1 l2 l3 : Option zV} {x : Option Nat} {st : List zV} {w : zW} {Q : Option zV → zW → Prop}  : zR 78 21 [some (.inr x), l1, l2, l3] st w Q = zR 78 22 [some (.inr x), l1, l2, l3] (.inr x :: st) w Q := zR_go (zst zT_78_21 rfl)
theorem zT_78_22 : zT 78 22 = some (.aload_n 3, 1, 0, []) := by decide +kernel
theorem zr_78_22 {l0 l1 l2 : Option zV} {x : Option Nat} {st : List zV} {w : zW} {Q : Option zV → zW → Prop}  : zR 78 22 [l0, l1, l2, some (.inr x)] st w Q = zR 78 23 [l0, l1, l2, some (.inr x)] (.inr x :: st) w Q := zR_go (zst zT_78_22 rfl)
theorem zT_78_23 : zT 78 23 = some (.invokevirtual 55, 3, 1, [(5, 79)]) := by decide +kernel
theorem zr_78_23 {l0 l1 l2 l3 : Option zV} {a0 : zV} {h : Nat} {st : List zV} {w : zW} {Q : Option zV → zW → Prop} (hs : st.length ≤ 8) (hk : zk w h = 5) : zR 78 23 [l0, l1, l2, l3] (a0 :: .inr (some h) :: st) w Q = zR 79 0 [some (.inr (some h)), some a0] [] w (fun r w2 => zR 78 26 [l0, l1, l2, l3] (r.toList ++ st) w2 Q) := zR_call (zst zT_78_23 (zcall_v [a0] rfl hs hk rfl))
theorem zT_78_26 : zT 78 26 = some (.ifCond .ne 6, 3, 0, []) := by decide +kernel
theorem zr_78_26 {l0 l1 l2 l3 : Option zV} {x : Int} {st : List zV} {w : zW} {Q : Option zV → zW → Prop}  : zR 78 26 [l0, l1, l2, l3] (.inl x :: st) w Q = (if zN x ≠ 0 then zR 78 32 [l0, l1, l2, l3] st w Q else zR 78 29 [l0, l1, l2, l3] st w Q) := zR_if (zstB zT_78_26 rfl) (by simp [zcmp])
theorem zT_78_29 : zT 78 29 = some (.goto 39, 3, 0, []) := by decide +kernel
theorem zr_78_29 {l0 l1 l2 l3 : Option zV} {st : List zV} {w : zW} {Q : Option zV → zW → Prop}  : zR 78 29 [l0, l1, l2, l3] st w Q = zR 78 68 [l0, l1, l2, l3] st w Q := zR_go (zst zT_78_29 rfl)
theorem zT_78_32 : zT 78 32 = some (.aload_n 0, 1, 0, []) := by decide +kernel
theorem zr_78_32 {l1 l2 l3 : Option zV} {x : Option Nat} {st : List zV} {w : zW} {Q : Option zV → zW → Prop}  : zR 78 32 [some (.inr x), l1, l2, l3] st w Q = zR 78 33 [some (.inr x), l1, l2, l3] (.inr x :: st) w Q := zR_go (zst zT_78_32 rfl)
theorem zT_78_33 : zT 78 33 = some (.aload_n 3, 1, 0, []) := by decide +kernel
theorem zr_78_33 {l0 l1 l2 : Option zV} {x : Option Nat} {st : List zV} {w : zW} {Q : Option zV → zW → Prop}  : zR 78 33 [l0, l1, l2, some (.inr x)] st w Q = zR 78 34 [l0, l1, l2, some (.inr x)] (.inr x :: st) w Q := zR_go (zst zT_78_33 rfl)
theorem zT_78_34 : zT 78 34 = some (.invokevirtual 59, 3, 1, [(5, 81)]) := by decide +kernel
theorem zr_78_34 {l0 l1 l2 l3 : Option zV} {a0 : zV} {h : Nat} {st : List zV} {w : zW} {Q : Option zV → zW → Prop} (hs : st.length ≤ 8) (hk : zk w h = 5) : zR 78 34 [l0, l1, l2, l3] (a0 :: .inr (some h) :: st) w Q = zR 81 0 [some (.inr (some h)), some a0, none, none] [] w (fun r w2 => zR 78 37 [l0, l1, l2, l3] (r.toList ++ st) w2 Q) := zR_call (zst zT_78_34 (zcall_v [a0] rfl hs hk rfl))
theorem zT_78_37 : zT 78 37 = some (.aload_n 1, 1, 0, []) := by decide +kernel
theorem zr_78_37 {l0 l2 l3 : Option zV} {x : Option Nat} {st : List zV} {w : zW} {Q : Option zV → zW → Prop}  : zR 78 37 [l0, some (.inr x), l2, l3] st w Q = zR 78 38 [l0, some (.inr x), l2, l3] (.inr x :: st) w Q := zR_go (zst zT_78_37 rfl)
theorem zT_78_38 : zT 78 38 = some (.ifnull 17, 3, 0, []) := by decide +kernel
theorem zr_78_38n {l0 l1 l2 l3 : Option zV} {st : List zV} {w : zW} {Q : Option zV → zW → Prop}  : zR 78 38 [l0, l1, l2, l3] (.inr none :: st) w Q = zR 78 55 [l0, l1, l2, l3] st w Q := zR_go (zst zT_78_38 rfl)
theorem zr_78_38s {l0 l1 l2 l3 : Option zV} {h : Nat} {st : List zV} {w : zW} {Q : Option zV → zW → Prop}  : zR 78 38 [l0, l1, l2, l3] (.inr (some h) :: st) w Q = zR 78 41 [l0, l1, l2, l3] st w Q := zR_go (zst zT_78_38 rfl)
theorem zT_78_41 : zT 78 41 = some (.aload_n 0, 1, 0, []) := by decide +kernel
theorem zr_78_41 {l1 l2 l3 : Option zV} {x : Option Nat} {st : List zV} {w : zW} {Q : Option zV → zW → Prop}  : zR 78 41 [some (.inr x), l1, l2, l3] st w Q = zR 78 42 [some (.inr x), l1, l2, l3] (.inr x :: st) w Q := zR_go (zst zT_78_41 rfl)
theorem zT_78_42 : zT 78 42 = some (.getfield 35, 3, 0, [(5, 6)]) := by decide +kernel
theorem zr_78_42 {l0 l1 l2 l3 : Option zV} {h : Nat} {st : List zV} {w : zW} {Q : Option zV → zW → Prop} (hk : zk w h = 5) : zR 78 42 [l0, l1, l2, l3] (.inr (some h) :: st) w Q = zR 78 45 [l0, l1, l2, l3] (.inr (zp w 47 h) :: st) w Q := zR_go (zst zT_78_42 (zget_r hk rfl))
theorem zT_78_45 : zT 78 45 = some (.aload_n 0, 1, 0, []) := by decide +kernel
theorem zr_78_45 {l1 l2 l3 : Option zV} {x : Option Nat} {st : List zV} {w : zW} {Q : Option zV → zW → Prop}  : zR 78 45 [some (.inr x), l1, l2, l3] st w Q = zR 78 46 [some (.inr x), l1, l2, l3] (.inr x :: st) w Q := zR_go (zst zT_78_45 rfl)
theorem zT_78_46 : zT 78 46 = some (.getfield 27, 3, 0, [(5, 3)]) := by decide +kernel
theorem zr_78_46 {l0 l1 l2 l3 : Option zV} {h : Nat} {st : List zV} {w : zW} {Q : Option zV → zW → Prop} (hk : zk w h = 5) : zR 78 46 [l0, l1, l2, l3] (.inr (some h) :: st) w Q = zR 78 49 [l0, l1, l2, l3] (.inr (zp w 44 h) :: st) w Q := zR_go (zst zT_78_46 (zget_r hk rfl))
theorem zT_78_49 : zT 78 49 = some (.invokevirtual 63, 3, 1, [(7, 143)]) := by decide +kernel
theorem zr_78_49 {l0 l1 l2 l3 : Option zV} {a0 : zV} {h : Nat} {st : List zV} {w : zW} {Q : Option zV → zW → Prop} (hs : st.length ≤ 8) (hk : zk w h = 7) : zR 78 49 [l0, l1, l2, l3] (a0 :: .inr (some h) :: st) w Q = zR 143 0 [some (.inr (some h)), some a0, none, none] [] w (fun r w2 => zR 78 52 [l0, l1, l2, l3] (r.toList ++ st) w2 Q) := zR_call (zst zT_78_49 (zcall_v [a0] rfl hs hk rfl))
theorem zT_78_52 : zT 78 52 = some (.ifCond .eq 16, 3, 0, []) := by decide +kernel
theorem zr_78_52 {l0 l1 l2 l3 : Option zV} {x : Int} {st : List zV} {w : zW} {Q : Option zV → zW → Prop}  : zR 78 52 [l0, l1, l2, l3] (.inl x :: st) w Q = (if zN x = 0 then zR 78 68 [l0, l1, l2, l3] st w Q else zR 78 55 [l0, l1, l2, l3] st w Q) := zR_if (zstB zT_78_52 rfl) (by simp [zcmp])
theorem zT_78_55 : zT 78 55 = some (.aload_n 0, 1, 0, []) := by decide +kernel
theorem zr_78_55 {l1 l2 l3 : Option zV} {x : Option Nat} {st : List zV} {w : zW} {Q : Option zV → zW → Prop}  : zR 78 55 [some (.inr x), l1, l2, l3] st w Q = zR 78 56 [some (.inr x), l1, l2, l3] (.inr x :: st) w Q := zR_go (zst zT_78_55 rfl)
theorem zT_78_56 : zT 78 56 = some (.getfield 27, 3, 0, [(5, 3)]) := by decide +kernel
theorem zr_78_56 {l0 l1 l2 l3 : Option zV} {h : Nat} {st : List zV} {w : zW} {Q : Option zV → zW → Prop} (hk : zk w h = 5) : zR 78 56 [l0, l1, l2, l3] (.inr (some h) :: st) w Q = zR 78 59 [l0, l1, l2, l3] (.inr (zp w 44 h) :: st) w Q := zR_go (zst zT_78_56 (zget_r hk rfl))
theorem zT_78_59 : zT 78 59 = some (.aload_n 0, 1, 0, []) := by decide +kernel
theorem zr_78_59 {l1 l2 l3 : Option zV} {x : Option Nat} {st : List zV} {w : zW} {Q : Option zV → zW → Prop}  : zR 78 59 [some (.inr x), l1, l2, l3] st w Q = zR 78 60 [some (.inr x), l1, l2, l3] (.inr x :: st) w Q := zR_go (zst zT_78_59 rfl)
theorem zT_78_60 : zT 78 60 = some (.getfield 35, 3, 0, [(5, 6)]) := by decide +kernel
theorem zr_78_60 {l0 l1 l2 l3 : Option zV} {h : Nat} {st : List zV} {w : zW} {Q : Option zV → zW → Prop} (hk : zk w h = 5) : zR 78 60 [l0, l1, l2, l3] (.inr (some h) :: st) w Q = zR 78 63 [l0, l1, l2, l3] (.inr (zp w 47 h) :: st) w Q := zR_go (zst zT_78_60 (zget_r hk rfl))
theorem zT_78_63 : zT 78 63 = some (.invokevirtual 67, 3, 1, [(7, 144)]) := by decide +kernel
theorem zr_78_63 {l0 l1 l2 l3 : Option zV} {a0 : zV} {h : Nat} {st : List zV} {w : zW} {Q : Option zV → zW → Prop} (hs : st.length ≤ 8) (hk : zk w h = 7) : zR 78 63 [l0, l1, l2, l3] (a0 :: .inr (some h) :: st) w Q = zR 144 0 [some (.inr (some h)), some a0] [] w (fun r w2 => zR 78 66 [l0, l1, l2, l3] (r.toList ++ st) w2 Q) := zR_call (zst zT_78_63 (zcall_v [a0] rfl hs hk rfl))
theorem zT_78_66 : zT 78 66 = some (.aload_n 3, 1, 0, []) := by decide +kernel
theorem zr_78_66 {l0 l1 l2 : Option zV} {x : Option Nat} {st : List zV} {w : zW} {Q : Option zV → zW → Prop}  : zR 78 66 [l0, l1, l2, some (.inr x)] st w Q = zR 78 67 [l0, l1, l2, some (.inr x)] (.inr x :: st) w Q := zR_go (zst zT_78_66 rfl)
theorem zT_78_67 : zT 78 67 = some (.astore_n 1, 1, 0, []) := by decide +kernel
theorem zr_78_67 {l0 l1 l2 l3 : Option zV} {x : Option Nat} {st : List zV} {w : zW} {Q : Option zV → zW → Prop}  : zR 78 67 [l0, l1, l2, l3] (.inr x :: st) w Q = zR 78 68 [l0, some (.inr x), l2, l3] st w Q := zR_go (zst zT_78_67 rfl)
theorem zT_78_68 : zT 78 68 = some (.iinc 2 1, 3, 0, []) := by decide +kernel
theorem zr_78_68 {l0 l1 l3 : Option zV} {x : Int} {st : List zV} {w : zW} {Q : Option zV → zW → Prop}  : zR 78 68 [l0, l1, some (.inl x), l3] st w Q = zR 78 71 [l0, l1, some (.inl (x + 1)), l3] st w Q := zR_go (zst zT_78_68 rfl)
theorem zT_78_71 : zT 78 71 = some (.goto (-67), 3, 0, []) := by decide +kernel
theorem zr_78_71 {l0 l1 l2 l3 : Option zV} {st : List zV} {w : zW} {Q : Option zV → zW → Prop}  : zR 78 71 [l0, l1, l2, l3] st w Q = zR 78 4 [l0, l1, l2, l3] st w Q := zR_go (zst zT_78_71 rfl)
theorem zT_78_74 : zT 78 74 = some (.aload_n 1, 1, 0, []) := by decide +kernel
theorem zr_78_74 {l0 l2 l3 : Option zV} {x : Option Nat} {st : List zV} {w : zW} {Q : Option zV → zW → Prop}  : zR 78 74 [l0, some (.inr x), l2, l3] st w Q = zR 78 75 [l0, some (.inr x), l2, l3] (.inr x :: st) w Q := zR_go (zst zT_78_74 rfl)
theorem zT_78_75 : zT 78 75 = some (.areturn, 1, 0, []) := by decide +kernel
theorem zr_78_75 {l0 l1 l2 l3 : Option zV} {x : Option Nat} {w : zW} {Q : Option zV → zW → Prop} : zR 78 75 [l0, l1, l2, l3] [.inr x] w Q = Q (some (.inr x)) w := zR_ret (zst zT_78_75 rfl)
theorem zT_79_0 : zT 79 0 = some (.aload_n 1, 1, 0, []) := by decide +kernel
theorem zr_79_0 {l0 : Option zV} {x : Option Nat} {st : List zV} {w : zW} {Q : Option zV → zW → Prop}  : zR 79 0 [l0, some (.inr x)] st w Q = zR 79 1 [l0, some (.inr x)] (.inr x :: st) w Q := zR_go (zst zT_79_0 rfl)
theorem zT_79_1 : zT 79 1 = some (.getfield 71, 3, 0, [(2, 6)]) := by decide +kernel
theorem zr_79_1 {l0 l1 : Option zV} {h : Nat} {st : List zV} {w : zW} {Q : Option zV → zW → Prop} (hk : zk w h = 2) : zR 79 1 [l0, l1] (.inr (some h) :: st) w Q = zR 79 4 [l0, l1] (.inl (zf w 23 h) :: st) w Q := zR_go (zst zT_79_1 (zget_i hk (Or.inl rfl)))
theorem zT_79_4 : zT 79 4 = some (.ifCond .le 22, 3, 0, []) := by decide +kernel
theorem zr_79_4 {l0 l1 : Option zV} {x : Int} {st : List zV} {w : zW} {Q : Option zV → zW → Prop}  : zR 79 4 [l0, l1] (.inl x :: st) w Q = (if zN x ≤ 0 then zR 79 26 [l0, l1] st w Q else zR 79 7 [l0, l1] st w Q) := zR_if (zstB zT_79_4 rfl) (by simp [zcmp])
theorem zT_79_7 : zT 79 7 = some (.aload_n 1, 1, 0, []) := by decide +kernel
theorem zr_79_7 {l0 : Option zV} {x : Option Nat} {st : List zV} {w : zW} {Q : Option zV → zW → Prop}  : zR 79 7 [l0, some (.inr x)] st w Q = zR 79 8 [l0, some (.inr x)] (.inr x :: st) w Q := zR_go (zst zT_79_7 rfl)
theorem zT_79_8 : zT 79 8 = some (.getfield 74, 3, 0, [(2, 2)]) := by decide +kernel
theorem zr_79_8 {l0 l1 : Option zV} {h : Nat} {st : List zV} {w : zW} {Q : Option zV → zW → Prop} (hk : zk w h = 2) : zR 79 8 [l0, l1] (.inr (some h) :: st) w Q = zR 79 11 [l0, l1] (.inl (zf w 19 h) :: st) w Q := zR_go (zst zT_79_8 (zget_i hk (Or.inl rfl)))
theorem zT_79_11 : zT 79 11 = some (.ifCond .eq 15, 3, 0, []) := by decide +kernel
theorem zr_79_11 {l0 l1 : Option zV} {x : Int} {st : List zV} {w : zW} {Q : Option zV → zW → Prop}  : zR 79 11 [l0, l1] (.inl x :: st) w Q = (if zN x = 0 then zR 79 26 [l0, l1] st w Q else zR 79 14 [l0, l1] st w Q) := zR_if (zstB zT_79_11 rfl) (by simp [zcmp])
theorem zT_79_14 : zT 79 14 = some (.aload_n 0, 1, 0, []) := by decide +kernel
theorem zr_79_14 {l1 : Option zV} {x : Option Nat} {st : List zV} {w : zW} {Q : Option zV → zW → Prop}  : zR 79 14 [some (.inr x), l1] st w Q = zR 79 15 [some (.inr x), l1] (.inr x :: st) w Q := zR_go (zst zT_79_14 rfl)
theorem zT_79_15 : zT 79 15 = some (.aload_n 1, 1, 0, []) := by decide +kernel
theorem zr_79_15 {l0 : Option zV} {x : Option Nat} {st : List zV} {w : zW} {Q : Option zV → zW → Prop}  : zR 79 15 [l0, some (.inr x)] st w Q = zR 79 16 [l0, some (.inr x)] (.inr x :: st) w Q := zR_go (zst zT_79_15 rfl)
theorem zT_79_16 : zT 79 16 = some (.invokevirtual 77, 3, 1, [(5, 80)]) := by decide +kernel
theorem zr_79_16 {l0 l1 : Option zV} {a0 : zV} {h : Nat} {st : List zV} {w : zW} {Q : Option zV → zW → Prop} (hs : st.length ≤ 8) (hk : zk w h = 5) : zR 79 16 [l0, l1] (a0 :: .inr (some h) :: st) w Q = zR 80 0 [some (.inr (some h)), some a0, none] [] w (fun r w2 => zR 79 19 [l0, l1] (r.toList ++ st) w2 Q) := zR_call (zst zT_79_16 (zcall_v [a0] rfl hs hk rfl))
theorem zT_79_19 : zT 79 19 = some (.ifCond .eq 7, 3, 0, []) := by decide +kernel
theorem zr_79_19 {l0 l1 : Option zV} {x : Int} {st : List zV} {w : zW} {Q : Option zV → zW → Prop}  : zR 79 19 [l0, l1] (.inl x :: st) w Q = (if zN x = 0 then zR 79 26 [l0, l1] st w Q else zR 79 22 [l0, l1] st w Q) := zR_if (zstB zT_79_19 rfl) (by simp [zcmp])
theorem zT_79_22 : zT 79 22 = some (.iconst 1, 1, 0, []) := by decide +kernel
theorem zr_79_22 {l0 l1 : Option zV} {st : List zV} {w : zW} {Q : Option zV → zW → Prop}  : zR 79 22 [l0, l1] st w Q = zR 79 23 [l0, l1] (.inl 1 :: st) w Q := zR_go (zst zT_79_22 rfl)
theorem zT_79_23 : zT 79 23 = some (.goto 4, 3, 0, []) := by decide +kernel
theorem zr_79_23 {l0 l1 : Option zV} {st : List zV} {w : zW} {Q : Option zV → zW → Prop}  : zR 79 23 [l0, l1] st w Q = zR 79 27 [l0, l1] st w Q := zR_go (zst zT_79_23 rfl)
theorem zT_79_26 : zT 79 26 = some (.iconst 0, 1, 0, []) := by decide +kernel
theorem zr_79_26 {l0 l1 : Option zV} {st : List zV} {w : zW} {Q : Option zV → zW → Prop}  : zR 79 26 [l0, l1] st w Q = zR 79 27 [l0, l1] (.inl 0 :: st) w Q := zR_go (zst zT_79_26 rfl)
theorem zT_79_27 : zT 79 27 = some (.ireturn, 1, 0, []) := by decide +kernel
theorem zr_79_27 {l0 l1 : Option zV} {x : Int} {w : zW} {Q : Option zV → zW → Prop} (hx : zN x = 0 ∨ zN x = 1) : zR 79 27 [l0, l1] [.inl x] w Q = Q (some (.inl x)) w := zR_ret (zst zT_79_27 (if_pos (Or.inr ⟨rfl, hx⟩)))
theorem zT_80_0 : zT 80 0 = some (.aload_n 1, 1, 0, []) := by decide +kernel
theorem zr_80_0 {l0 l2 : Option zV} {x : Option Nat} {st : List zV} {w : zW} {Q : Option zV → zW → Prop}  : zR 80 0 [l0, some (.inr x), l2] st w Q = zR 80 1 [l0, some (.inr x), l2] (.inr x :: st) w Q := zR_go (zst zT_80_0 rfl)
theorem zT_80_1 : zT 80 1 = some (.getfield 81, 3, 0, [(2, 0)]) := by decide +kernel
theorem zr_80_1 {l0 l1 l2 : Option zV} {h : Nat} {st : List zV} {w : zW} {Q : Option zV → zW → Prop} (hk : zk w h = 2) : zR 80 1 [l0, l1, l2] (.inr (some h) :: st) w Q = zR 80 4 [l0, l1, l2] (.inl (zf w 17 h) :: st) w Q := zR_go (zst zT_80_1 (zget_i hk (Or.inr rfl)))
theorem zT_80_4 : zT 80 4 = some (.ifCond .ne 6, 3, 0, []) := by decide +kernel
theorem zr_80_4 {l0 l1 l2 : Option zV} {x : Int} {st : List zV} {w : zW} {Q : Option zV → zW → Prop}  : zR 80 4 [l0, l1, l2] (.inl x :: st) w Q = (if zN x ≠ 0 then zR 80 10 [l0, l1, l2] st w Q else zR 80 7 [l0, l1, l2] st w Q) := zR_if (zstB zT_80_4 rfl) (by simp [zcmp])
theorem zT_80_7 : zT 80 7 = some (.bipush 8, 2, 0, []) := by decide +kernel
theorem zr_80_7 {l0 l1 l2 : Option zV} {st : List zV} {w : zW} {Q : Option zV → zW → Prop}  : zR 80 7 [l0, l1, l2] st w Q = zR 80 9 [l0, l1, l2] (.inl 8 :: st) w Q := zR_go (zst zT_80_7 rfl)
theorem zT_80_9 : zT 80 9 = some (.ireturn, 1, 0, []) := by decide +kernel
theorem zr_80_9 {l0 l1 l2 : Option zV} {x : Int} {w : zW} {Q : Option zV → zW → Prop}  : zR 80 9 [l0, l1, l2] [.inl x] w Q = Q (some (.inl x)) w := zR_ret (zst zT_80_9 rfl)
theorem zT_80_10 : zT 80 10 = some (.aload_n 1, 1, 0, []) := by decide +kernel
theorem zr_80_10 {l0 l2 : Option zV} {x : Option Nat} {st : List zV} {w : zW} {Q : Option zV → zW → Prop}  : zR 80 10 [l0, some (.inr x), l2] st w Q = zR 80 11 [l0, some (.inr x), l2] (.inr x :: st) w Q := zR_go (zst zT_80_10 rfl)
theorem zT_80_11 : zT 80 11 = some (.invokevirtual 85, 3, 0, [(2, 130)]) := by decide +kernel
theorem zr_80_11 {l0 l1 l2 : Option zV} {h : Nat} {st : List zV} {w : zW} {Q : Option zV → zW → Prop} (hs : st.length ≤ 8) (hk : zk w h = 2) : zR 80 11 [l0, l1, l2] (.inr (some h) :: st) w Q = zR 130 0 [some (.inr (some h))] [] w (fun r w2 => zR 80 14 [l0, l1, l2] (r.toList ++ st) w2 Q) := zR_call (zst zT_80_11 (zcall_v [] rfl hs hk rfl))
theorem zT_80_14 : zT 80 14 = some (.getfield 89, 3, 0, [(3, 0)]) := by decide +kernel
theorem zr_80_14 {l0 l1 l2 : Option zV} {h : Nat} {st : List zV} {w : zW} {Q : Option zV → zW → Prop} (hk : zk w h = 3) : zR 80 14 [l0, l1, l2] (.inr (some h) :: st) w Q = zR 80 17 [l0, l1, l2] (.inl (zf w 26 h) :: st) w Q := zR_go (zst zT_80_14 (zget_i hk (Or.inl rfl)))
theorem zT_80_17 : zT 80 17 = some (.istore_n 2, 1, 0, []) := by decide +kernel
theorem zr_80_17 {l0 l1 l2 : Option zV} {x : Int} {st : List zV} {w : zW} {Q : Option zV → zW → Prop}  : zR 80 17 [l0, l1, l2] (.inl x :: st) w Q = zR 80 18 [l0, l1, some (.inl x)] st w Q := zR_go (zst zT_80_17 rfl)
theorem zT_80_18 : zT 80 18 = some (.iload_n 2, 1, 0, []) := by decide +kernel
theorem zr_80_18 {l0 l1 : Option zV} {x : Int} {st : List zV} {w : zW} {Q : Option zV → zW → Prop}  : zR 80 18 [l0, l1, some (.inl x)] st w Q = zR 80 19 [l0, l1, some (.inl x)] (.inl x :: st) w Q := zR_go (zst zT_80_18 rfl)
theorem zT_80_19 : zT 80 19 = some (.bipush 32, 2, 0, []) := by decide +kernel
theorem zr_80_19 {l0 l1 l2 : Option zV} {st : List zV} {w : zW} {Q : Option zV → zW → Prop}  : zR 80 19 [l0, l1, l2] st w Q = zR 80 21 [l0, l1, l2] (.inl 32 :: st) w Q := zR_go (zst zT_80_19 rfl)
theorem zT_80_21 : zT 80 21 = some (.if_icmp .lt 26, 3, 0, []) := by decide +kernel
theorem zr_80_21 {l0 l1 l2 : Option zV} {x y : Int} {st : List zV} {w : zW} {Q : Option zV → zW → Prop}  : zR 80 21 [l0, l1, l2] (.inl y :: .inl x :: st) w Q = (if zN x < zN y then zR 80 47 [l0, l1, l2] st w Q else zR 80 24 [l0, l1, l2] st w Q) := zR_if (zstB zT_80_21 rfl) (by simp [zcmp])
theorem zT_80_24 : zT 80 24 = some (.aload_n 0, 1, 0, []) := by decide +kernel
theorem zr_80_24 {l1 l2 : Option zV} {x : Option Nat} {st : List zV} {w : zW} {Q : Option zV → zW → Prop}  : zR 80 24 [some (.inr x), l1, l2] st w Q = zR 80 25 [some (.inr x), l1, l2] (.inr x :: st) w Q := zR_go (zst zT_80_24 rfl)
theorem zT_80_25 : zT 80 25 = some (.getfield 38, 3, 0, [(5, 0)]) := by decide +kernel
theorem zr_80_25 {l0 l1 l2 : Option zV} {h : Nat} {st : List zV} {w : zW} {Q : Option zV → zW → Prop} (hk : zk w h = 5) : zR 80 25 [l0, l1, l2] (.inr (some h) :: st) w Q = zR 80 28 [l0, l1, l2] (.inl (zf w 41 h) :: st) w Q := zR_go (zst zT_80_25 (zget_i hk (Or.inl rfl)))
theorem zT_80_28 : zT 80 28 = some (.iconst 1, 1, 0, []) := by decide +kernel
theorem zr_80_28 {l0 l1 l2 : Option zV} {st : List zV} {w : zW} {Q : Option zV → zW → Prop}  : zR 80 28 [l0, l1, l2] st w Q = zR 80 29 [l0, l1, l2] (.inl 1 :: st) w Q := zR_go (zst zT_80_28 rfl)
theorem zT_80_29 : zT 80 29 = some (.if_icmp .ne 10, 3, 0, []) := by decide +kernel
theorem zr_80_29 {l0 l1 l2 : Option zV} {x y : Int} {st : List zV} {w : zW} {Q : Option zV → zW → Prop}  : zR 80 29 [l0, l1, l2] (.inl y :: .inl x :: st) w Q = (if zN x ≠ zN y then zR 80 39 [l0, l1, l2] st w Q else zR 80 32 [l0, l1, l2] st w Q) := zR_if (zstB zT_80_29 rfl) (by simp [zcmp])
theorem zT_80_32 : zT 80 32 = some (.iload_n 2, 1, 0, []) := by decide +kernel
theorem zr_80_32 {l0 l1 : Option zV} {x : Int} {st : List zV} {w : zW} {Q : Option zV → zW → Prop}  : zR 80 32 [l0, l1, some (.inl x)] st w Q = zR 80 33 [l0, l1, some (.inl x)] (.inl x :: st) w Q := zR_go (zst zT_80_32 rfl)
theorem zT_80_33 : zT 80 33 = some (.bipush 16, 2, 0, []) := by decide +kernel
theorem zr_80_33 {l0 l1 l2 : Option zV} {st : List zV} {w : zW} {Q : Option zV → zW → Prop}  : zR 80 33 [l0, l1, l2] st w Q = zR 80 35 [l0, l1, l2] (.inl 16 :: st) w Q := zR_go (zst zT_80_33 rfl)
theorem zT_80_35 : zT 80 35 = some (.isub, 1, 0, []) := by decide +kernel
theorem zr_80_35 {l0 l1 l2 : Option zV} {x y : Int} {st : List zV} {w : zW} {Q : Option zV → zW → Prop}  : zR 80 35 [l0, l1, l2] (.inl y :: .inl x :: st) w Q = zR 80 36 [l0, l1, l2] (.inl (x - y) :: st) w Q := zR_go (zst zT_80_35 rfl)
theorem zT_80_36 : zT 80 36 = some (.goto 10, 3, 0, []) := by decide +kernel
theorem zr_80_36 {l0 l1 l2 : Option zV} {st : List zV} {w : zW} {Q : Option zV → zW → Prop}  : zR 80 36 [l0, l1, l2] st w Q = zR 80 46 [l0, l1, l2] st w Q := zR_go (zst zT_80_36 rfl)
theorem zT_80_39 : zT 80 39 = some (.aload_n 0, 1, 0, []) := by decide +kernel
theorem zr_80_39 {l1 l2 : Option zV} {x : Option Nat} {st : List zV} {w : zW} {Q : Option zV → zW → Prop}  : zR 80 39 [some (.inr x), l1, l2] st w Q = zR 80 40 [some (.inr x), l1, l2] (.inr x :: st) w Q := zR_go (zst zT_80_39 rfl)
theorem zT_80_40 : zT 80 40 = some (.getfield 20, 3, 0, [(5, 2)]) := by decide +kernel
theorem zr_80_40 {l0 l1 l2 : Option zV} {h : Nat} {st : List zV} {w : zW} {Q : Option zV → zW → Prop} (hk : zk w h = 5) : zR 80 40 [l0, l1, l2] (.inr (some h) :: st) w Q = zR 80 43 [l0, l1, l2] (.inr (zp w 43 h) :: st) w Q := zR_go (zst zT_80_40 (zget_r hk rfl))
theorem zT_80_43 : zT 80 43 = some (.getfield 94, 3, 0, [(6, 3)]) := by decide +kernel
theorem zr_80_43 {l0 l1 l2 : Option zV} {h : Nat} {st : List zV} {w : zW} {Q : Option zV → zW → Prop} (hk : zk w h = 6) : zR 80 43 [l0, l1, l2] (.inr (some h) :: st) w Q = zR 80 46 [l0, l1, l2] (.inl (zf w 51 h) :: st) w Q := zR_go (zst zT_80_43 (zget_i hk (Or.inl rfl)))
theorem zT_80_46 : zT 80 46 = some (.ireturn, 1, 0, []) := by decide +kernel
theorem zr_80_46 {l0 l1 l2 : Option zV} {x : Int} {w : zW} {Q : Option zV → zW → Prop}  : zR 80 46 [l0, l1, l2] [.inl x] w Q = Q (some (.inl x)) w := zR_ret (zst zT_80_46 rfl)
theorem zT_80_47 : zT 80 47 = some (.aload_n 0, 1, 0, []) := by decide +kernel
theorem zr_80_47 {l1 l2 : Option zV} {x : Option Nat} {st : List zV} {w : zW} {Q : Option zV → zW → Prop}  : zR 80 47 [some (.inr x), l1, l2] st w Q = zR 80 48 [some (.inr x), l1, l2] (.inr x :: st) w Q := zR_go (zst zT_80_47 rfl)
theorem zT_80_48 : zT 80 48 = some (.getfield 38, 3, 0, [(5, 0)]) := by decide +kernel
theorem zr_80_48 {l0 l1 l2 : Option zV} {h : Nat} {st : List zV} {w : zW} {Q : Option zV → zW → Prop} (hk : zk w h = 5) : zR 80 48 [l0, l1, l2] (.inr (some h) :: st) w Q = zR 80 51 [l0, l1, l2] (.inl (zf w 41 h) :: st) w Q := zR_go (zst zT_80_48 (zget_i hk (Or.inl rfl)))
theorem zT_80_51 : zT 80 51 = some (.iconst 1, 1, 0, []) := by decide +kernel
theorem zr_80_51 {l0 l1 l2 : Option zV} {st : List zV} {w : zW} {Q : Option zV → zW → Prop}  : zR 80 51 [l0, l1, l2] st w Q = zR 80 52 [l0, l1, l2] (.inl 1 :: st) w Q := zR_go (zst zT_80_51 rfl)
theorem zT_80_52 : zT 80 52 = some (.if_icmp .ne 7, 3, 0, []) := by decide +kernel
theorem zr_80_52 {l0 l1 l2 : Option zV} {x y : Int} {st : List zV} {w : zW} {Q : Option zV → zW → Prop}  : zR 80 52 [l0, l1, l2] (.inl y :: .inl x :: st) w Q = (if zN x ≠ zN y then zR 80 59 [l0, l1, l2] st w Q else zR 80 55 [l0, l1, l2] st w Q) := zR_if (zstB zT_80_52 rfl) (by simp [zcmp])
theorem zT_80_55 : zT 80 55 = some (.iconst 0, 1, 0, []) := by decide +kernel
theorem zr_80_55 {l0 l1 l2 : Option zV} {st : List zV} {w : zW} {Q : Option zV → zW → Prop}  : zR 80 55 [l0, l1, l2] st w Q = zR 80 56 [l0, l1, l2] (.inl 0 :: st) w Q := zR_go (zst zT_80_55 rfl)
theorem zT_80_56 : zT 80 56 = some (.goto 7, 3, 0, []) := by decide +kernel
theorem zr_80_56 {l0 l1 l2 : Option zV} {st : List zV} {w : zW} {Q : Option zV → zW → Prop}  : zR 80 56 [l0, l1, l2] st w Q = zR 80 63 [l0, l1, l2] st w Q := zR_go (zst zT_80_56 rfl)
theorem zT_80_59 : zT 80 59 = some (.iload_n 2, 1, 0, []) := by decide +kernel
theorem zr_80_59 {l0 l1 : Option zV} {x : Int} {st : List zV} {w : zW} {Q : Option zV → zW → Prop}  : zR 80 59 [l0, l1, some (.inl x)] st w Q = zR 80 60 [l0, l1, some (.inl x)] (.inl x :: st) w Q := zR_go (zst zT_80_59 rfl)
theorem zT_80_60 : zT 80 60 = some (.bipush 7, 2, 0, []) := by decide +kernel
theorem zr_80_60 {l0 l1 l2 : Option zV} {st : List zV} {w : zW} {Q : Option zV → zW → Prop}  : zR 80 60 [l0, l1, l2] st w Q = zR 80 62 [l0, l1, l2] (.inl 7 :: st) w Q := zR_go (zst zT_80_60 rfl)
theorem zT_80_62 : zT 80 62 = some (.iadd, 1, 0, []) := by decide +kernel
theorem zr_80_62 {l0 l1 l2 : Option zV} {x y : Int} {st : List zV} {w : zW} {Q : Option zV → zW → Prop}  : zR 80 62 [l0, l1, l2] (.inl y :: .inl x :: st) w Q = zR 80 63 [l0, l1, l2] (.inl (x + y) :: st) w Q := zR_go (zst zT_80_62 rfl)
theorem zT_80_63 : zT 80 63 = some (.ireturn, 1, 0, []) := by decide +kernel
theorem zr_80_63 {l0 l1 l2 : Option zV} {x : Int} {w : zW} {Q : Option zV → zW → Prop}  : zR 80 63 [l0, l1, l2] [.inl x] w Q = Q (some (.inl x)) w := zR_ret (zst zT_80_63 rfl)
theorem zT_81_0 : zT 81 0 = some (.aload_n 1, 1, 0, []) := by decide +kernel
theorem zr_81_0 {l0 l2 l3 : Option zV} {x : Option Nat} {st : List zV} {w : zW} {Q : Option zV → zW → Prop}  : zR 81 0 [l0, some (.inr x), l2, l3] st w Q = zR 81 1 [l0, some (.inr x), l2, l3] (.inr x :: st) w Q := zR_go (zst zT_81_0 rfl)
theorem zT_81_1 : zT 81 1 = some (.invokevirtual 85, 3, 0, [(2, 130)]) := by decide +kernel
theorem zr_81_1 {l0 l1 l2 l3 : Option zV} {h : Nat} {st : List zV} {w : zW} {Q : Option zV → zW → Prop} (hs : st.length ≤ 8) (hk : zk w h = 2) : zR 81 1 [l0, l1, l2, l3] (.inr (some h) :: st) w Q = zR 130 0 [some (.inr (some h))] [] w (fun r w2 => zR 81 4 [l0, l1, l2, l3] (r.toList ++ st) w2 Q) := zR_call (zst zT_81_1 (zcall_v [] rfl hs hk rfl))
theorem zT_81_4 : zT 81 4 = some (.astore_n 2, 1, 0, []) := by decide +kernel
theorem zr_81_4 {l0 l1 l2 l3 : Option zV} {x : Option Nat} {st : List zV} {w : zW} {Q : Option zV → zW → Prop}  : zR 81 4 [l0, l1, l2, l3] (.inr x :: st) w Q = zR 81 5 [l0, l1, some (.inr x), l3] st w Q := zR_go (zst zT_81_4 rfl)
theorem zT_81_5 : zT 81 5 = some (.aload_n 0, 1, 0, []) := by decide +kernel
theorem zr_81_5 {l1 l2 l3 : Option zV} {x : Option Nat} {st : List zV} {w : zW} {Q : Option zV → zW → Prop}  : zR 81 5 [some (.inr x), l1, l2, l3] st w Q = zR 81 6 [some (.inr x), l1, l2, l3] (.inr x :: st) w Q := zR_go (zst zT_81_5 rfl)
theorem zT_81_6 : zT 81 6 = some (.getfield 35, 3, 0, [(5, 6)]) := by decide +kernel
theorem zr_81_6 {l0 l1 l2 l3 : Option zV} {h : Nat} {st : List zV} {w : zW} {Q : Option zV → zW → Prop} (hk : zk w h = 5) : zR 81 6 [l0, l1, l2, l3] (.inr (some h) :: st) w Q = zR 81 9 [l0, l1, l2, l3] (.inr (zp w 47 h) :: st) w Q := zR_go (zst zT_81_6 (zget_r hk rfl))
theorem zT_81_9 : zT 81 9 = some (.invokevirtual 97, 3, 0, [(7, 139)]) := by decide +kernel
theorem zr_81_9 {l0 l1 l2 l3 : Option zV} {h : Nat} {st : List zV} {w : zW} {Q : Option zV → zW → Prop} (hs : st.length ≤ 8) (hk : zk w h = 7) : zR 81 9 [l0, l1, l2, l3] (.inr (some h) :: st) w Q = zR 139 0 [some (.inr (some h))] [] w (fun r w2 => zR 81 12 [l0, l1, l2, l3] (r.toList ++ st) w2 Q) := zR_call (zst zT_81_9 (zcall_v [] rfl hs hk rfl))
theorem zT_81_12 : zT 81 12 = some (.aload_n 0, 1, 0, []) := by decide +kernel
theorem zr_81_12 {l1 l2 l3 : Option zV} {x : Option Nat} {st : List zV} {w : zW} {Q : Option zV → zW → Prop}  : zR 81 12 [some (.inr x), l1, l2, l3] st w Q = zR 81 13 [some (.inr x), l1, l2, l3] (.inr x :: st) w Q := zR_go (zst zT_81_12 rfl)
theorem zT_81_13 : zT 81 13 = some (.getfield 35, 3, 0, [(5, 6)]) := by decide +kernel
theorem zr_81_13 {l0 l1 l2 l3 : Option zV} {h : Nat} {st : List zV} {w : zW} {Q : Option zV → zW → Prop} (hk : zk w h = 5) : zR 81 13 [l0, l1, l2, l3] (.inr (some h) :: st) w Q = zR 81 16 [l0, l1, l2, l3] (.inr (zp w 47 h) :: st) w Q := zR_go (zst zT_81_13 (zget_r hk rfl))
theorem zT_81_16 : zT 81 16 = some (.aload_n 0, 1, 0, []) := by decide +kernel
theorem zr_81_16 {l1 l2 l3 : Option zV} {x : Option Nat} {st : List zV} {w : zW} {Q : Option zV → zW → Prop}  : zR 81 16 [some (.inr x), l1, l2, l3] st w Q = zR 81 17 [some (.inr x), l1, l2, l3] (.inr x :: st) w Q := zR_go (zst zT_81_16 rfl)
theorem zT_81_17 : zT 81 17 = some (.aload_n 1, 1, 0, []) := by decide +kernel
theorem zr_81_17 {l0 l2 l3 : Option zV} {x : Option Nat} {st : List zV} {w : zW} {Q : Option zV → zW → Prop}  : zR 81 17 [l0, some (.inr x), l2, l3] st w Q = zR 81 18 [l0, some (.inr x), l2, l3] (.inr x :: st) w Q := zR_go (zst zT_81_17 rfl)
theorem zT_81_18 : zT 81 18 = some (.invokevirtual 77, 3, 1, [(5, 80)]) := by decide +kernel
theorem zr_81_18 {l0 l1 l2 l3 : Option zV} {a0 : zV} {h : Nat} {st : List zV} {w : zW} {Q : Option zV → zW → Prop} (hs : st.length ≤ 8) (hk : zk w h = 5) : zR 81 18 [l0, l1, l2, l3] (a0 :: .inr (some h) :: st) w Q = zR 80 0 [some (.inr (some h)), some a0, none] [] w (fun r w2 => zR 81 21 [l0, l1, l2, l3] (r.toList ++ st) w2 Q) := zR_call (zst zT_81_18 (zcall_v [a0] rfl hs hk rfl))
theorem zT_81_21 : zT 81 21 = some (.invokevirtual 100, 3, 1, [(7, 140)]) := by decide +kernel
theorem zr_81_21 {l0 l1 l2 l3 : Option zV} {a0 : zV} {h : Nat} {st : List zV} {w : zW} {Q : Option zV → zW → Prop} (hs : st.length ≤ 8) (hk : zk w h = 7) : zR 81 21 [l0, l1, l2, l3] (a0 :: .inr (some h) :: st) w Q = zR 140 0 [some (.inr (some h)), some a0] [] w (fun r w2 => zR 81 24 [l0, l1, l2, l3] (r.toList ++ st) w2 Q) := zR_call (zst zT_81_21 (zcall_v [a0] rfl hs hk rfl))
theorem zT_81_24 : zT 81 24 = some (.aload_n 0, 1, 0, []) := by decide +kernel
theorem zr_81_24 {l1 l2 l3 : Option zV} {x : Option Nat} {st : List zV} {w : zW} {Q : Option zV → zW → Prop}  : zR 81 24 [some (.inr x), l1, l2, l3] st w Q = zR 81 25 [some (.inr x), l1, l2, l3] (.inr x :: st) w Q := zR_go (zst zT_81_24 rfl)
theorem zT_81_25 : zT 81 25 = some (.getfield 35, 3, 0, [(5, 6)]) := by decide +kernel
theorem zr_81_25 {l0 l1 l2 l3 : Option zV} {h : Nat} {st : List zV} {w : zW} {Q : Option zV → zW → Prop} (hk : zk w h = 5) : zR 81 25 [l0, l1, l2, l3] (.inr (some h) :: st) w Q = zR 81 28 [l0, l1, l2, l3] (.inr (zp w 47 h) :: st) w Q := zR_go (zst zT_81_25 (zget_r hk rfl))
theorem zT_81_28 : zT 81 28 = some (.aload_n 2, 1, 0, []) := by decide +kernel
theorem zr_81_28 {l0 l1 l3 : Option zV} {x : Option Nat} {st : List zV} {w : zW} {Q : Option zV → zW → Prop}  : zR 81 28 [l0, l1, some (.inr x), l3] st w Q = zR 81 29 [l0, l1, some (.inr x), l3] (.inr x :: st) w Q := zR_go (zst zT_81_28 rfl)
theorem zT_81_29 : zT 81 29 = some (.getfield 89, 3, 0, [(3, 0)]) := by decide +kernel
theorem zr_81_29 {l0 l1 l2 l3 : Option zV} {h : Nat} {st : List zV} {w : zW} {Q : Option zV → zW → Prop} (hk : zk w h = 3) : zR 81 29 [l0, l1, l2, l3] (.inr (some h) :: st) w Q = zR 81 32 [l0, l1, l2, l3] (.inl (zf w 26 h) :: st) w Q := zR_go (zst zT_81_29 (zget_i hk (Or.inl rfl)))
theorem zT_81_32 : zT 81 32 = some (.invokevirtual 100, 3, 1, [(7, 140)]) := by decide +kernel
theorem zr_81_32 {l0 l1 l2 l3 : Option zV} {a0 : zV} {h : Nat} {st : List zV} {w : zW} {Q : Option zV → zW → Prop} (hs : st.length ≤ 8) (hk : zk w h = 7) : zR 81 32 [l0, l1, l2, l3] (a0 :: .inr (some h) :: st) w Q = zR 140 0 [some (.inr (some h)), some a0] [] w (fun r w2 => zR 81 35 [l0, l1, l2, l3] (r.toList ++ st) w2 Q) := zR_call (zst zT_81_32 (zcall_v [a0] rfl hs hk rfl))
theorem zT_81_35 : zT 81 35 = some (.aload_n 0, 1, 0, []) := by decide +kernel
theorem zr_81_35 {l1 l2 l3 : Option zV} {x : Option Nat} {st : List zV} {w : zW} {Q : Option zV → zW → Prop}  : zR 81 35 [some (.inr x), l1, l2, l3] st w Q = zR 81 36 [some (.inr x), l1, l2, l3] (.inr x :: st) w Q := zR_go (zst zT_81_35 rfl)
theorem zT_81_36 : zT 81 36 = some (.getfield 35, 3, 0, [(5, 6)]) := by decide +kernel
theorem zr_81_36 {l0 l1 l2 l3 : Option zV} {h : Nat} {st : List zV} {w : zW} {Q : Option zV → zW → Prop} (hk : zk w h = 5) : zR 81 36 [l0, l1, l2, l3] (.inr (some h) :: st) w Q = zR 81 39 [l0, l1, l2, l3] (.inr (zp w 47 h) :: st) w Q := zR_go (zst zT_81_36 (zget_r hk rfl))
theorem zT_81_39 : zT 81 39 = some (.aload_n 2, 1, 0, []) := by decide +kernel
theorem zr_81_39 {l0 l1 l3 : Option zV} {x : Option Nat} {st : List zV} {w : zW} {Q : Option zV → zW → Prop}  : zR 81 39 [l0, l1, some (.inr x), l3] st w Q = zR 81 40 [l0, l1, some (.inr x), l3] (.inr x :: st) w Q := zR_go (zst zT_81_39 rfl)
theorem zT_81_40 : zT 81 40 = some (.getfield 104, 3, 0, [(3, 1)]) := by decide +kernel
theorem zr_81_40 {l0 l1 l2 l3 : Option zV} {h : Nat} {st : List zV} {w : zW} {Q : Option zV → zW → Prop} (hk : zk w h = 3) : zR 81 40 [l0, l1, l2, l3] (.inr (some h) :: st) w Q = zR 81 43 [l0, l1, l2, l3] (.inl (zf w 27 h) :: st) w Q := zR_go (zst zT_81_40 (zget_i hk (Or.inl rfl)))
theorem zT_81_43 : zT 81 43 = some (.invokevirtual 100, 3, 1, [(7, 140)]) := by decide +kernel
theorem zr_81_43 {l0 l1 l2 l3 : Option zV} {a0 : zV} {h : Nat} {st : List zV} {w : zW} {Q : Option zV → zW → Prop} (hs : st.length ≤ 8) (hk : zk w h = 7) : zR 81 43 [l0, l1, l2, l3] (a0 :: .inr (some h) :: st) w Q = zR 140 0 [some (.inr (some h)), some a0] [] w (fun r w2 => zR 81 46 [l0, l1, l2, l3] (r.toList ++ st) w2 Q) := zR_call (zst zT_81_43 (zcall_v [a0] rfl hs hk rfl))
theorem zT_81_46 : zT 81 46 = some (.aload_n 0, 1, 0, []) := by decide +kernel
theorem zr_81_46 {l1 l2 l3 : Option zV} {x : Option Nat} {st : List zV} {w : zW} {Q : Option zV → zW → Prop}  : zR 81 46 [some (.inr x), l1, l2, l3] st w Q = zR 81 47 [some (.inr x), l1, l2, l3] (.inr x :: st) w Q := zR_go (zst zT_81_46 rfl)
theorem zT_81_47 : zT 81 47 = some (.getfield 35, 3, 0, [(5, 6)]) := by decide +kernel
theorem zr_81_47 {l0 l1 l2 l3 : Option zV} {h : Nat} {st : List zV} {w : zW} {Q : Option zV → zW → Prop} (hk : zk w h = 5) : zR 81 47 [l0, l1, l2, l3] (.inr (some h) :: st) w Q = zR 81 50 [l0, l1, l2, l3] (.inr (zp w 47 h) :: st) w Q := zR_go (zst zT_81_47 (zget_r hk rfl))
theorem zT_81_50 : zT 81 50 = some (.aload_n 2, 1, 0, []) := by decide +kernel
theorem zr_81_50 {l0 l1 l3 : Option zV} {x : Option Nat} {st : List zV} {w : zW} {Q : Option zV → zW → Prop}  : zR 81 50 [l0, l1, some (.inr x), l3] st w Q = zR 81 51 [l0, l1, some (.inr x), l3] (.inr x :: st) w Q := zR_go (zst zT_81_50 rfl)
theorem zT_81_51 : zT 81 51 = some (.getfield 107, 3, 0, [(3, 2)]) := by decide +kernel
theorem zr_81_51 {l0 l1 l2 l3 : Option zV} {h : Nat} {st : List zV} {w : zW} {Q : Option zV → zW → Prop} (hk : zk w h = 3) : zR 81 51 [l0, l1, l2, l3] (.inr (some h) :: st) w Q = zR 81 54 [l0, l1, l2, l3] (.inl (zf w 28 h) :: st) w Q := zR_go (zst zT_81_51 (zget_i hk (Or.inl rfl)))
theorem zT_81_54 : zT 81 54 = some (.invokevirtual 100, 3, 1, [(7, 140)]) := by decide +kernel
theorem zr_81_54 {l0 l1 l2 l3 : Option zV} {a0 : zV} {h : Nat} {st : List zV} {w : zW} {Q : Option zV → zW → Prop} (hs : st.length ≤ 8) (hk : zk w h = 7) : zR 81 54 [l0, l1, l2, l3] (a0 :: .inr (some h) :: st) w Q = zR 140 0 [some (.inr (some h)), some a0] [] w (fun r w2 => zR 81 57 [l0, l1, l2, l3] (r.toList ++ st) w2 Q) := zR_call (zst zT_81_54 (zcall_v [a0] rfl hs hk rfl))
theorem zT_81_57 : zT 81 57 = some (.iconst 0, 1, 0, []) := by decide +kernel
theorem zr_81_57 {l0 l1 l2 l3 : Option zV} {st : List zV} {w : zW} {Q : Option zV → zW → Prop}  : zR 81 57 [l0, l1, l2, l3] st w Q = zR 81 58 [l0, l1, l2, l3] (.inl 0 :: st) w Q := zR_go (zst zT_81_57 rfl)
theorem zT_81_58 : zT 81 58 = some (.istore_n 3, 1, 0, []) := by decide +kernel
theorem zr_81_58 {l0 l1 l2 l3 : Option zV} {x : Int} {st : List zV} {w : zW} {Q : Option zV → zW → Prop}  : zR 81 58 [l0, l1, l2, l3] (.inl x :: st) w Q = zR 81 59 [l0, l1, l2, some (.inl x)] st w Q := zR_go (zst zT_81_58 rfl)
theorem zT_81_59 : zT 81 59 = some (.iload_n 3, 1, 0, []) := by decide +kernel
theorem zr_81_59 {l0 l1 l2 : Option zV} {x : Int} {st : List zV} {w : zW} {Q : Option zV → zW → Prop}  : zR 81 59 [l0, l1, l2, some (.inl x)] st w Q = zR 81 60 [l0, l1, l2, some (.inl x)] (.inl x :: st) w Q := zR_go (zst zT_81_59 rfl)
theorem zT_81_60 : zT 81 60 = some (.aload_n 2, 1, 0, []) := by decide +kernel
theorem zr_81_60 {l0 l1 l3 : Option zV} {x : Option Nat} {st : List zV} {w : zW} {Q : Option zV → zW → Prop}  : zR 81 60 [l0, l1, some (.inr x), l3] st w Q = zR 81 61 [l0, l1, some (.inr x), l3] (.inr x :: st) w Q := zR_go (zst zT_81_60 rfl)
theorem zT_81_61 : zT 81 61 = some (.getfield 110, 3, 0, [(3, 3)]) := by decide +kernel
theorem zr_81_61 {l0 l1 l2 l3 : Option zV} {h : Nat} {st : List zV} {w : zW} {Q : Option zV → zW → Prop} (hk : zk w h = 3) : zR 81 61 [l0, l1, l2, l3] (.inr (some h) :: st) w Q = zR 81 64 [l0, l1, l2, l3] (.inl (zf w 29 h) :: st) w Q := zR_go (zst zT_81_61 (zget_i hk (Or.inl rfl)))
theorem zT_81_64 : zT 81 64 = some (.if_icmp .ge 22, 3, 0, []) := by decide +kernel
theorem zr_81_64 {l0 l1 l2 l3 : Option zV} {x y : Int} {st : List zV} {w : zW} {Q : Option zV → zW → Prop}  : zR 81 64 [l0, l1, l2, l3] (.inl y :: .inl x :: st) w Q = (if zN y ≤ zN x then zR 81 86 [l0, l1, l2, l3] st w Q else zR 81 67 [l0, l1, l2, l3] st w Q) := zR_if (zstB zT_81_64 rfl) (by simp [zcmp])
theorem zT_81_67 : zT 81 67 = some (.aload_n 0, 1, 0, []) := by decide +kernel
theorem zr_81_67 {l1 l2 l3 : Option zV} {x : Option Nat} {st : List zV} {w : zW} {Q : Option zV → zW → Prop}  : zR 81 67 [some (.inr x), l1, l2, l3] st w Q = zR 81 68 [some (.inr x), l1, l2, l3] (.inr x :: st) w Q := zR_go (zst zT_81_67 rfl)
theorem zT_81_68 : zT 81 68 = some (.getfield 35, 3, 0, [(5, 6)]) := by decide +kernel
theorem zr_81_68 {l0 l1 l2 l3 : Option zV} {h : Nat} {st : List zV} {w : zW} {Q : Option zV → zW → Prop} (hk : zk w h = 5) : zR 81 68 [l0, l1, l2, l3] (.inr (some h) :: st) w Q = zR 81 71 [l0, l1, l2, l3] (.inr (zp w 47 h) :: st) w Q := zR_go (zst zT_81_68 (zget_r hk rfl))
theorem zT_81_71 : zT 81 71 = some (.aload_n 2, 1, 0, []) := by decide +kernel
theorem zr_81_71 {l0 l1 l3 : Option zV} {x : Option Nat} {st : List zV} {w : zW} {Q : Option zV → zW → Prop}  : zR 81 71 [l0, l1, some (.inr x), l3] st w Q = zR 81 72 [l0, l1, some (.inr x), l3] (.inr x :: st) w Q := zR_go (zst zT_81_71 rfl)
theorem zT_81_72 : zT 81 72 = some (.getfield 111, 3, 0, [(3, 4)]) := by decide +kernel
theorem zr_81_72 {l0 l1 l2 l3 : Option zV} {h : Nat} {st : List zV} {w : zW} {Q : Option zV → zW → Prop} (hk : zk w h = 3) : zR 81 72 [l0, l1, l2, l3] (.inr (some h) :: st) w Q = zR 81 75 [l0, l1, l2, l3] (.inr (zp w 30 h) :: st) w Q := zR_go (zst zT_81_72 (zget_r hk rfl))
theorem zT_81_75 : zT 81 75 = some (.iload_n 3, 1, 0, []) := by decide +kernel
theorem zr_81_75 {l0 l1 l2 : Option zV} {x : Int} {st : List zV} {w : zW} {Q : Option zV → zW → Prop}  : zR 81 75 [l0, l1, l2, some (.inl x)] st w Q = zR 81 76 [l0, l1, l2, some (.inl x)] (.inl x :: st) w Q := zR_go (zst zT_81_75 rfl)
theorem zT_81_76 : zT 81 76 = some (.iaload, 1, 0, []) := by decide +kernel
theorem zr_81_76 {l0 l1 l2 l3 : Option zV} {j : Int} {h : Nat} {st : List zV} {w : zW} {Q : Option zV → zW → Prop} (hk : (zk w h = zNC ∨ zk w h = zNC + 2) ∧ 0 ≤ zN j ∧ zN j < zl w h) : zR 81 76 [l0, l1, l2, l3] (.inl j :: .inr (some h) :: st) w Q = zR 81 77 [l0, l1, l2, l3] (.inl (za w h (zN j).toNat) :: st) w Q := zR_go (zst zT_81_76 (if_pos hk))
theorem zT_81_77 : zT 81 77 = some (.invokevirtual 100, 3, 1, [(7, 140)]) := by decide +kernel
theorem zr_81_77 {l0 l1 l2 l3 : Option zV} {a0 : zV} {h : Nat} {st : List zV} {w : zW} {Q : Option zV → zW → Prop} (hs : st.length ≤ 8) (hk : zk w h = 7) : zR 81 77 [l0, l1, l2, l3] (a0 :: .inr (some h) :: st) w Q = zR 140 0 [some (.inr (some h)), some a0] [] w (fun r w2 => zR 81 80 [l0, l1, l2, l3] (r.toList ++ st) w2 Q) := zR_call (zst zT_81_77 (zcall_v [a0] rfl hs hk rfl))
theorem zT_81_80 : zT 81 80 = some (.iinc 3 1, 3, 0, []) := by decide +kernel
theorem zr_81_80 {l0 l1 l2 : Option zV} {x : Int} {st : List zV} {w : zW} {Q : Option zV → zW → Prop}  : zR 81 80 [l0, l1, l2, some (.inl x)] st w Q = zR 81 83 [l0, l1, l2, some (.inl (x + 1))] st w Q := zR_go (zst zT_81_80 rfl)
theorem zT_81_83 : zT 81 83 = some (.goto (-24), 3, 0, []) := by decide +kernel
theorem zr_81_83 {l0 l1 l2 l3 : Option zV} {st : List zV} {w : zW} {Q : Option zV → zW → Prop}  : zR 81 83 [l0, l1, l2, l3] st w Q = zR 81 59 [l0, l1, l2, l3] st w Q := zR_go (zst zT_81_83 rfl)
theorem zT_81_86 : zT 81 86 = some (.aload_n 0, 1, 0, []) := by decide +kernel
theorem zr_81_86 {l1 l2 l3 : Option zV} {x : Option Nat} {st : List zV} {w : zW} {Q : Option zV → zW → Prop}  : zR 81 86 [some (.inr x), l1, l2, l3] st w Q = zR 81 87 [some (.inr x), l1, l2, l3] (.inr x :: st) w Q := zR_go (zst zT_81_86 rfl)
theorem zT_81_87 : zT 81 87 = some (.getfield 35, 3, 0, [(5, 6)]) := by decide +kernel
theorem zr_81_87 {l0 l1 l2 l3 : Option zV} {h : Nat} {st : List zV} {w : zW} {Q : Option zV → zW → Prop} (hk : zk w h = 5) : zR 81 87 [l0, l1, l2, l3] (.inr (some h) :: st) w Q = zR 81 90 [l0, l1, l2, l3] (.inr (zp w 47 h) :: st) w Q := zR_go (zst zT_81_87 (zget_r hk rfl))
theorem zT_81_90 : zT 81 90 = some (.invokevirtual 112, 3, 0, [(7, 141)]) := by decide +kernel
theorem zr_81_90 {l0 l1 l2 l3 : Option zV} {h : Nat} {st : List zV} {w : zW} {Q : Option zV → zW → Prop} (hs : st.length ≤ 8) (hk : zk w h = 7) : zR 81 90 [l0, l1, l2, l3] (.inr (some h) :: st) w Q = zR 141 0 [some (.inr (some h))] [] w (fun r w2 => zR 81 93 [l0, l1, l2, l3] (r.toList ++ st) w2 Q) := zR_call (zst zT_81_90 (zcall_v [] rfl hs hk rfl))
theorem zT_81_93 : zT 81 93 = some (.return_, 1, 0, []) := by decide +kernel
theorem zr_81_93 {l0 l1 l2 l3 : Option zV} {w : zW} {Q : Option zV → zW → Prop} : zR 81 93 [l0, l1, l2, l3] [] w Q = Q none w := zR_ret (zst zT_81_93 rfl)
theorem zT_82_0 : zT 82 0 = some (.aload_n 0, 1, 0, []) := by decide +kernel
theorem zr_82_0 {x : Option Nat} {st : List zV} {w : zW} {Q : Option zV → zW → Prop}  : zR 82 0 [some (.inr x)] st w Q = zR 82 1 [some (.inr x)] (.inr x :: st) w Q := zR_go (zst zT_82_0 rfl)
theorem zT_82_1 : zT 82 1 = some (.getfield 38, 3, 0, [(5, 0)]) := by decide +kernel
theorem zr_82_1 {l0 : Option zV} {h : Nat} {st : List zV} {w : zW} {Q : Option zV → zW → Prop} (hk : zk w h = 5) : zR 82 1 [l0] (.inr (some h) :: st) w Q = zR 82 4 [l0] (.inl (zf w 41 h) :: st) w Q := zR_go (zst zT_82_1 (zget_i hk (Or.inl rfl)))
theorem zT_82_4 : zT 82 4 = some (.ifCond .ne 8, 3, 0, []) := by decide +kernel
theorem zr_82_4 {l0 : Option zV} {x : Int} {st : List zV} {w : zW} {Q : Option zV → zW → Prop}  : zR 82 4 [l0] (.inl x :: st) w Q = (if zN x ≠ 0 then zR 82 12 [l0] st w Q else zR 82 7 [l0] st w Q) := zR_if (zstB zT_82_4 rfl) (by simp [zcmp])
theorem zT_82_7 : zT 82 7 = some (.bipush 9, 2, 0, []) := by decide +kernel
theorem zr_82_7 {l0 : Option zV} {st : List zV} {w : zW} {Q : Option zV → zW → Prop}  : zR 82 7 [l0] st w Q = zR 82 9 [l0] (.inl 9 :: st) w Q := zR_go (zst zT_82_7 rfl)
theorem zT_82_9 : zT 82 9 = some (.goto 5, 3, 0, []) := by decide +kernel
theorem zr_82_9 {l0 : Option zV} {st : List zV} {w : zW} {Q : Option zV → zW → Prop}  : zR 82 9 [l0] st w Q = zR 82 14 [l0] st w Q := zR_go (zst zT_82_9 rfl)
theorem zT_82_12 : zT 82 12 = some (.bipush 32, 2, 0, []) := by decide +kernel
theorem zr_82_12 {l0 : Option zV} {st : List zV} {w : zW} {Q : Option zV → zW → Prop}  : zR 82 12 [l0] st w Q = zR 82 14 [l0] (.inl 32 :: st) w Q := zR_go (zst zT_82_12 rfl)
theorem zT_82_14 : zT 82 14 = some (.ireturn, 1, 0, []) := by decide +kernel
theorem zr_82_14 {l0 : Option zV} {x : Int} {w : zW} {Q : Option zV → zW → Prop}  : zR 82 14 [l0] [.inl x] w Q = Q (some (.inl x)) w := zR_ret (zst zT_82_14 rfl)
theorem zT_83_0 : zT 83 0 = some (.iconst (-1), 1, 0, []) := by decide +kernel
theorem zr_83_0 {l0 l1 l2 l3 : Option zV} {st : List zV} {w : zW} {Q : Option zV → zW → Prop}  : zR 83 0 [l0, l1, l2, l3] st w Q = zR 83 1 [l0, l1, l2, l3] (.inl (-1) :: st) w Q := zR_go (zst zT_83_0 rfl)
theorem zT_83_1 : zT 83 1 = some (.istore_n 1, 1, 0, []) := by decide +kernel
theorem zr_83_1 {l0 l1 l2 l3 : Option zV} {x : Int} {st : List zV} {w : zW} {Q : Option zV → zW → Prop}  : zR 83 1 [l0, l1, l2, l3] (.inl x :: st) w Q = zR 83 2 [l0, some (.inl x), l2, l3] st w Q := zR_go (zst zT_83_1 rfl)
theorem zT_83_2 : zT 83 2 = some (.iconst 0, 1, 0, []) := by decide +kernel
theorem zr_83_2 {l0 l1 l2 l3 : Option zV} {st : List zV} {w : zW} {Q : Option zV → zW → Prop}  : zR 83 2 [l0, l1, l2, l3] st w Q = zR 83 3 [l0, l1, l2, l3] (.inl 0 :: st) w Q := zR_go (zst zT_83_2 rfl)
theorem zT_83_3 : zT 83 3 = some (.istore_n 2, 1, 0, []) := by decide +kernel
theorem zr_83_3 {l0 l1 l2 l3 : Option zV} {x : Int} {st : List zV} {w : zW} {Q : Option zV → zW → Prop}  : zR 83 3 [l0, l1, l2, l3] (.inl x :: st) w Q = zR 83 4 [l0, l1, some (.inl x), l3] st w Q := zR_go (zst zT_83_3 rfl)
theorem zT_83_4 : zT 83 4 = some (.iload_n 2, 1, 0, []) := by decide +kernel
theorem zr_83_4 {l0 l1 l3 : Option zV} {x : Int} {st : List zV} {w : zW} {Q : Option zV → zW → Prop}  : zR 83 4 [l0, l1, some (.inl x), l3] st w Q = zR 83 5 [l0, l1, some (.inl x), l3] (.inl x :: st) w Q := zR_go (zst zT_83_4 rfl)
theorem zT_83_5 : zT 83 5 = some (.bipush 7, 2, 0, []) := by decide +kernel
theorem zr_83_5 {l0 l1 l2 l3 : Option zV} {st : List zV} {w : zW} {Q : Option zV → zW → Prop}  : zR 83 5 [l0, l1, l2, l3] st w Q = zR 83 7 [l0, l1, l2, l3] (.inl 7 :: st) w Q := zR_go (zst zT_83_5 rfl)
theorem zT_83_7 : zT 83 7 = some (.if_icmp .ge 45, 3, 0, []) := by decide +kernel
theorem zr_83_7 {l0 l1 l2 l3 : Option zV} {x y : Int} {st : List zV} {w : zW} {Q : Option zV → zW → Prop}  : zR 83 7 [l0, l1, l2, l3] (.inl y :: .inl x :: st) w Q = (if zN y ≤ zN x then zR 83 52 [l0, l1, l2, l3] st w Q else zR 83 10 [l0, l1, l2, l3] st w Q) := zR_if (zstB zT_83_7 rfl) (by simp [zcmp])
theorem zT_83_10 : zT 83 10 = some (.aload_n 0, 1, 0, []) := by decide +kernel
theorem zr_83_10 {l1 l2 l3 : Option zV} {x : Option Nat} {st : List zV} {w : zW} {Q : Option zV → zW → Prop}  : zR 83 10 [some (.inr x), l1, l2, l3] st w Q = zR 83 11 [some (.inr x), l1, l2, l3] (.inr x :: st) w Q := zR_go (zst zT_83_10 rfl)
theorem zT_83_11 : zT 83 11 = some (.getfield 11, 3, 0, [(5, 1)]) := by decide +kernel
theorem zr_83_11 {l0 l1 l2 l3 : Option zV} {h : Nat} {st : List zV} {w : zW} {Q : Option zV → zW → Prop} (hk : zk w h = 5) : zR 83 11 [l0, l1, l2, l3] (.inr (some h) :: st) w Q = zR 83 14 [l0, l1, l2, l3] (.inr (zp w 42 h) :: st) w Q := zR_go (zst zT_83_11 (zget_r hk rfl))
theorem zT_83_14 : zT 83 14 = some (.iload_n 2, 1, 0, []) := by decide +kernel
theorem zr_83_14 {l0 l1 l3 : Option zV} {x : Int} {st : List zV} {w : zW} {Q : Option zV → zW → Prop}  : zR 83 14 [l0, l1, some (.inl x), l3] st w Q = zR 83 15 [l0, l1, some (.inl x), l3] (.inl x :: st) w Q := zR_go (zst zT_83_14 rfl)
theorem zT_83_15 : zT 83 15 = some (.aaload, 1, 0, []) := by decide +kernel
theorem zr_83_15 {l0 l1 l2 l3 : Option zV} {j : Int} {h : Nat} {st : List zV} {w : zW} {Q : Option zV → zW → Prop} (hk : zNC + 2 < zk w h ∧ zk w h < 1000 ∧ 0 ≤ zN j ∧ zN j < zl w h) : zR 83 15 [l0, l1, l2, l3] (.inl j :: .inr (some h) :: st) w Q = zR 83 16 [l0, l1, l2, l3] (.inr (zb w h (zN j).toNat) :: st) w Q := zR_go (zst zT_83_15 (if_pos hk))
theorem zT_83_16 : zT 83 16 = some (.astore_n 3, 1, 0, []) := by decide +kernel
theorem zr_83_16 {l0 l1 l2 l3 : Option zV} {x : Option Nat} {st : List zV} {w : zW} {Q : Option zV → zW → Prop}  : zR 83 16 [l0, l1, l2, l3] (.inr x :: st) w Q = zR 83 17 [l0, l1, l2, some (.inr x)] st w Q := zR_go (zst zT_83_16 rfl)
theorem zT_83_17 : zT 83 17 = some (.aload_n 3, 1, 0, []) := by decide +kernel
theorem zr_83_17 {l0 l1 l2 : Option zV} {x : Option Nat} {st : List zV} {w : zW} {Q : Option zV → zW → Prop}  : zR 83 17 [l0, l1, l2, some (.inr x)] st w Q = zR 83 18 [l0, l1, l2, some (.inr x)] (.inr x :: st) w Q := zR_go (zst zT_83_17 rfl)
theorem zT_83_18 : zT 83 18 = some (.ifnull 28, 3, 0, []) := by decide +kernel
theorem zr_83_18n {l0 l1 l2 l3 : Option zV} {st : List zV} {w : zW} {Q : Option zV → zW → Prop}  : zR 83 18 [l0, l1, l2, l3] (.inr none :: st) w Q = zR 83 46 [l0, l1, l2, l3] st w Q := zR_go (zst zT_83_18 rfl)
theorem zr_83_18s {l0 l1 l2 l3 : Option zV} {h : Nat} {st : List zV} {w : zW} {Q : Option zV → zW → Prop}  : zR 83 18 [l0, l1, l2, l3] (.inr (some h) :: st) w Q = zR 83 21 [l0, l1, l2, l3] st w Q := zR_go (zst zT_83_18 rfl)
theorem zT_83_21 : zT 83 21 = some (.aload_n 3, 1, 0, []) := by decide +kernel
theorem zr_83_21 {l0 l1 l2 : Option zV} {x : Option Nat} {st : List zV} {w : zW} {Q : Option zV → zW → Prop}  : zR 83 21 [l0, l1, l2, some (.inr x)] st w Q = zR 83 22 [l0, l1, l2, some (.inr x)] (.inr x :: st) w Q := zR_go (zst zT_83_21 rfl)
theorem zT_83_22 : zT 83 22 = some (.getfield 115, 3, 0, [(2, 3)]) := by decide +kernel
theorem zr_83_22 {l0 l1 l2 l3 : Option zV} {h : Nat} {st : List zV} {w : zW} {Q : Option zV → zW → Prop} (hk : zk w h = 2) : zR 83 22 [l0, l1, l2, l3] (.inr (some h) :: st) w Q = zR 83 25 [l0, l1, l2, l3] (.inl (zf w 20 h) :: st) w Q := zR_go (zst zT_83_22 (zget_i hk (Or.inr rfl)))
theorem zT_83_25 : zT 83 25 = some (.ifCond .ne 21, 3, 0, []) := by decide +kernel
theorem zr_83_25 {l0 l1 l2 l3 : Option zV} {x : Int} {st : List zV} {w : zW} {Q : Option zV → zW → Prop}  : zR 83 25 [l0, l1, l2, l3] (.inl x :: st) w Q = (if zN x ≠ 0 then zR 83 46 [l0, l1, l2, l3] st w Q else zR 83 28 [l0, l1, l2, l3] st w Q) := zR_if (zstB zT_83_25 rfl) (by simp [zcmp])
theorem zT_83_28 : zT 83 28 = some (.iload_n 1, 1, 0, []) := by decide +kernel
theorem zr_83_28 {l0 l2 l3 : Option zV} {x : Int} {st : List zV} {w : zW} {Q : Option zV → zW → Prop}  : zR 83 28 [l0, some (.inl x), l2, l3] st w Q = zR 83 29 [l0, some (.inl x), l2, l3] (.inl x :: st) w Q := zR_go (zst zT_83_28 rfl)
theorem zT_83_29 : zT 83 29 = some (.iconst (-1), 1, 0, []) := by decide +kernel
theorem zr_83_29 {l0 l1 l2 l3 : Option zV} {st : List zV} {w : zW} {Q : Option zV → zW → Prop}  : zR 83 29 [l0, l1, l2, l3] st w Q = zR 83 30 [l0, l1, l2, l3] (.inl (-1) :: st) w Q := zR_go (zst zT_83_29 rfl)
theorem zT_83_30 : zT 83 30 = some (.if_icmp .eq 11, 3, 0, []) := by decide +kernel
theorem zr_83_30 {l0 l1 l2 l3 : Option zV} {x y : Int} {st : List zV} {w : zW} {Q : Option zV → zW → Prop}  : zR 83 30 [l0, l1, l2, l3] (.inl y :: .inl x :: st) w Q = (if zN x = zN y then zR 83 41 [l0, l1, l2, l3] st w Q else zR 83 33 [l0, l1, l2, l3] st w Q) := zR_if (zstB zT_83_30 rfl) (by simp [zcmp])
theorem zT_83_33 : zT 83 33 = some (.aload_n 3, 1, 0, []) := by decide +kernel
theorem zr_83_33 {l0 l1 l2 : Option zV} {x : Option Nat} {st : List zV} {w : zW} {Q : Option zV → zW → Prop}  : zR 83 33 [l0, l1, l2, some (.inr x)] st w Q = zR 83 34 [l0, l1, l2, some (.inr x)] (.inr x :: st) w Q := zR_go (zst zT_83_33 rfl)
theorem zT_83_34 : zT 83 34 = some (.getfield 118, 3, 0, [(2, 1)]) := by decide +kernel
theorem zr_83_34 {l0 l1 l2 l3 : Option zV} {h : Nat} {st : List zV} {w : zW} {Q : Option zV → zW → Prop} (hk : zk w h = 2) : zR 83 34 [l0, l1, l2, l3] (.inr (some h) :: st) w Q = zR 83 37 [l0, l1, l2, l3] (.inl (zf w 18 h) :: st) w Q := zR_go (zst zT_83_34 (zget_i hk (Or.inl rfl)))
theorem zT_83_37 : zT 83 37 = some (.iload_n 1, 1, 0, []) := by decide +kernel
theorem zr_83_37 {l0 l2 l3 : Option zV} {x : Int} {st : List zV} {w : zW} {Q : Option zV → zW → Prop}  : zR 83 37 [l0, some (.inl x), l2, l3] st w Q = zR 83 38 [l0, some (.inl x), l2, l3] (.inl x :: st) w Q := zR_go (zst zT_83_37 rfl)
theorem zT_83_38 : zT 83 38 = some (.if_icmp .ge 8, 3, 0, []) := by decide +kernel
theorem zr_83_38 {l0 l1 l2 l3 : Option zV} {x y : Int} {st : List zV} {w : zW} {Q : Option zV → zW → Prop}  : zR 83 38 [l0, l1, l2, l3] (.inl y :: .inl x :: st) w Q = (if zN y ≤ zN x then zR 83 46 [l0, l1, l2, l3] st w Q else zR 83 41 [l0, l1, l2, l3] st w Q) := zR_if (zstB zT_83_38 rfl) (by simp [zcmp])
theorem zT_83_41 : zT 83 41 = some (.aload_n 3, 1, 0, []) := by decide +kernel
theorem zr_83_41 {l0 l1 l2 : Option zV} {x : Option Nat} {st : List zV} {w : zW} {Q : Option zV → zW → Prop}  : zR 83 41 [l0, l1, l2, some (.inr x)] st w Q = zR 83 42 [l0, l1, l2, some (.inr x)] (.inr x :: st) w Q := zR_go (zst zT_83_41 rfl)
theorem zT_83_42 : zT 83 42 = some (.getfield 118, 3, 0, [(2, 1)]) := by decide +kernel
theorem zr_83_42 {l0 l1 l2 l3 : Option zV} {h : Nat} {st : List zV} {w : zW} {Q : Option zV → zW → Prop} (hk : zk w h = 2) : zR 83 42 [l0, l1, l2, l3] (.inr (some h) :: st) w Q = zR 83 45 [l0, l1, l2, l3] (.inl (zf w 18 h) :: st) w Q := zR_go (zst zT_83_42 (zget_i hk (Or.inl rfl)))
theorem zT_83_45 : zT 83 45 = some (.istore_n 1, 1, 0, []) := by decide +kernel
theorem zr_83_45 {l0 l1 l2 l3 : Option zV} {x : Int} {st : List zV} {w : zW} {Q : Option zV → zW → Prop}  : zR 83 45 [l0, l1, l2, l3] (.inl x :: st) w Q = zR 83 46 [l0, some (.inl x), l2, l3] st w Q := zR_go (zst zT_83_45 rfl)
theorem zT_83_46 : zT 83 46 = some (.iinc 2 1, 3, 0, []) := by decide +kernel
theorem zr_83_46 {l0 l1 l3 : Option zV} {x : Int} {st : List zV} {w : zW} {Q : Option zV → zW → Prop}  : zR 83 46 [l0, l1, some (.inl x), l3] st w Q = zR 83 49 [l0, l1, some (.inl (x + 1)), l3] st w Q := zR_go (zst zT_83_46 rfl)
theorem zT_83_49 : zT 83 49 = some (.goto (-45), 3, 0, []) := by decide +kernel
theorem zr_83_49 {l0 l1 l2 l3 : Option zV} {st : List zV} {w : zW} {Q : Option zV → zW → Prop}  : zR 83 49 [l0, l1, l2, l3] st w Q = zR 83 4 [l0, l1, l2, l3] st w Q := zR_go (zst zT_83_49 rfl)
theorem zT_83_52 : zT 83 52 = some (.iload_n 1, 1, 0, []) := by decide +kernel
theorem zr_83_52 {l0 l2 l3 : Option zV} {x : Int} {st : List zV} {w : zW} {Q : Option zV → zW → Prop}  : zR 83 52 [l0, some (.inl x), l2, l3] st w Q = zR 83 53 [l0, some (.inl x), l2, l3] (.inl x :: st) w Q := zR_go (zst zT_83_52 rfl)
theorem zT_83_53 : zT 83 53 = some (.ireturn, 1, 0, []) := by decide +kernel
theorem zr_83_53 {l0 l1 l2 l3 : Option zV} {x : Int} {w : zW} {Q : Option zV → zW → Prop}  : zR 83 53 [l0, l1, l2, l3] [.inl x] w Q = Q (some (.inl x)) w := zR_ret (zst zT_83_53 rfl)
theorem zT_84_0 : zT 84 0 = some (.iconst 0, 1, 0, []) := by decide +kernel
theorem zr_84_0 {l0 l1 : Option zV} {st : List zV} {w : zW} {Q : Option zV → zW → Prop}  : zR 84 0 [l0, l1] st w Q = zR 84 1 [l0, l1] (.inl 0 :: st) w Q := zR_go (zst zT_84_0 rfl)
theorem zT_84_1 : zT 84 1 = some (.istore_n 1, 1, 0, []) := by decide +kernel
theorem zr_84_1 {l0 l1 : Option zV} {x : Int} {st : List zV} {w : zW} {Q : Option zV → zW → Prop}  : zR 84 1 [l0, l1] (.inl x :: st) w Q = zR 84 2 [l0, some (.inl x)] st w Q := zR_go (zst zT_84_1 rfl)
theorem zT_84_2 : zT 84 2 = some (.iload_n 1, 1, 0, []) := by decide +kernel
theorem zr_84_2 {l0 : Option zV} {x : Int} {st : List zV} {w : zW} {Q : Option zV → zW → Prop}  : zR 84 2 [l0, some (.inl x)] st w Q = zR 84 3 [l0, some (.inl x)] (.inl x :: st) w Q := zR_go (zst zT_84_2 rfl)
theorem zT_84_3 : zT 84 3 = some (.bipush 7, 2, 0, []) := by decide +kernel
theorem zr_84_3 {l0 l1 : Option zV} {st : List zV} {w : zW} {Q : Option zV → zW → Prop}  : zR 84 3 [l0, l1] st w Q = zR 84 5 [l0, l1] (.inl 7 :: st) w Q := zR_go (zst zT_84_3 rfl)
theorem zT_84_5 : zT 84 5 = some (.if_icmp .ge 40, 3, 0, []) := by decide +kernel
theorem zr_84_5 {l0 l1 : Option zV} {x y : Int} {st : List zV} {w : zW} {Q : Option zV → zW → Prop}  : zR 84 5 [l0, l1] (.inl y :: .inl x :: st) w Q = (if zN y ≤ zN x then zR 84 45 [l0, l1] st w Q else zR 84 8 [l0, l1] st w Q) := zR_if (zstB zT_84_5 rfl) (by simp [zcmp])
theorem zT_84_8 : zT 84 8 = some (.aload_n 0, 1, 0, []) := by decide +kernel
theorem zr_84_8 {l1 : Option zV} {x : Option Nat} {st : List zV} {w : zW} {Q : Option zV → zW → Prop}  : zR 84 8 [some (.inr x), l1] st w Q = zR 84 9 [some (.inr x), l1] (.inr x :: st) w Q := zR_go (zst zT_84_8 rfl)
theorem zT_84_9 : zT 84 9 = some (.getfield 11, 3, 0, [(5, 1)]) := by decide +kernel
theorem zr_84_9 {l0 l1 : Option zV} {h : Nat} {st : List zV} {w : zW} {Q : Option zV → zW → Prop} (hk : zk w h = 5) : zR 84 9 [l0, l1] (.inr (some h) :: st) w Q = zR 84 12 [l0, l1] (.inr (zp w 42 h) :: st) w Q := zR_go (zst zT_84_9 (zget_r hk rfl))
theorem zT_84_12 : zT 84 12 = some (.iload_n 1, 1, 0, []) := by decide +kernel
theorem zr_84_12 {l0 : Option zV} {x : Int} {st : List zV} {w : zW} {Q : Option zV → zW → Prop}  : zR 84 12 [l0, some (.inl x)] st w Q = zR 84 13 [l0, some (.inl x)] (.inl x :: st) w Q := zR_go (zst zT_84_12 rfl)
theorem zT_84_13 : zT 84 13 = some (.aaload, 1, 0, []) := by decide +kernel
theorem zr_84_13 {l0 l1 : Option zV} {j : Int} {h : Nat} {st : List zV} {w : zW} {Q : Option zV → zW → Prop} (hk : zNC + 2 < zk w h ∧ zk w h < 1000 ∧ 0 ≤ zN j ∧ zN j < zl w h) : zR 84 13 [l0, l1] (.inl j :: .inr (some h) :: st) w Q = zR 84 14 [l0, l1] (.inr (zb w h (zN j).toNat) :: st) w Q := zR_go (zst zT_84_13 (if_pos hk))
theorem zT_84_14 : zT 84 14 = some (.ifnull 25, 3, 0, []) := by decide +kernel
theorem zr_84_14n {l0 l1 : Option zV} {st : List zV} {w : zW} {Q : Option zV → zW → Prop}  : zR 84 14 [l0, l1] (.inr none :: st) w Q = zR 84 39 [l0, l1] st w Q := zR_go (zst zT_84_14 rfl)
theorem zr_84_14s {l0 l1 : Option zV} {h : Nat} {st : List zV} {w : zW} {Q : Option zV → zW → Prop}  : zR 84 14 [l0, l1] (.inr (some h) :: st) w Q = zR 84 17 [l0, l1] st w Q := zR_go (zst zT_84_14 rfl)
theorem zT_84_17 : zT 84 17 = some (.aload_n 0, 1, 0, []) := by decide +kernel
theorem zr_84_17 {l1 : Option zV} {x : Option Nat} {st : List zV} {w : zW} {Q : Option zV → zW → Prop}  : zR 84 17 [some (.inr x), l1] st w Q = zR 84 18 [some (.inr x), l1] (.inr x :: st) w Q := zR_go (zst zT_84_17 rfl)
theorem zT_84_18 : zT 84 18 = some (.getfield 11, 3, 0, [(5, 1)]) := by decide +kernel
theorem zr_84_18 {l0 l1 : Option zV} {h : Nat} {st : List zV} {w : zW} {Q : Option zV → zW → Prop} (hk : zk w h = 5) : zR 84 18 [l0, l1] (.inr (some h) :: st) w Q = zR 84 21 [l0, l1] (.inr (zp w 42 h) :: st) w Q := zR_go (zst zT_84_18 (zget_r hk rfl))
theorem zT_84_21 : zT 84 21 = some (.iload_n 1, 1, 0, []) := by decide +kernel
theorem zr_84_21 {l0 : Option zV} {x : Int} {st : List zV} {w : zW} {Q : Option zV → zW → Prop}  : zR 84 21 [l0, some (.inl x)] st w Q = zR 84 22 [l0, some (.inl x)] (.inl x :: st) w Q := zR_go (zst zT_84_21 rfl)
theorem zT_84_22 : zT 84 22 = some (.aaload, 1, 0, []) := by decide +kernel
theorem zr_84_22 {l0 l1 : Option zV} {j : Int} {h : Nat} {st : List zV} {w : zW} {Q : Option zV → zW → Prop} (hk : zNC + 2 < zk w h ∧ zk w h < 1000 ∧ 0 ≤ zN j ∧ zN j < zl w h) : zR 84 22 [l0, l1] (.inl j :: .inr (some h) :: st) w Q = zR 84 23 [l0, l1] (.inr (zb w h (zN j).toNat) :: st) w Q := zR_go (zst zT_84_22 (if_pos hk))
theorem zT_84_23 : zT 84 23 = some (.getfield 81, 3, 0, [(2, 0)]) := by decide +kernel
theorem zr_84_23 {l0 l1 : Option zV} {h : Nat} {st : List zV} {w : zW} {Q : Option zV → zW → Prop} (hk : zk w h = 2) : zR 84 23 [l0, l1] (.inr (some h) :: st) w Q = zR 84 26 [l0, l1] (.inl (zf w 17 h) :: st) w Q := zR_go (zst zT_84_23 (zget_i hk (Or.inr rfl)))
theorem zT_84_26 : zT 84 26 = some (.ifCond .ne 13, 3, 0, []) := by decide +kernel
theorem zr_84_26 {l0 l1 : Option zV} {x : Int} {st : List zV} {w : zW} {Q : Option zV → zW → Prop}  : zR 84 26 [l0, l1] (.inl x :: st) w Q = (if zN x ≠ 0 then zR 84 39 [l0, l1] st w Q else zR 84 29 [l0, l1] st w Q) := zR_if (zstB zT_84_26 rfl) (by simp [zcmp])
theorem zT_84_29 : zT 84 29 = some (.aload_n 0, 1, 0, []) := by decide +kernel
theorem zr_84_29 {l1 : Option zV} {x : Option Nat} {st : List zV} {w : zW} {Q : Option zV → zW → Prop}  : zR 84 29 [some (.inr x), l1] st w Q = zR 84 30 [some (.inr x), l1] (.inr x :: st) w Q := zR_go (zst zT_84_29 rfl)
theorem zT_84_30 : zT 84 30 = some (.getfield 11, 3, 0, [(5, 1)]) := by decide +kernel
theorem zr_84_30 {l0 l1 : Option zV} {h : Nat} {st : List zV} {w : zW} {Q : Option zV → zW → Prop} (hk : zk w h = 5) : zR 84 30 [l0, l1] (.inr (some h) :: st) w Q = zR 84 33 [l0, l1] (.inr (zp w 42 h) :: st) w Q := zR_go (zst zT_84_30 (zget_r hk rfl))
theorem zT_84_33 : zT 84 33 = some (.iload_n 1, 1, 0, []) := by decide +kernel
theorem zr_84_33 {l0 : Option zV} {x : Int} {st : List zV} {w : zW} {Q : Option zV → zW → Prop}  : zR 84 33 [l0, some (.inl x)] st w Q = zR 84 34 [l0, some (.inl x)] (.inl x :: st) w Q := zR_go (zst zT_84_33 rfl)
theorem zT_84_34 : zT 84 34 = some (.aaload, 1, 0, []) := by decide +kernel
theorem zr_84_34 {l0 l1 : Option zV} {j : Int} {h : Nat} {st : List zV} {w : zW} {Q : Option zV → zW → Prop} (hk : zNC + 2 < zk w h ∧ zk w h < 1000 ∧ 0 ≤ zN j ∧ zN j < zl w h) : zR 84 34 [l0, l1] (.inl j :: .inr (some h) :: st) w Q = zR 84 35 [l0, l1] (.inr (zb w h (zN j).toNat) :: st) w Q := zR_go (zst zT_84_34 (if_pos hk))
theorem zT_84_35 : zT 84 35 = some (.iconst 0, 1, 0, []) := by decide +kernel
theorem zr_84_35 {l0 l1 : Option zV} {st : List zV} {w : zW} {Q : Option zV → zW → Prop}  : zR 84 35 [l0, l1] st w Q = zR 84 36 [l0, l1] (.inl 0 :: st) w Q := zR_go (zst zT_84_35 rfl)
theorem zT_84_36 : zT 84 36 = some (.putfield 115, 3, 0, [(2, 3)]) := by decide +kernel
theorem zr_84_36 {l0 l1 : Option zV} {h : Nat} {x : Int} {st : List zV} {w : zW} {Q : Option zV → zW → Prop} (hk : zk w h = 2) (hx : zN x = 0 ∨ zN x = 1) : zR 84 36 [l0, l1] (.inl x :: .inr (some h) :: st) w Q = zR 84 39 [l0, l1] st (zsf w 20 h x) Q := zR_go (zst zT_84_36 (zput_z hk rfl hx))
theorem zT_84_39 : zT 84 39 = some (.iinc 1 1, 3, 0, []) := by decide +kernel
theorem zr_84_39 {l0 : Option zV} {x : Int} {st : List zV} {w : zW} {Q : Option zV → zW → Prop}  : zR 84 39 [l0, some (.inl x)] st w Q = zR 84 42 [l0, some (.inl (x + 1))] st w Q := zR_go (zst zT_84_39 rfl)
theorem zT_84_42 : zT 84 42 = some (.goto (-40), 3, 0, []) := by decide +kernel
theorem zr_84_42 {l0 l1 : Option zV} {st : List zV} {w : zW} {Q : Option zV → zW → Prop}  : zR 84 42 [l0, l1] st w Q = zR 84 2 [l0, l1] st w Q := zR_go (zst zT_84_42 rfl)
theorem zT_84_45 : zT 84 45 = some (.return_, 1, 0, []) := by decide +kernel
theorem zr_84_45 {l0 l1 : Option zV} {w : zW} {Q : Option zV → zW → Prop} : zR 84 45 [l0, l1] [] w Q = Q none w := zR_ret (zst zT_84_45 rfl)
theorem zT_85_0 : zT 85 0 = some (.iconst 0, 1, 0, []) := by decide +kernel
theorem zr_85_0 {l0 l1 l2 l3 l4 : Option zV} {st : List zV} {w : zW} {Q : Option zV → zW → Prop}  : zR 85 0 [l0, l1, l2, l3, l4] st w Q = zR 85 1 [l0, l1, l2, l3, l4] (.inl 0 :: st) w Q := zR_go (zst zT_85_0 rfl)
theorem zT_85_1 : zT 85 1 = some (.istore_n 3, 1, 0, []) := by decide +kernel
theorem zr_85_1 {l0 l1 l2 l3 l4 : Option zV} {x : Int} {st : List zV} {w : zW} {Q : Option zV → zW → Prop}  : zR 85 1 [l0, l1, l2, l3, l4] (.inl x :: st) w Q = zR 85 2 [l0, l1, l2, some (.inl x), l4] st w Q := zR_go (zst zT_85_1 rfl)
theorem zT_85_2 : zT 85 2 = some (.iload_n 3, 1, 0, []) := by decide +kernel
theorem zr_85_2 {l0 l1 l2 l4 : Option zV} {x : Int} {st : List zV} {w : zW} {Q : Option zV → zW → Prop}  : zR 85 2 [l0, l1, l2, some (.inl x), l4] st w Q = zR 85 3 [l0, l1, l2, some (.inl x), l4] (.inl x :: st) w Q := zR_go (zst zT_85_2 rfl)
theorem zT_85_3 : zT 85 3 = some (.bipush 7, 2, 0, []) := by decide +kernel
theorem zr_85_3 {l0 l1 l2 l3 l4 : Option zV} {st : List zV} {w : zW} {Q : Option zV → zW → Prop}  : zR 85 3 [l0, l1, l2, l3, l4] st w Q = zR 85 5 [l0, l1, l2, l3, l4] (.inl 7 :: st) w Q := zR_go (zst zT_85_3 rfl)
theorem zT_85_5 : zT 85 5 = some (.if_icmp .ge 51, 3, 0, []) := by decide +kernel
theorem zr_85_5 {l0 l1 l2 l3 l4 : Option zV} {x y : Int} {st : List zV} {w : zW} {Q : Option zV → zW → Prop}  : zR 85 5 [l0, l1, l2, l3, l4] (.inl y :: .inl x :: st) w Q = (if zN y ≤ zN x then zR 85 56 [l0, l1, l2, l3, l4] st w Q else zR 85 8 [l0, l1, l2, l3, l4] st w Q) := zR_if (zstB zT_85_5 rfl) (by simp [zcmp])
theorem zT_85_8 : zT 85 8 = some (.aload_n 0, 1, 0, []) := by decide +kernel
theorem zr_85_8 {l1 l2 l3 l4 : Option zV} {x : Option Nat} {st : List zV} {w : zW} {Q : Option zV → zW → Prop}  : zR 85 8 [some (.inr x), l1, l2, l3, l4] st w Q = zR 85 9 [some (.inr x), l1, l2, l3, l4] (.inr x :: st) w Q := zR_go (zst zT_85_8 rfl)
theorem zT_85_9 : zT 85 9 = some (.getfield 11, 3, 0, [(5, 1)]) := by decide +kernel
theorem zr_85_9 {l0 l1 l2 l3 l4 : Option zV} {h : Nat} {st : List zV} {w : zW} {Q : Option zV → zW → Prop} (hk : zk w h = 5) : zR 85 9 [l0, l1, l2, l3, l4] (.inr (some h) :: st) w Q = zR 85 12 [l0, l1, l2, l3, l4] (.inr (zp w 42 h) :: st) w Q := zR_go (zst zT_85_9 (zget_r hk rfl))
theorem zT_85_12 : zT 85 12 = some (.iload_n 3, 1, 0, []) := by decide +kernel
theorem zr_85_12 {l0 l1 l2 l4 : Option zV} {x : Int} {st : List zV} {w : zW} {Q : Option zV → zW → Prop}  : zR 85 12 [l0, l1, l2, some (.inl x), l4] st w Q = zR 85 13 [l0, l1, l2, some (.inl x), l4] (.inl x :: st) w Q := zR_go (zst zT_85_12 rfl)
theorem zT_85_13 : zT 85 13 = some (.aaload, 1, 0, []) := by decide +kernel
theorem zr_85_13 {l0 l1 l2 l3 l4 : Option zV} {j : Int} {h : Nat} {st : List zV} {w : zW} {Q : Option zV → zW → Prop} (hk : zNC + 2 < zk w h ∧ zk w h < 1000 ∧ 0 ≤ zN j ∧ zN j < zl w h) : zR 85 13 [l0, l1, l2, l3, l4] (.inl j :: .inr (some h) :: st) w Q = zR 85 14 [l0, l1, l2, l3, l4] (.inr (zb w h (zN j).toNat) :: st) w Q := zR_go (zst zT_85_13 (if_pos hk))
theorem zT_85_14 : zT 85 14 = some (.astore 4, 2, 0, []) := by decide +kernel
theorem zr_85_14 {l0 l1 l2 l3 l4 : Option zV} {x : Option Nat} {st : List zV} {w : zW} {Q : Option zV → zW → Prop}  : zR 85 14 [l0, l1, l2, l3, l4] (.inr x :: st) w Q = zR 85 16 [l0, l1, l2, l3, some (.inr x)] st w Q := zR_go (zst zT_85_14 rfl)
theorem zT_85_16 : zT 85 16 = some (.aload 4, 2, 0, []) := by decide +kernel
theorem zr_85_16 {l0 l1 l2 l3 : Option zV} {x : Option Nat} {st : List zV} {w : zW} {Q : Option zV → zW → Prop}  : zR 85 16 [l0, l1, l2, l3, some (.inr x)] st w Q = zR 85 18 [l0, l1, l2, l3, some (.inr x)] (.inr x :: st) w Q := zR_go (zst zT_85_16 rfl)
theorem zT_85_18 : zT 85 18 = some (.ifnull 32, 3, 0, []) := by decide +kernel
theorem zr_85_18n {l0 l1 l2 l3 l4 : Option zV} {st : List zV} {w : zW} {Q : Option zV → zW → Prop}  : zR 85 18 [l0, l1, l2, l3, l4] (.inr none :: st) w Q = zR 85 50 [l0, l1, l2, l3, l4] st w Q := zR_go (zst zT_85_18 rfl)
theorem zr_85_18s {l0 l1 l2 l3 l4 : Option zV} {h : Nat} {st : List zV} {w : zW} {Q : Option zV → zW → Prop}  : zR 85 18 [l0, l1, l2, l3, l4] (.inr (some h) :: st) w Q = zR 85 21 [l0, l1, l2, l3, l4] st w Q := zR_go (zst zT_85_18 rfl)
theorem zT_85_21 : zT 85 21 = some (.aload 4, 2, 0, []) := by decide +kernel
theorem zr_85_21 {l0 l1 l2 l3 : Option zV} {x : Option Nat} {st : List zV} {w : zW} {Q : Option zV → zW → Prop}  : zR 85 21 [l0, l1, l2, l3, some (.inr x)] st w Q = zR 85 23 [l0, l1, l2, l3, some (.inr x)] (.inr x :: st) w Q := zR_go (zst zT_85_21 rfl)
theorem zT_85_23 : zT 85 23 = some (.getfield 115, 3, 0, [(2, 3)]) := by decide +kernel
theorem zr_85_23 {l0 l1 l2 l3 l4 : Option zV} {h : Nat} {st : List zV} {w : zW} {Q : Option zV → zW → Prop} (hk : zk w h = 2) : zR 85 23 [l0, l1, l2, l3, l4] (.inr (some h) :: st) w Q = zR 85 26 [l0, l1, l2, l3, l4] (.inl (zf w 20 h) :: st) w Q := zR_go (zst zT_85_23 (zget_i hk (Or.inr rfl)))
theorem zT_85_26 : zT 85 26 = some (.ifCond .ne 24, 3, 0, []) := by decide +kernel
theorem zr_85_26 {l0 l1 l2 l3 l4 : Option zV} {x : Int} {st : List zV} {w : zW} {Q : Option zV → zW → Prop}  : zR 85 26 [l0, l1, l2, l3, l4] (.inl x :: st) w Q = (if zN x ≠ 0 then zR 85 50 [l0, l1, l2, l3, l4] st w Q else zR 85 29 [l0, l1, l2, l3, l4] st w Q) := zR_if (zstB zT_85_26 rfl) (by simp [zcmp])
theorem zT_85_29 : zT 85 29 = some (.aload 4, 2, 0, []) := by decide +kernel
theorem zr_85_29 {l0 l1 l2 l3 : Option zV} {x : Option Nat} {st : List zV} {w : zW} {Q : Option zV → zW → Prop}  : zR 85 29 [l0, l1, l2, l3, some (.inr x)] st w Q = zR 85 31 [l0, l1, l2, l3, some (.inr x)] (.inr x :: st) w Q := zR_go (zst zT_85_29 rfl)
theorem zT_85_31 : zT 85 31 = some (.getfield 118, 3, 0, [(2, 1)]) := by decide +kernel
theorem zr_85_31 {l0 l1 l2 l3 l4 : Option zV} {h : Nat} {st : List zV} {w : zW} {Q : Option zV → zW → Prop} (hk : zk w h = 2) : zR 85 31 [l0, l1, l2, l3, l4] (.inr (some h) :: st) w Q = zR 85 34 [l0, l1, l2, l3, l4] (.inl (zf w 18 h) :: st) w Q := zR_go (zst zT_85_31 (zget_i hk (Or.inl rfl)))
theorem zT_85_34 : zT 85 34 = some (.iload_n 1, 1, 0, []) := by decide +kernel
theorem zr_85_34 {l0 l2 l3 l4 : Option zV} {x : Int} {st : List zV} {w : zW} {Q : Option zV → zW → Prop}  : zR 85 34 [l0, some (.inl x), l2, l3, l4] st w Q = zR 85 35 [l0, some (.inl x), l2, l3, l4] (.inl x :: st) w Q := zR_go (zst zT_85_34 rfl)
theorem zT_85_35 : zT 85 35 = some (.if_icmp .ne 15, 3, 0, []) := by decide +kernel
theorem zr_85_35 {l0 l1 l2 l3 l4 : Option zV} {x y : Int} {st : List zV} {w : zW} {Q : Option zV → zW → Prop}  : zR 85 35 [l0, l1, l2, l3, l4] (.inl y :: .inl x :: st) w Q = (if zN x ≠ zN y then zR 85 50 [l0, l1, l2, l3, l4] st w Q else zR 85 38 [l0, l1, l2, l3, l4] st w Q) := zR_if (zstB zT_85_35 rfl) (by simp [zcmp])
theorem zT_85_38 : zT 85 38 = some (.aload 4, 2, 0, []) := by decide +kernel
theorem zr_85_38 {l0 l1 l2 l3 : Option zV} {x : Option Nat} {st : List zV} {w : zW} {Q : Option zV → zW → Prop}  : zR 85 38 [l0, l1, l2, l3, some (.inr x)] st w Q = zR 85 40 [l0, l1, l2, l3, some (.inr x)] (.inr x :: st) w Q := zR_go (zst zT_85_38 rfl)
theorem zT_85_40 : zT 85 40 = some (.iload_n 2, 1, 0, []) := by decide +kernel
theorem zr_85_40 {l0 l1 l3 l4 : Option zV} {x : Int} {st : List zV} {w : zW} {Q : Option zV → zW → Prop}  : zR 85 40 [l0, l1, some (.inl x), l3, l4] st w Q = zR 85 41 [l0, l1, some (.inl x), l3, l4] (.inl x :: st) w Q := zR_go (zst zT_85_40 rfl)
theorem zT_85_41 : zT 85 41 = some (.putfield 74, 3, 0, [(2, 2)]) := by decide +kernel
theorem zr_85_41 {l0 l1 l2 l3 l4 : Option zV} {h : Nat} {x : Int} {st : List zV} {w : zW} {Q : Option zV → zW → Prop} (hk : zk w h = 2) : zR 85 41 [l0, l1, l2, l3, l4] (.inl x :: .inr (some h) :: st) w Q = zR 85 44 [l0, l1, l2, l3, l4] st (zsf w 19 h x) Q := zR_go (zst zT_85_41 (zput_i hk rfl))
theorem zT_85_44 : zT 85 44 = some (.aload 4, 2, 0, []) := by decide +kernel
theorem zr_85_44 {l0 l1 l2 l3 : Option zV} {x : Option Nat} {st : List zV} {w : zW} {Q : Option zV → zW → Prop}  : zR 85 44 [l0, l1, l2, l3, some (.inr x)] st w Q = zR 85 46 [l0, l1, l2, l3, some (.inr x)] (.inr x :: st) w Q := zR_go (zst zT_85_44 rfl)
theorem zT_85_46 : zT 85 46 = some (.iconst 1, 1, 0, []) := by decide +kernel
theorem zr_85_46 {l0 l1 l2 l3 l4 : Option zV} {st : List zV} {w : zW} {Q : Option zV → zW → Prop}  : zR 85 46 [l0, l1, l2, l3, l4] st w Q = zR 85 47 [l0, l1, l2, l3, l4] (.inl 1 :: st) w Q := zR_go (zst zT_85_46 rfl)
theorem zT_85_47 : zT 85 47 = some (.putfield 115, 3, 0, [(2, 3)]) := by decide +kernel
theorem zr_85_47 {l0 l1 l2 l3 l4 : Option zV} {h : Nat} {x : Int} {st : List zV} {w : zW} {Q : Option zV → zW → Prop} (hk : zk w h = 2) (hx : zN x = 0 ∨ zN x = 1) : zR 85 47 [l0, l1, l2, l3, l4] (.inl x :: .inr (some h) :: st) w Q = zR 85 50 [l0, l1, l2, l3, l4] st (zsf w 20 h x) Q := zR_go (zst zT_85_47 (zput_z hk rfl hx))
theorem zT_85_50 : zT 85 50 = some (.iinc 3 1, 3, 0, []) := by decide +kernel
theorem zr_85_50 {l0 l1 l2 l4 : Option zV} {x : Int} {st : List zV} {w : zW} {Q : Option zV → zW → Prop}  : zR 85 50 [l0, l1, l2, some (.inl x), l4] st w Q = zR 85 53 [l0, l1, l2, some (.inl (x + 1)), l4] st w Q := zR_go (zst zT_85_50 rfl)
theorem zT_85_53 : zT 85 53 = some (.goto (-51), 3, 0, []) := by decide +kernel
theorem zr_85_53 {l0 l1 l2 l3 l4 : Option zV} {st : List zV} {w : zW} {Q : Option zV → zW → Prop}  : zR 85 53 [l0, l1, l2, l3, l4] st w Q = zR 85 2 [l0, l1, l2, l3, l4] st w Q := zR_go (zst zT_85_53 rfl)
theorem zT_85_56 : zT 85 56 = some (.return_, 1, 0, []) := by decide +kernel
theorem zr_85_56 {l0 l1 l2 l3 l4 : Option zV} {w : zW} {Q : Option zV → zW → Prop} : zR 85 56 [l0, l1, l2, l3, l4] [] w Q = Q none w := zR_ret (zst zT_85_56 rfl)
theorem zT_86_0 : zT 86 0 = some (.iconst 0, 1, 0, []) := by decide +kernel
theorem zr_86_0 {l0 l1 l2 l3 l4 : Option zV} {st : List zV} {w : zW} {Q : Option zV → zW → Prop}  : zR 86 0 [l0, l1, l2, l3, l4] st w Q = zR 86 1 [l0, l1, l2, l3, l4] (.inl 0 :: st) w Q := zR_go (zst zT_86_0 rfl)
theorem zT_86_1 : zT 86 1 = some (.istore_n 3, 1, 0, []) := by decide +kernel
theorem zr_86_1 {l0 l1 l2 l3 l4 : Option zV} {x : Int} {st : List zV} {w : zW} {Q : Option zV → zW → Prop}  : zR 86 1 [l0, l1, l2, l3, l4] (.inl x :: st) w Q = zR 86 2 [l0, l1, l2, some (.inl x), l4] st w Q := zR_go (zst zT_86_1 rfl)
theorem zT_86_2 : zT 86 2 = some (.iload_n 3, 1, 0, []) := by decide +kernel
theorem zr_86_2 {l0 l1 l2 l4 : Option zV} {x : Int} {st : List zV} {w : zW} {Q : Option zV → zW → Prop}  : zR 86 2 [l0, l1, l2, some (.inl x), l4] st w Q = zR 86 3 [l0, l1, l2, some (.inl x), l4] (.inl x :: st) w Q := zR_go (zst zT_86_2 rfl)
theorem zT_86_3 : zT 86 3 = some (.bipush 7, 2, 0, []) := by decide +kernel
theorem zr_86_3 {l0 l1 l2 l3 l4 : Option zV} {st : List zV} {w : zW} {Q : Option zV → zW → Prop}  : zR 86 3 [l0, l1, l2, l3, l4] st w Q = zR 86 5 [l0, l1, l2, l3, l4] (.inl 7 :: st) w Q := zR_go (zst zT_86_3 rfl)
theorem zT_86_5 : zT 86 5 = some (.if_icmp .ge 45, 3, 0, []) := by decide +kernel
theorem zr_86_5 {l0 l1 l2 l3 l4 : Option zV} {x y : Int} {st : List zV} {w : zW} {Q : Option zV → zW → Prop}  : zR 86 5 [l0, l1, l2, l3, l4] (.inl y :: .inl x :: st) w Q = (if zN y ≤ zN x then zR 86 50 [l0, l1, l2, l3, l4] st w Q else zR 86 8 [l0, l1, l2, l3, l4] st w Q) := zR_if (zstB zT_86_5 rfl) (by simp [zcmp])
theorem zT_86_8 : zT 86 8 = some (.aload_n 0, 1, 0, []) := by decide +kernel
theorem zr_86_8 {l1 l2 l3 l4 : Option zV} {x : Option Nat} {st : List zV} {w : zW} {Q : Option zV → zW → Prop}  : zR 86 8 [some (.inr x), l1, l2, l3, l4] st w Q = zR 86 9 [some (.inr x), l1, l2, l3, l4] (.inr x :: st) w Q := zR_go (zst zT_86_8 rfl)
theorem zT_86_9 : zT 86 9 = some (.getfield 11, 3, 0, [(5, 1)]) := by decide +kernel
theorem zr_86_9 {l0 l1 l2 l3 l4 : Option zV} {h : Nat} {st : List zV} {w : zW} {Q : Option zV → zW → Prop} (hk : zk w h = 5) : zR 86 9 [l0, l1, l2, l3, l4] (.inr (some h) :: st) w Q = zR 86 12 [l0, l1, l2, l3, l4] (.inr (zp w 42 h) :: st) w Q := zR_go (zst zT_86_9 (zget_r hk rfl))
theorem zT_86_12 : zT 86 12 = some (.iload_n 3, 1, 0, []) := by decide +kernel
theorem zr_86_12 {l0 l1 l2 l4 : Option zV} {x : Int} {st : List zV} {w : zW} {Q : Option zV → zW → Prop}  : zR 86 12 [l0, l1, l2, some (.inl x), l4] st w Q = zR 86 13 [l0, l1, l2, some (.inl x), l4] (.inl x :: st) w Q := zR_go (zst zT_86_12 rfl)
theorem zT_86_13 : zT 86 13 = some (.aaload, 1, 0, []) := by decide +kernel
theorem zr_86_13 {l0 l1 l2 l3 l4 : Option zV} {j : Int} {h : Nat} {st : List zV} {w : zW} {Q : Option zV → zW → Prop} (hk : zNC + 2 < zk w h ∧ zk w h < 1000 ∧ 0 ≤ zN j ∧ zN j < zl w h) : zR 86 13 [l0, l1, l2, l3, l4] (.inl j :: .inr (some h) :: st) w Q = zR 86 14 [l0, l1, l2, l3, l4] (.inr (zb w h (zN j).toNat) :: st) w Q := zR_go (zst zT_86_13 (if_pos hk))
theorem zT_86_14 : zT 86 14 = some (.astore 4, 2, 0, []) := by decide +kernel
theorem zr_86_14 {l0 l1 l2 l3 l4 : Option zV} {x : Option Nat} {st : List zV} {w : zW} {Q : Option zV → zW → Prop}  : zR 86 14 [l0, l1, l2, l3, l4] (.inr x :: st) w Q = zR 86 16 [l0, l1, l2, l3, some (.inr x)] st w Q := zR_go (zst zT_86_14 rfl)
theorem zT_86_16 : zT 86 16 = some (.aload 4, 2, 0, []) := by decide +kernel
theorem zr_86_16 {l0 l1 l2 l3 : Option zV} {x : Option Nat} {st : List zV} {w : zW} {Q : Option zV → zW → Prop}  : zR 86 16 [l0, l1, l2, l3, some (.inr x)] st w Q = zR 86 18 [l0, l1, l2, l3, some (.inr x)] (.inr x :: st) w Q := zR_go (zst zT_86_16 rfl)
theorem zT_86_18 : zT 86 18 = some (.ifnull 26, 3, 0, []) := by decide +kernel
theorem zr_86_18n {l0 l1 l2 l3 l4 : Option zV} {st : List zV} {w : zW} {Q : Option zV → zW → Prop}  : zR 86 18 [l0, l1, l2, l3, l4] (.inr none :: st) w Q = zR 86 44 [l0, l1, l2, l3, l4] st w Q := zR_go (zst zT_86_18 rfl)
theorem zr_86_18s {l0 l1 l2 l3 l4 : Option zV} {h : Nat} {st : List zV} {w : zW} {Q : Option zV → zW → Prop}  : zR 86 18 [l0, l1, l2, l3, l4] (.inr (some h) :: st) w Q = zR 86 21 [l0, l1, l2, l3, l4] st w Q := zR_go (zst zT_86_18 rfl)
theorem zT_86_21 : zT 86 21 = some (.aload 4, 2, 0, []) := by decide +kernel
theorem zr_86_21 {l0 l1 l2 l3 : Option zV} {x : Option Nat} {st : List zV} {w : zW} {Q : Option zV → zW → Prop}  : zR 86 21 [l0, l1, l2, l3, some (.inr x)] st w Q = zR 86 23 [l0, l1, l2, l3, some (.inr x)] (.inr x :: st) w Q := zR_go (zst zT_86_21 rfl)
theorem zT_86_23 : zT 86 23 = some (.getfield 81, 3, 0, [(2, 0)]) := by decide +kernel
theorem zr_86_23 {l0 l1 l2 l3 l4 : Option zV} {h : Nat} {st : List zV} {w : zW} {Q : Option zV → zW → Prop} (hk : zk w h = 2) : zR 86 23 [l0, l1, l2, l3, l4] (.inr (some h) :: st) w Q = zR 86 26 [l0, l1, l2, l3, l4] (.inl (zf w 17 h) :: st) w Q := zR_go (zst zT_86_23 (zget_i hk (Or.inr rfl)))
theorem zT_86_26 : zT 86 26 = some (.ifCond .ne 18, 3, 0, []) := by decide +kernel
theorem zr_86_26 {l0 l1 l2 l3 l4 : Option zV} {x : Int} {st : List zV} {w : zW} {Q : Option zV → zW → Prop}  : zR 86 26 [l0, l1, l2, l3, l4] (.inl x :: st) w Q = (if zN x ≠ 0 then zR 86 44 [l0, l1, l2, l3, l4] st w Q else zR 86 29 [l0, l1, l2, l3, l4] st w Q) := zR_if (zstB zT_86_26 rfl) (by simp [zcmp])
theorem zT_86_29 : zT 86 29 = some (.aload 4, 2, 0, []) := by decide +kernel
theorem zr_86_29 {l0 l1 l2 l3 : Option zV} {x : Option Nat} {st : List zV} {w : zW} {Q : Option zV → zW → Prop}  : zR 86 29 [l0, l1, l2, l3, some (.inr x)] st w Q = zR 86 31 [l0, l1, l2, l3, some (.inr x)] (.inr x :: st) w Q := zR_go (zst zT_86_29 rfl)
theorem zT_86_31 : zT 86 31 = some (.getfield 74, 3, 0, [(2, 2)]) := by decide +kernel
theorem zr_86_31 {l0 l1 l2 l3 l4 : Option zV} {h : Nat} {st : List zV} {w : zW} {Q : Option zV → zW → Prop} (hk : zk w h = 2) : zR 86 31 [l0, l1, l2, l3, l4] (.inr (some h) :: st) w Q = zR 86 34 [l0, l1, l2, l3, l4] (.inl (zf w 19 h) :: st) w Q := zR_go (zst zT_86_31 (zget_i hk (Or.inl rfl)))
theorem zT_86_34 : zT 86 34 = some (.iload_n 1, 1, 0, []) := by decide +kernel
theorem zr_86_34 {l0 l2 l3 l4 : Option zV} {x : Int} {st : List zV} {w : zW} {Q : Option zV → zW → Prop}  : zR 86 34 [l0, some (.inl x), l2, l3, l4] st w Q = zR 86 35 [l0, some (.inl x), l2, l3, l4] (.inl x :: st) w Q := zR_go (zst zT_86_34 rfl)
theorem zT_86_35 : zT 86 35 = some (.if_icmp .ne 9, 3, 0, []) := by decide +kernel
theorem zr_86_35 {l0 l1 l2 l3 l4 : Option zV} {x y : Int} {st : List zV} {w : zW} {Q : Option zV → zW → Prop}  : zR 86 35 [l0, l1, l2, l3, l4] (.inl y :: .inl x :: st) w Q = (if zN x ≠ zN y then zR 86 44 [l0, l1, l2, l3, l4] st w Q else zR 86 38 [l0, l1, l2, l3, l4] st w Q) := zR_if (zstB zT_86_35 rfl) (by simp [zcmp])
theorem zT_86_38 : zT 86 38 = some (.aload 4, 2, 0, []) := by decide +kernel
theorem zr_86_38 {l0 l1 l2 l3 : Option zV} {x : Option Nat} {st : List zV} {w : zW} {Q : Option zV → zW → Prop}  : zR 86 38 [l0, l1, l2, l3, some (.inr x)] st w Q = zR 86 40 [l0, l1, l2, l3, some (.inr x)] (.inr x :: st) w Q := zR_go (zst zT_86_38 rfl)
theorem zT_86_40 : zT 86 40 = some (.iload_n 2, 1, 0, []) := by decide +kernel
theorem zr_86_40 {l0 l1 l3 l4 : Option zV} {x : Int} {st : List zV} {w : zW} {Q : Option zV → zW → Prop}  : zR 86 40 [l0, l1, some (.inl x), l3, l4] st w Q = zR 86 41 [l0, l1, some (.inl x), l3, l4] (.inl x :: st) w Q := zR_go (zst zT_86_40 rfl)
theorem zT_86_41 : zT 86 41 = some (.putfield 121, 3, 0, [(2, 4)]) := by decide +kernel
theorem zr_86_41 {l0 l1 l2 l3 l4 : Option zV} {h : Nat} {x : Int} {st : List zV} {w : zW} {Q : Option zV → zW → Prop} (hk : zk w h = 2) : zR 86 41 [l0, l1, l2, l3, l4] (.inl x :: .inr (some h) :: st) w Q = zR 86 44 [l0, l1, l2, l3, l4] st (zsf w 21 h x) Q := zR_go (zst zT_86_41 (zput_i hk rfl))
theorem zT_86_44 : zT 86 44 = some (.iinc 3 1, 3, 0, []) := by decide +kernel
theorem zr_86_44 {l0 l1 l2 l4 : Option zV} {x : Int} {st : List zV} {w : zW} {Q : Option zV → zW → Prop}  : zR 86 44 [l0, l1, l2, some (.inl x), l4] st w Q = zR 86 47 [l0, l1, l2, some (.inl (x + 1)), l4] st w Q := zR_go (zst zT_86_44 rfl)
theorem zT_86_47 : zT 86 47 = some (.goto (-45), 3, 0, []) := by decide +kernel
theorem zr_86_47 {l0 l1 l2 l3 l4 : Option zV} {st : List zV} {w : zW} {Q : Option zV → zW → Prop}  : zR 86 47 [l0, l1, l2, l3, l4] st w Q = zR 86 2 [l0, l1, l2, l3, l4] st w Q := zR_go (zst zT_86_47 rfl)
theorem zT_86_50 : zT 86 50 = some (.return_, 1, 0, []) := by decide +kernel
theorem zr_86_50 {l0 l1 l2 l3 l4 : Option zV} {w : zW} {Q : Option zV → zW → Prop} : zR 86 50 [l0, l1, l2, l3, l4] [] w Q = Q none w := zR_ret (zst zT_86_50 rfl)
theorem zT_88_0 : zT 88 0 = some (.aload_n 0, 1, 0, []) := by decide +kernel
theorem zr_88_0 {x : Option Nat} {st : List zV} {w : zW} {Q : Option zV → zW → Prop}  : zR 88 0 [some (.inr x)] st w Q = zR 88 1 [some (.inr x)] (.inr x :: st) w Q := zR_go (zst zT_88_0 rfl)
theorem zT_88_1 : zT 88 1 = some (.getfield 9, 3, 0, [(6, 0)]) := by decide +kernel
theorem zr_88_1 {l0 : Option zV} {h : Nat} {st : List zV} {w : zW} {Q : Option zV → zW → Prop} (hk : zk w h = 6) : zR 88 1 [l0] (.inr (some h) :: st) w Q = zR 88 4 [l0] (.inl (zf w 48 h) :: st) w Q := zR_go (zst zT_88_1 (zget_i hk (Or.inl rfl)))
theorem zT_88_4 : zT 88 4 = some (.iconst 1, 1, 0, []) := by decide +kernel
theorem zr_88_4 {l0 : Option zV} {st : List zV} {w : zW} {Q : Option zV → zW → Prop}  : zR 88 4 [l0] st w Q = zR 88 5 [l0] (.inl 1 :: st) w Q := zR_go (zst zT_88_4 rfl)
theorem zT_88_5 : zT 88 5 = some (.if_icmp .ne 7, 3, 0, []) := by decide +kernel
theorem zr_88_5 {l0 : Option zV} {x y : Int} {st : List zV} {w : zW} {Q : Option zV → zW → Prop}  : zR 88 5 [l0] (.inl y :: .inl x :: st) w Q = (if zN x ≠ zN y then zR 88 12 [l0] st w Q else zR 88 8 [l0] st w Q) := zR_if (zstB zT_88_5 rfl) (by simp [zcmp])
theorem zT_88_8 : zT 88 8 = some (.iconst 1, 1, 0, []) := by decide +kernel
theorem zr_88_8 {l0 : Option zV} {st : List zV} {w : zW} {Q : Option zV → zW → Prop}  : zR 88 8 [l0] st w Q = zR 88 9 [l0] (.inl 1 :: st) w Q := zR_go (zst zT_88_8 rfl)
theorem zT_88_9 : zT 88 9 = some (.goto 4, 3, 0, []) := by decide +kernel
theorem zr_88_9 {l0 : Option zV} {st : List zV} {w : zW} {Q : Option zV → zW → Prop}  : zR 88 9 [l0] st w Q = zR 88 13 [l0] st w Q := zR_go (zst zT_88_9 rfl)
theorem zT_88_12 : zT 88 12 = some (.iconst 0, 1, 0, []) := by decide +kernel
theorem zr_88_12 {l0 : Option zV} {st : List zV} {w : zW} {Q : Option zV → zW → Prop}  : zR 88 12 [l0] st w Q = zR 88 13 [l0] (.inl 0 :: st) w Q := zR_go (zst zT_88_12 rfl)
theorem zT_88_13 : zT 88 13 = some (.ireturn, 1, 0, []) := by decide +kernel
theorem zr_88_13 {l0 : Option zV} {x : Int} {w : zW} {Q : Option zV → zW → Prop} (hx : zN x = 0 ∨ zN x = 1) : zR 88 13 [l0] [.inl x] w Q = Q (some (.inl x)) w := zR_ret (zst zT_88_13 (if_pos (Or.inr ⟨rfl, hx⟩)))
theorem zT_89_0 : zT 89 0 = some (.aload_n 0, 1, 0, []) := by decide +kernel
theorem zr_89_0 {x : Option Nat} {st : List zV} {w : zW} {Q : Option zV → zW → Prop}  : zR 89 0 [some (.inr x)] st w Q = zR 89 1 [some (.inr x)] (.inr x :: st) w Q := zR_go (zst zT_89_0 rfl)
theorem zT_89_1 : zT 89 1 = some (.iconst 1, 1, 0, []) := by decide +kernel
theorem zr_89_1 {l0 : Option zV} {st : List zV} {w : zW} {Q : Option zV → zW → Prop}  : zR 89 1 [l0] st w Q = zR 89 2 [l0] (.inl 1 :: st) w Q := zR_go (zst zT_89_1 rfl)
theorem zT_89_2 : zT 89 2 = some (.putfield 9, 3, 0, [(6, 0)]) := by decide +kernel
theorem zr_89_2 {l0 : Option zV} {h : Nat} {x : Int} {st : List zV} {w : zW} {Q : Option zV → zW → Prop} (hk : zk w h = 6) : zR 89 2 [l0] (.inl x :: .inr (some h) :: st) w Q = zR 89 5 [l0] st (zsf w 48 h x) Q := zR_go (zst zT_89_2 (zput_i hk rfl))
theorem zT_89_5 : zT 89 5 = some (.aload_n 0, 1, 0, []) := by decide +kernel
theorem zr_89_5 {x : Option Nat} {st : List zV} {w : zW} {Q : Option zV → zW → Prop}  : zR 89 5 [some (.inr x)] st w Q = zR 89 6 [some (.inr x)] (.inr x :: st) w Q := zR_go (zst zT_89_5 rfl)
theorem zT_89_6 : zT 89 6 = some (.iconst 0, 1, 0, []) := by decide +kernel
theorem zr_89_6 {l0 : Option zV} {st : List zV} {w : zW} {Q : Option zV → zW → Prop}  : zR 89 6 [l0] st w Q = zR 89 7 [l0] (.inl 0 :: st) w Q := zR_go (zst zT_89_6 rfl)
theorem zT_89_7 : zT 89 7 = some (.invokevirtual 15, 3, 1, [(6, 98)]) := by decide +kernel
theorem zr_89_7 {l0 : Option zV} {a0 : zV} {h : Nat} {st : List zV} {w : zW} {Q : Option zV → zW → Prop} (hs : st.length ≤ 8) (hk : zk w h = 6) : zR 89 7 [l0] (a0 :: .inr (some h) :: st) w Q = zR 98 0 [some (.inr (some h)), some a0] [] w (fun r w2 => zR 89 10 [l0] (r.toList ++ st) w2 Q) := zR_call (zst zT_89_7 (zcall_v [a0] rfl hs hk rfl))
theorem zT_89_10 : zT 89 10 = some (.return_, 1, 0, []) := by decide +kernel
theorem zr_89_10 {l0 : Option zV} {w : zW} {Q : Option zV → zW → Prop} : zR 89 10 [l0] [] w Q = Q none w := zR_ret (zst zT_89_10 rfl)
theorem zT_90_0 : zT 90 0 = some (.aload_n 0, 1, 0, []) := by decide +kernel
theorem zr_90_0 {l1 : Option zV} {x : Option Nat} {st : List zV} {w : zW} {Q : Option zV → zW → Prop}  : zR 90 0 [some (.inr x), l1] st w Q = zR 90 1 [some (.inr x), l1] (.inr x :: st) w Q := zR_go (zst zT_90_0 rfl)
theorem zT_90_1 : zT 90 1 = some (.getfield 19, 3, 0, [(6, 4)]) := by decide +kernel
theorem zr_90_1 {l0 l1 : Option zV} {h : Nat} {st : List zV} {w : zW} {Q : Option zV → zW → Prop} (hk : zk w h = 6) : zR 90 1 [l0, l1] (.inr (some h) :: st) w Q = zR 90 4 [l0, l1] (.inl (zf w 52 h) :: st) w Q := zR_go (zst zT_90_1 (zget_i hk (Or.inl rfl)))
theorem zT_90_4 : zT 90 4 = some (.ifCond .ne 9, 3, 0, []) := by decide +kernel
theorem zr_90_4 {l0 l1 : Option zV} {x : Int} {st : List zV} {w : zW} {Q : Option zV → zW → Prop}  : zR 90 4 [l0, l1] (.inl x :: st) w Q = (if zN x ≠ 0 then zR 90 13 [l0, l1] st w Q else zR 90 7 [l0, l1] st w Q) := zR_if (zstB zT_90_4 rfl) (by simp [zcmp])
theorem zT_90_7 : zT 90 7 = some (.aload_n 0, 1, 0, []) := by decide +kernel
theorem zr_90_7 {l1 : Option zV} {x : Option Nat} {st : List zV} {w : zW} {Q : Option zV → zW → Prop}  : zR 90 7 [some (.inr x), l1] st w Q = zR 90 8 [some (.inr x), l1] (.inr x :: st) w Q := zR_go (zst zT_90_7 rfl)
theorem zT_90_8 : zT 90 8 = some (.aload_n 1, 1, 0, []) := by decide +kernel
theorem zr_90_8 {l0 : Option zV} {x : Option Nat} {st : List zV} {w : zW} {Q : Option zV → zW → Prop}  : zR 90 8 [l0, some (.inr x)] st w Q = zR 90 9 [l0, some (.inr x)] (.inr x :: st) w Q := zR_go (zst zT_90_8 rfl)
theorem zT_90_9 : zT 90 9 = some (.invokevirtual 22, 3, 1, [(6, 91)]) := by decide +kernel
theorem zr_90_9 {l0 l1 : Option zV} {a0 : zV} {h : Nat} {st : List zV} {w : zW} {Q : Option zV → zW → Prop} (hs : st.length ≤ 8) (hk : zk w h = 6) : zR 90 9 [l0, l1] (a0 :: .inr (some h) :: st) w Q = zR 91 0 [some (.inr (some h)), some a0] [] w (fun r w2 => zR 90 12 [l0, l1] (r.toList ++ st) w2 Q) := zR_call (zst zT_90_9 (zcall_v [a0] rfl hs hk rfl))
theorem zT_90_12 : zT 90 12 = some (.return_, 1, 0, []) := by decide +kernel
theorem zr_90_12 {l0 l1 : Option zV} {w : zW} {Q : Option zV → zW → Prop} : zR 90 12 [l0, l1] [] w Q = Q none w := zR_ret (zst zT_90_12 rfl)
theorem zT_90_13 : zT 90 13 = some (.aload_n 0, 1, 0, []) := by decide +kernel
theorem zr_90_13 {l1 : Option zV} {x : Option Nat} {st : List zV} {w : zW} {Q : Option zV → zW → Prop}  : zR 90 13 [some (.inr x), l1] st w Q = zR 90 14 [some (.inr x), l1] (.inr x :: st) w Q := zR_go (zst zT_90_13 rfl)
theorem zT_90_14 : zT 90 14 = some (.getfield 19, 3, 0, [(6, 4)]) := by decide +kernel
theorem zr_90_14 {l0 l1 : Option zV} {h : Nat} {st : List zV} {w : zW} {Q : Option zV → zW → Prop} (hk : zk w h = 6) : zR 90 14 [l0, l1] (.inr (some h) :: st) w Q = zR 90 17 [l0, l1] (.inl (zf w 52 h) :: st) w Q := zR_go (zst zT_90_14 (zget_i hk (Or.inl rfl)))
theorem zT_90_17 : zT 90 17 = some (.iconst 1, 1, 0, []) := by decide +kernel
theorem zr_90_17 {l0 l1 : Option zV} {st : List zV} {w : zW} {Q : Option zV → zW → Prop}  : zR 90 17 [l0, l1] st w Q = zR 90 18 [l0, l1] (.inl 1 :: st) w Q := zR_go (zst zT_90_17 rfl)
theorem zT_90_18 : zT 90 18 = some (.if_icmp .ne 8, 3, 0, []) := by decide +kernel
theorem zr_90_18 {l0 l1 : Option zV} {x y : Int} {st : List zV} {w : zW} {Q : Option zV → zW → Prop}  : zR 90 18 [l0, l1] (.inl y :: .inl x :: st) w Q = (if zN x ≠ zN y then zR 90 26 [l0, l1] st w Q else zR 90 21 [l0, l1] st w Q) := zR_if (zstB zT_90_18 rfl) (by simp [zcmp])
theorem zT_90_21 : zT 90 21 = some (.aload_n 0, 1, 0, []) := by decide +kernel
theorem zr_90_21 {l1 : Option zV} {x : Option Nat} {st : List zV} {w : zW} {Q : Option zV → zW → Prop}  : zR 90 21 [some (.inr x), l1] st w Q = zR 90 22 [some (.inr x), l1] (.inr x :: st) w Q := zR_go (zst zT_90_21 rfl)
theorem zT_90_22 : zT 90 22 = some (.aload_n 1, 1, 0, []) := by decide +kernel
theorem zr_90_22 {l0 : Option zV} {x : Option Nat} {st : List zV} {w : zW} {Q : Option zV → zW → Prop}  : zR 90 22 [l0, some (.inr x)] st w Q = zR 90 23 [l0, some (.inr x)] (.inr x :: st) w Q := zR_go (zst zT_90_22 rfl)
theorem zT_90_23 : zT 90 23 = some (.invokevirtual 26, 3, 1, [(6, 92)]) := by decide +kernel
theorem zr_90_23 {l0 l1 : Option zV} {a0 : zV} {h : Nat} {st : List zV} {w : zW} {Q : Option zV → zW → Prop} (hs : st.length ≤ 8) (hk : zk w h = 6) : zR 90 23 [l0, l1] (a0 :: .inr (some h) :: st) w Q = zR 92 0 [some (.inr (some h)), some a0] [] w (fun r w2 => zR 90 26 [l0, l1] (r.toList ++ st) w2 Q) := zR_call (zst zT_90_23 (zcall_v [a0] rfl hs hk rfl))
theorem zT_90_26 : zT 90 26 = some (.aload_n 0, 1, 0, []) := by decide +kernel
theorem zr_90_26 {l1 : Option zV} {x : Option Nat} {st : List zV} {w : zW} {Q : Option zV → zW → Prop}  : zR 90 26 [some (.inr x), l1] st w Q = zR 90 27 [some (.inr x), l1] (.inr x :: st) w Q := zR_go (zst zT_90_26 rfl)
theorem zT_90_27 : zT 90 27 = some (.invokevirtual 29, 3, 0, [(6, 88)]) := by decide +kernel
theorem zr_90_27 {l0 l1 : Option zV} {h : Nat} {st : List zV} {w : zW} {Q : Option zV → zW → Prop} (hs : st.length ≤ 8) (hk : zk w h = 6) : zR 90 27 [l0, l1] (.inr (some h) :: st) w Q = zR 88 0 [some (.inr (some h))] [] w (fun r w2 => zR 90 30 [l0, l1] (r.toList ++ st) w2 Q) := zR_call (zst zT_90_27 (zcall_v [] rfl hs hk rfl))
theorem zT_90_30 : zT 90 30 = some (.ifCond .ne 4, 3, 0, []) := by decide +kernel
theorem zr_90_30 {l0 l1 : Option zV} {x : Int} {st : List zV} {w : zW} {Q : Option zV → zW → Prop}  : zR 90 30 [l0, l1] (.inl x :: st) w Q = (if zN x ≠ 0 then zR 90 34 [l0, l1] st w Q else zR 90 33 [l0, l1] st w Q) := zR_if (zstB zT_90_30 rfl) (by simp [zcmp])
theorem zT_90_33 : zT 90 33 = some (.return_, 1, 0, []) := by decide +kernel
theorem zr_90_33 {l0 l1 : Option zV} {w : zW} {Q : Option zV → zW → Prop} : zR 90 33 [l0, l1] [] w Q = Q none w := zR_ret (zst zT_90_33 rfl)
theorem zT_90_34 : zT 90 34 = some (.aload_n 0, 1, 0, []) := by decide +kernel
theorem zr_90_34 {l1 : Option zV} {x : Option Nat} {st : List zV} {w : zW} {Q : Option zV → zW → Prop}  : zR 90 34 [some (.inr x), l1] st w Q = zR 90 35 [some (.inr x), l1] (.inr x :: st) w Q := zR_go (zst zT_90_34 rfl)
theorem zT_90_35 : zT 90 35 = some (.aload_n 1, 1, 0, []) := by decide +kernel
theorem zr_90_35 {l0 : Option zV} {x : Option Nat} {st : List zV} {w : zW} {Q : Option zV → zW → Prop}  : zR 90 35 [l0, some (.inr x)] st w Q = zR 90 36 [l0, some (.inr x)] (.inr x :: st) w Q := zR_go (zst zT_90_35 rfl)
theorem zT_90_36 : zT 90 36 = some (.invokevirtual 33, 3, 1, [(6, 94)]) := by decide +kernel
theorem zr_90_36 {l0 l1 : Option zV} {a0 : zV} {h : Nat} {st : List zV} {w : zW} {Q : Option zV → zW → Prop} (hs : st.length ≤ 8) (hk : zk w h = 6) : zR 90 36 [l0, l1] (a0 :: .inr (some h) :: st) w Q = zR 94 0 [some (.inr (some h)), some a0, none] [] w (fun r w2 => zR 90 39 [l0, l1] (r.toList ++ st) w2 Q) := zR_call (zst zT_90_36 (zcall_v [a0] rfl hs hk rfl))
theorem zT_90_39 : zT 90 39 = some (.aload_n 1, 1, 0, []) := by decide +kernel
theorem zr_90_39 {l0 : Option zV} {x : Option Nat} {st : List zV} {w : zW} {Q : Option zV → zW → Prop}  : zR 90 39 [l0, some (.inr x)] st w Q = zR 90 40 [l0, some (.inr x)] (.inr x :: st) w Q := zR_go (zst zT_90_39 rfl)
theorem zT_90_40 : zT 90 40 = some (.invokevirtual 36, 3, 0, [(5, 77)]) := by decide +kernel
theorem zr_90_40 {l0 l1 : Option zV} {h : Nat} {st : List zV} {w : zW} {Q : Option zV → zW → Prop} (hs : st.length ≤ 8) (hk : zk w h = 5) : zR 90 40 [l0, l1] (.inr (some h) :: st) w Q = zR 77 0 [some (.inr (some h))] [] w (fun r w2 => zR 90 43 [l0, l1] (r.toList ++ st) w2 Q) := zR_call (zst zT_90_40 (zcall_v [] rfl hs hk rfl))
theorem zT_90_43 : zT 90 43 = some (.ifCond .eq 11, 3, 0, []) := by decide +kernel
theorem zr_90_43 {l0 l1 : Option zV} {x : Int} {st : List zV} {w : zW} {Q : Option zV → zW → Prop}  : zR 90 43 [l0, l1] (.inl x :: st) w Q = (if zN x = 0 then zR 90 54 [l0, l1] st w Q else zR 90 46 [l0, l1] st w Q) := zR_if (zstB zT_90_43 rfl) (by simp [zcmp])
theorem zT_90_46 : zT 90 46 = some (.aload_n 0, 1, 0, []) := by decide +kernel
theorem zr_90_46 {l1 : Option zV} {x : Option Nat} {st : List zV} {w : zW} {Q : Option zV → zW → Prop}  : zR 90 46 [some (.inr x), l1] st w Q = zR 90 47 [some (.inr x), l1] (.inr x :: st) w Q := zR_go (zst zT_90_46 rfl)
theorem zT_90_47 : zT 90 47 = some (.aload_n 1, 1, 0, []) := by decide +kernel
theorem zr_90_47 {l0 : Option zV} {x : Option Nat} {st : List zV} {w : zW} {Q : Option zV → zW → Prop}  : zR 90 47 [l0, some (.inr x)] st w Q = zR 90 48 [l0, some (.inr x)] (.inr x :: st) w Q := zR_go (zst zT_90_47 rfl)
theorem zT_90_48 : zT 90 48 = some (.invokevirtual 41, 3, 1, [(6, 95)]) := by decide +kernel
theorem zr_90_48 {l0 l1 : Option zV} {a0 : zV} {h : Nat} {st : List zV} {w : zW} {Q : Option zV → zW → Prop} (hs : st.length ≤ 8) (hk : zk w h = 6) : zR 90 48 [l0, l1] (a0 :: .inr (some h) :: st) w Q = zR 95 0 [some (.inr (some h)), some a0] [] w (fun r w2 => zR 90 51 [l0, l1] (r.toList ++ st) w2 Q) := zR_call (zst zT_90_48 (zcall_v [a0] rfl hs hk rfl))
theorem zT_90_51 : zT 90 51 = some (.goto 7, 3, 0, []) := by decide +kernel
theorem zr_90_51 {l0 l1 : Option zV} {st : List zV} {w : zW} {Q : Option zV → zW → Prop}  : zR 90 51 [l0, l1] st w Q = zR 90 58 [l0, l1] st w Q := zR_go (zst zT_90_51 rfl)
theorem zT_90_54 : zT 90 54 = some (.aload_n 0, 1, 0, []) := by decide +kernel
theorem zr_90_54 {l1 : Option zV} {x : Option Nat} {st : List zV} {w : zW} {Q : Option zV → zW → Prop}  : zR 90 54 [some (.inr x), l1] st w Q = zR 90 55 [some (.inr x), l1] (.inr x :: st) w Q := zR_go (zst zT_90_54 rfl)
theorem zT_90_55 : zT 90 55 = some (.invokevirtual 44, 3, 0, [(6, 99)]) := by decide +kernel
theorem zr_90_55 {l0 l1 : Option zV} {h : Nat} {st : List zV} {w : zW} {Q : Option zV → zW → Prop} (hs : st.length ≤ 8) (hk : zk w h = 6) : zR 90 55 [l0, l1] (.inr (some h) :: st) w Q = zR 99 0 [some (.inr (some h))] [] w (fun r w2 => zR 90 58 [l0, l1] (r.toList ++ st) w2 Q) := zR_call (zst zT_90_55 (zcall_v [] rfl hs hk rfl))
theorem zT_90_58 : zT 90 58 = some (.return_, 1, 0, []) := by decide +kernel
theorem zr_90_58 {l0 l1 : Option zV} {w : zW} {Q : Option zV → zW → Prop} : zR 90 58 [l0, l1] [] w Q = Q none w := zR_ret (zst zT_90_58 rfl)
theorem zT_91_0 : zT 91 0 = some (.aload_n 1, 1, 0, []) := by decide +kernel
theorem zr_91_0 {l0 : Option zV} {x : Option Nat} {st : List zV} {w : zW} {Q : Option zV → zW → Prop}  : zR 91 0 [l0, some (.inr x)] st w Q = zR 91 1 [l0, some (.inr x)] (.inr x :: st) w Q := zR_go (zst zT_91_0 rfl)
theorem zT_91_1 : zT 91 1 = some (.invokevirtual 47, 3, 0, [(5, 84)]) := by decide +kernel
theorem zr_91_1 {l0 l1 : Option zV} {h : Nat} {st : List zV} {w : zW} {Q : Option zV → zW → Prop} (hs : st.length ≤ 8) (hk : zk w h = 5) : zR 91 1 [l0, l1] (.inr (some h) :: st) w Q = zR 84 0 [some (.inr (some h)), none] [] w (fun r w2 => zR 91 4 [l0, l1] (r.toList ++ st) w2 Q) := zR_call (zst zT_91_1 (zcall_v [] rfl hs hk rfl))
theorem zT_91_4 : zT 91 4 = some (.aload_n 0, 1, 0, []) := by decide +kernel
theorem zr_91_4 {l1 : Option zV} {x : Option Nat} {st : List zV} {w : zW} {Q : Option zV → zW → Prop}  : zR 91 4 [some (.inr x), l1] st w Q = zR 91 5 [some (.inr x), l1] (.inr x :: st) w Q := zR_go (zst zT_91_4 rfl)
theorem zT_91_5 : zT 91 5 = some (.iconst 0, 1, 0, []) := by decide +kernel
theorem zr_91_5 {l0 l1 : Option zV} {st : List zV} {w : zW} {Q : Option zV → zW → Prop}  : zR 91 5 [l0, l1] st w Q = zR 91 6 [l0, l1] (.inl 0 :: st) w Q := zR_go (zst zT_91_5 rfl)
theorem zT_91_6 : zT 91 6 = some (.putfield 50, 3, 0, [(6, 1)]) := by decide +kernel
theorem zr_91_6 {l0 l1 : Option zV} {h : Nat} {x : Int} {st : List zV} {w : zW} {Q : Option zV → zW → Prop} (hk : zk w h = 6) : zR 91 6 [l0, l1] (.inl x :: .inr (some h) :: st) w Q = zR 91 9 [l0, l1] st (zsf w 49 h x) Q := zR_go (zst zT_91_6 (zput_i hk rfl))
theorem zT_91_9 : zT 91 9 = some (.aload_n 0, 1, 0, []) := by decide +kernel
theorem zr_91_9 {l1 : Option zV} {x : Option Nat} {st : List zV} {w : zW} {Q : Option zV → zW → Prop}  : zR 91 9 [some (.inr x), l1] st w Q = zR 91 10 [some (.inr x), l1] (.inr x :: st) w Q := zR_go (zst zT_91_9 rfl)
theorem zT_91_10 : zT 91 10 = some (.iconst 0, 1, 0, []) := by decide +kernel
theorem zr_91_10 {l0 l1 : Option zV} {st : List zV} {w : zW} {Q : Option zV → zW → Prop}  : zR 91 10 [l0, l1] st w Q = zR 91 11 [l0, l1] (.inl 0 :: st) w Q := zR_go (zst zT_91_10 rfl)
theorem zT_91_11 : zT 91 11 = some (.putfield 53, 3, 0, [(6, 7)]) := by decide +kernel
theorem zr_91_11 {l0 l1 : Option zV} {h : Nat} {x : Int} {st : List zV} {w : zW} {Q : Option zV → zW → Prop} (hk : zk w h = 6) : zR 91 11 [l0, l1] (.inl x :: .inr (some h) :: st) w Q = zR 91 14 [l0, l1] st (zsf w 55 h x) Q := zR_go (zst zT_91_11 (zput_i hk rfl))
theorem zT_91_14 : zT 91 14 = some (.aload_n 0, 1, 0, []) := by decide +kernel
theorem zr_91_14 {l1 : Option zV} {x : Option Nat} {st : List zV} {w : zW} {Q : Option zV → zW → Prop}  : zR 91 14 [some (.inr x), l1] st w Q = zR 91 15 [some (.inr x), l1] (.inr x :: st) w Q := zR_go (zst zT_91_14 rfl)
theorem zT_91_15 : zT 91 15 = some (.iconst 1, 1, 0, []) := by decide +kernel
theorem zr_91_15 {l0 l1 : Option zV} {st : List zV} {w : zW} {Q : Option zV → zW → Prop}  : zR 91 15 [l0, l1] st w Q = zR 91 16 [l0, l1] (.inl 1 :: st) w Q := zR_go (zst zT_91_15 rfl)
theorem zT_91_16 : zT 91 16 = some (.invokevirtual 15, 3, 1, [(6, 98)]) := by decide +kernel
theorem zr_91_16 {l0 l1 : Option zV} {a0 : zV} {h : Nat} {st : List zV} {w : zW} {Q : Option zV → zW → Prop} (hs : st.length ≤ 8) (hk : zk w h = 6) : zR 91 16 [l0, l1] (a0 :: .inr (some h) :: st) w Q = zR 98 0 [some (.inr (some h)), some a0] [] w (fun r w2 => zR 91 19 [l0, l1] (r.toList ++ st) w2 Q) := zR_call (zst zT_91_16 (zcall_v [a0] rfl hs hk rfl))
theorem zT_91_19 : zT 91 19 = some (.return_, 1, 0, []) := by decide +kernel
theorem zr_91_19 {l0 l1 : Option zV} {w : zW} {Q : Option zV → zW → Prop} : zR 91 19 [l0, l1] [] w Q = Q none w := zR_ret (zst zT_91_19 rfl)
theorem zT_92_0 : zT 92 0 = some (.aload_n 0, 1, 0, []) := by decide +kernel
theorem zr_92_0 {l1 : Option zV} {x : Option Nat} {st : List zV} {w : zW} {Q : Option zV → zW → Prop}  : zR 92 0 [some (.inr x), l1] st w Q = zR 92 1 [some (.inr x), l1] (.inr x :: st) w Q := zR_go (zst zT_92_0 rfl)
theorem zT_92_1 : zT 92 1 = some (.aload_n 1, 1, 0, []) := by decide +kernel
theorem zr_92_1 {l0 : Option zV} {x : Option Nat} {st : List zV} {w : zW} {Q : Option zV → zW → Prop}  : zR 92 1 [l0, some (.inr x)] st w Q = zR 92 2 [l0, some (.inr x)] (.inr x :: st) w Q := zR_go (zst zT_92_1 rfl)
theorem zT_92_2 : zT 92 2 = some (.invokevirtual 56, 3, 0, [(5, 83)]) := by decide +kernel
theorem zr_92_2 {l0 l1 : Option zV} {h : Nat} {st : List zV} {w : zW} {Q : Option zV → zW → Prop} (hs : st.length ≤ 8) (hk : zk w h = 5) : zR 92 2 [l0, l1] (.inr (some h) :: st) w Q = zR 83 0 [some (.inr (some h)), none, none, none] [] w (fun r w2 => zR 92 5 [l0, l1] (r.toList ++ st) w2 Q) := zR_call (zst zT_92_2 (zcall_v [] rfl hs hk rfl))
theorem zT_92_5 : zT 92 5 = some (.putfield 60, 3, 0, [(6, 5)]) := by decide +kernel
theorem zr_92_5 {l0 l1 : Option zV} {h : Nat} {x : Int} {st : List zV} {w : zW} {Q : Option zV → zW → Prop} (hk : zk w h = 6) : zR 92 5 [l0, l1] (.inl x :: .inr (some h) :: st) w Q = zR 92 8 [l0, l1] st (zsf w 53 h x) Q := zR_go (zst zT_92_5 (zput_i hk rfl))
theorem zT_92_8 : zT 92 8 = some (.aload_n 0, 1, 0, []) := by decide +kernel
theorem zr_92_8 {l1 : Option zV} {x : Option Nat} {st : List zV} {w : zW} {Q : Option zV → zW → Prop}  : zR 92 8 [some (.inr x), l1] st w Q = zR 92 9 [some (.inr x), l1] (.inr x :: st) w Q := zR_go (zst zT_92_8 rfl)
theorem zT_92_9 : zT 92 9 = some (.getfield 60, 3, 0, [(6, 5)]) := by decide +kernel
theorem zr_92_9 {l0 l1 : Option zV} {h : Nat} {st : List zV} {w : zW} {Q : Option zV → zW → Prop} (hk : zk w h = 6) : zR 92 9 [l0, l1] (.inr (some h) :: st) w Q = zR 92 12 [l0, l1] (.inl (zf w 53 h) :: st) w Q := zR_go (zst zT_92_9 (zget_i hk (Or.inl rfl)))
theorem zT_92_12 : zT 92 12 = some (.iconst (-1), 1, 0, []) := by decide +kernel
theorem zr_92_12 {l0 l1 : Option zV} {st : List zV} {w : zW} {Q : Option zV → zW → Prop}  : zR 92 12 [l0, l1] st w Q = zR 92 13 [l0, l1] (.inl (-1) :: st) w Q := zR_go (zst zT_92_12 rfl)
theorem zT_92_13 : zT 92 13 = some (.if_icmp .ne 10, 3, 0, []) := by decide +kernel
theorem zr_92_13 {l0 l1 : Option zV} {x y : Int} {st : List zV} {w : zW} {Q : Option zV → zW → Prop}  : zR 92 13 [l0, l1] (.inl y :: .inl x :: st) w Q = (if zN x ≠ zN y then zR 92 23 [l0, l1] st w Q else zR 92 16 [l0, l1] st w Q) := zR_if (zstB zT_92_13 rfl) (by simp [zcmp])
theorem zT_92_16 : zT 92 16 = some (.aload_n 0, 1, 0, []) := by decide +kernel
theorem zr_92_16 {l1 : Option zV} {x : Option Nat} {st : List zV} {w : zW} {Q : Option zV → zW → Prop}  : zR 92 16 [some (.inr x), l1] st w Q = zR 92 17 [some (.inr x), l1] (.inr x :: st) w Q := zR_go (zst zT_92_16 rfl)
theorem zT_92_17 : zT 92 17 = some (.invokevirtual 63, 3, 0, [(6, 93)]) := by decide +kernel
theorem zr_92_17 {l0 l1 : Option zV} {h : Nat} {st : List zV} {w : zW} {Q : Option zV → zW → Prop} (hs : st.length ≤ 8) (hk : zk w h = 6) : zR 92 17 [l0, l1] (.inr (some h) :: st) w Q = zR 93 0 [some (.inr (some h))] [] w (fun r w2 => zR 92 20 [l0, l1] (r.toList ++ st) w2 Q) := zR_call (zst zT_92_17 (zcall_v [] rfl hs hk rfl))
theorem zT_92_20 : zT 92 20 = some (.goto 17, 3, 0, []) := by decide +kernel
theorem zr_92_20 {l0 l1 : Option zV} {st : List zV} {w : zW} {Q : Option zV → zW → Prop}  : zR 92 20 [l0, l1] st w Q = zR 92 37 [l0, l1] st w Q := zR_go (zst zT_92_20 rfl)
theorem zT_92_23 : zT 92 23 = some (.aload_n 0, 1, 0, []) := by decide +kernel
theorem zr_92_23 {l1 : Option zV} {x : Option Nat} {st : List zV} {w : zW} {Q : Option zV → zW → Prop}  : zR 92 23 [some (.inr x), l1] st w Q = zR 92 24 [some (.inr x), l1] (.inr x :: st) w Q := zR_go (zst zT_92_23 rfl)
theorem zT_92_24 : zT 92 24 = some (.getfield 50, 3, 0, [(6, 1)]) := by decide +kernel
theorem zr_92_24 {l0 l1 : Option zV} {h : Nat} {st : List zV} {w : zW} {Q : Option zV → zW → Prop} (hk : zk w h = 6) : zR 92 24 [l0, l1] (.inr (some h) :: st) w Q = zR 92 27 [l0, l1] (.inl (zf w 49 h) :: st) w Q := zR_go (zst zT_92_24 (zget_i hk (Or.inl rfl)))
theorem zT_92_27 : zT 92 27 = some (.bipush 16, 2, 0, []) := by decide +kernel
theorem zr_92_27 {l0 l1 : Option zV} {st : List zV} {w : zW} {Q : Option zV → zW → Prop}  : zR 92 27 [l0, l1] st w Q = zR 92 29 [l0, l1] (.inl 16 :: st) w Q := zR_go (zst zT_92_27 rfl)
theorem zT_92_29 : zT 92 29 = some (.if_icmp .ne 8, 3, 0, []) := by decide +kernel
theorem zr_92_29 {l0 l1 : Option zV} {x y : Int} {st : List zV} {w : zW} {Q : Option zV → zW → Prop}  : zR 92 29 [l0, l1] (.inl y :: .inl x :: st) w Q = (if zN x ≠ zN y then zR 92 37 [l0, l1] st w Q else zR 92 32 [l0, l1] st w Q) := zR_if (zstB zT_92_29 rfl) (by simp [zcmp])
theorem zT_92_32 : zT 92 32 = some (.aload_n 0, 1, 0, []) := by decide +kernel
theorem zr_92_32 {l1 : Option zV} {x : Option Nat} {st : List zV} {w : zW} {Q : Option zV → zW → Prop}  : zR 92 32 [some (.inr x), l1] st w Q = zR 92 33 [some (.inr x), l1] (.inr x :: st) w Q := zR_go (zst zT_92_32 rfl)
theorem zT_92_33 : zT 92 33 = some (.iconst 3, 1, 0, []) := by decide +kernel
theorem zr_92_33 {l0 l1 : Option zV} {st : List zV} {w : zW} {Q : Option zV → zW → Prop}  : zR 92 33 [l0, l1] st w Q = zR 92 34 [l0, l1] (.inl 3 :: st) w Q := zR_go (zst zT_92_33 rfl)
theorem zT_92_34 : zT 92 34 = some (.invokevirtual 66, 3, 1, [(6, 101)]) := by decide +kernel
theorem zr_92_34 {l0 l1 : Option zV} {a0 : zV} {h : Nat} {st : List zV} {w : zW} {Q : Option zV → zW → Prop} (hs : st.length ≤ 8) (hk : zk w h = 6) : zR 92 34 [l0, l1] (a0 :: .inr (some h) :: st) w Q = zR 101 0 [some (.inr (some h)), some a0] [] w (fun r w2 => zR 92 37 [l0, l1] (r.toList ++ st) w2 Q) := zR_call (zst zT_92_34 (zcall_v [a0] rfl hs hk rfl))
theorem zT_92_37 : zT 92 37 = some (.return_, 1, 0, []) := by decide +kernel
theorem zr_92_37 {l0 l1 : Option zV} {w : zW} {Q : Option zV → zW → Prop} : zR 92 37 [l0, l1] [] w Q = Q none w := zR_ret (zst zT_92_37 rfl)
theorem zT_93_0 : zT 93 0 = some (.aload_n 0, 1, 0, []) := by decide +kernel
theorem zr_93_0 {x : Option Nat} {st : List zV} {w : zW} {Q : Option zV → zW → Prop}  : zR 93 0 [some (.inr x)] st w Q = zR 93 1 [some (.inr x)] (.inr x :: st) w Q := zR_go (zst zT_93_0 rfl)
theorem zT_93_1 : zT 93 1 = some (.getfield 50, 3, 0, [(6, 1)]) := by decide +kernel
theorem zr_93_1 {l0 : Option zV} {h : Nat} {st : List zV} {w : zW} {Q : Option zV → zW → Prop} (hk : zk w h = 6) : zR 93 1 [l0] (.inr (some h) :: st) w Q = zR 93 4 [l0] (.inl (zf w 49 h) :: st) w Q := zR_go (zst zT_93_1 (zget_i hk (Or.inl rfl)))
theorem zT_93_4 : zT 93 4 = some (.ifCond .ne 10, 3, 0, []) := by decide +kernel
theorem zr_93_4 {l0 : Option zV} {x : Int} {st : List zV} {w : zW} {Q : Option zV → zW → Prop}  : zR 93 4 [l0] (.inl x :: st) w Q = (if zN x ≠ 0 then zR 93 14 [l0] st w Q else zR 93 7 [l0] st w Q) := zR_if (zstB zT_93_4 rfl) (by simp [zcmp])
theorem zT_93_7 : zT 93 7 = some (.aload_n 0, 1, 0, []) := by decide +kernel
theorem zr_93_7 {x : Option Nat} {st : List zV} {w : zW} {Q : Option zV → zW → Prop}  : zR 93 7 [some (.inr x)] st w Q = zR 93 8 [some (.inr x)] (.inr x :: st) w Q := zR_go (zst zT_93_7 rfl)
theorem zT_93_8 : zT 93 8 = some (.invokevirtual 69, 3, 0, [(6, 100)]) := by decide +kernel
theorem zr_93_8 {l0 : Option zV} {h : Nat} {st : List zV} {w : zW} {Q : Option zV → zW → Prop} (hs : st.length ≤ 8) (hk : zk w h = 6) : zR 93 8 [l0] (.inr (some h) :: st) w Q = zR 100 0 [some (.inr (some h))] [] w (fun r w2 => zR 93 11 [l0] (r.toList ++ st) w2 Q) := zR_call (zst zT_93_8 (zcall_v [] rfl hs hk rfl))
theorem zT_93_11 : zT 93 11 = some (.goto 13, 3, 0, []) := by decide +kernel
theorem zr_93_11 {l0 : Option zV} {st : List zV} {w : zW} {Q : Option zV → zW → Prop}  : zR 93 11 [l0] st w Q = zR 93 24 [l0] st w Q := zR_go (zst zT_93_11 rfl)
theorem zT_93_14 : zT 93 14 = some (.aload_n 0, 1, 0, []) := by decide +kernel
theorem zr_93_14 {x : Option Nat} {st : List zV} {w : zW} {Q : Option zV → zW → Prop}  : zR 93 14 [some (.inr x)] st w Q = zR 93 15 [some (.inr x)] (.inr x :: st) w Q := zR_go (zst zT_93_14 rfl)
theorem zT_93_15 : zT 93 15 = some (.iconst 0, 1, 0, []) := by decide +kernel
theorem zr_93_15 {l0 : Option zV} {st : List zV} {w : zW} {Q : Option zV → zW → Prop}  : zR 93 15 [l0] st w Q = zR 93 16 [l0] (.inl 0 :: st) w Q := zR_go (zst zT_93_15 rfl)
theorem zT_93_16 : zT 93 16 = some (.putfield 72, 3, 0, [(6, 6)]) := by decide +kernel
theorem zr_93_16 {l0 : Option zV} {h : Nat} {x : Int} {st : List zV} {w : zW} {Q : Option zV → zW → Prop} (hk : zk w h = 6) : zR 93 16 [l0] (.inl x :: .inr (some h) :: st) w Q = zR 93 19 [l0] st (zsf w 54 h x) Q := zR_go (zst zT_93_16 (zput_i hk rfl))
theorem zT_93_19 : zT 93 19 = some (.aload_n 0, 1, 0, []) := by decide +kernel
theorem zr_93_19 {x : Option Nat} {st : List zV} {w : zW} {Q : Option zV → zW → Prop}  : zR 93 19 [some (.inr x)] st w Q = zR 93 20 [some (.inr x)] (.inr x :: st) w Q := zR_go (zst zT_93_19 rfl)
theorem zT_93_20 : zT 93 20 = some (.iconst 3, 1, 0, []) := by decide +kernel
theorem zr_93_20 {l0 : Option zV} {st : List zV} {w : zW} {Q : Option zV → zW → Prop}  : zR 93 20 [l0] st w Q = zR 93 21 [l0] (.inl 3 :: st) w Q := zR_go (zst zT_93_20 rfl)
theorem zT_93_21 : zT 93 21 = some (.invokevirtual 15, 3, 1, [(6, 98)]) := by decide +kernel
theorem zr_93_21 {l0 : Option zV} {a0 : zV} {h : Nat} {st : List zV} {w : zW} {Q : Option zV → zW → Prop} (hs : st.length ≤ 8) (hk : zk w h = 6) : zR 93 21 [l0] (a0 :: .inr (some h) :: st) w Q = zR 98 0 [some (.inr (some h)), some a0] [] w (fun r w2 => zR 93 24 [l0] (r.toList ++ st) w2 Q) := zR_call (zst zT_93_21 (zcall_v [a0] rfl hs hk rfl))
theorem zT_93_24 : zT 93 24 = some (.return_, 1, 0, []) := by decide +kernel
theorem zr_93_24 {l0 : Option zV} {w : zW} {Q : Option zV → zW → Prop} : zR 93 24 [l0] [] w Q = Q none w := zR_ret (zst zT_93_24 rfl)
theorem zT_94_0 : zT 94 0 = some (.aload_n 1, 1, 0, []) := by decide +kernel
theorem zr_94_0 {l0 l2 : Option zV} {x : Option Nat} {st : List zV} {w : zW} {Q : Option zV → zW → Prop}  : zR 94 0 [l0, some (.inr x), l2] st w Q = zR 94 1 [l0, some (.inr x), l2] (.inr x :: st) w Q := zR_go (zst zT_94_0 rfl)
theorem zT_94_1 : zT 94 1 = some (.getfield 75, 3, 0, [(5, 3)]) := by decide +kernel
theorem zr_94_1 {l0 l1 l2 : Option zV} {h : Nat} {st : List zV} {w : zW} {Q : Option zV → zW → Prop} (hk : zk w h = 5) : zR 94 1 [l0, l1, l2] (.inr (some h) :: st) w Q = zR 94 4 [l0, l1, l2] (.inr (zp w 44 h) :: st) w Q := zR_go (zst zT_94_1 (zget_r hk rfl))
theorem zT_94_4 : zT 94 4 = some (.astore_n 2, 1, 0, []) := by decide +kernel
theorem zr_94_4 {l0 l1 l2 : Option zV} {x : Option Nat} {st : List zV} {w : zW} {Q : Option zV → zW → Prop}  : zR 94 4 [l0, l1, l2] (.inr x :: st) w Q = zR 94 5 [l0, l1, some (.inr x)] st w Q := zR_go (zst zT_94_4 rfl)
theorem zT_94_5 : zT 94 5 = some (.aload_n 2, 1, 0, []) := by decide +kernel
theorem zr_94_5 {l0 l1 : Option zV} {x : Option Nat} {st : List zV} {w : zW} {Q : Option zV → zW → Prop}  : zR 94 5 [l0, l1, some (.inr x)] st w Q = zR 94 6 [l0, l1, some (.inr x)] (.inr x :: st) w Q := zR_go (zst zT_94_5 rfl)
theorem zT_94_6 : zT 94 6 = some (.invokevirtual 79, 3, 0, [(7, 139)]) := by decide +kernel
theorem zr_94_6 {l0 l1 l2 : Option zV} {h : Nat} {st : List zV} {w : zW} {Q : Option zV → zW → Prop} (hs : st.length ≤ 8) (hk : zk w h = 7) : zR 94 6 [l0, l1, l2] (.inr (some h) :: st) w Q = zR 139 0 [some (.inr (some h))] [] w (fun r w2 => zR 94 9 [l0, l1, l2] (r.toList ++ st) w2 Q) := zR_call (zst zT_94_6 (zcall_v [] rfl hs hk rfl))
theorem zT_94_9 : zT 94 9 = some (.aload_n 0, 1, 0, []) := by decide +kernel
theorem zr_94_9 {l1 l2 : Option zV} {x : Option Nat} {st : List zV} {w : zW} {Q : Option zV → zW → Prop}  : zR 94 9 [some (.inr x), l1, l2] st w Q = zR 94 10 [some (.inr x), l1, l2] (.inr x :: st) w Q := zR_go (zst zT_94_9 rfl)
theorem zT_94_10 : zT 94 10 = some (.getfield 19, 3, 0, [(6, 4)]) := by decide +kernel
theorem zr_94_10 {l0 l1 l2 : Option zV} {h : Nat} {st : List zV} {w : zW} {Q : Option zV → zW → Prop} (hk : zk w h = 6) : zR 94 10 [l0, l1, l2] (.inr (some h) :: st) w Q = zR 94 13 [l0, l1, l2] (.inl (zf w 52 h) :: st) w Q := zR_go (zst zT_94_10 (zget_i hk (Or.inl rfl)))
theorem zT_94_13 : zT 94 13 = some (.iconst 3, 1, 0, []) := by decide +kernel
theorem zr_94_13 {l0 l1 l2 : Option zV} {st : List zV} {w : zW} {Q : Option zV → zW → Prop}  : zR 94 13 [l0, l1, l2] st w Q = zR 94 14 [l0, l1, l2] (.inl 3 :: st) w Q := zR_go (zst zT_94_13 rfl)
theorem zT_94_14 : zT 94 14 = some (.if_icmp .ne 30, 3, 0, []) := by decide +kernel
theorem zr_94_14 {l0 l1 l2 : Option zV} {x y : Int} {st : List zV} {w : zW} {Q : Option zV → zW → Prop}  : zR 94 14 [l0, l1, l2] (.inl y :: .inl x :: st) w Q = (if zN x ≠ zN y then zR 94 44 [l0, l1, l2] st w Q else zR 94 17 [l0, l1, l2] st w Q) := zR_if (zstB zT_94_14 rfl) (by simp [zcmp])
theorem zT_94_17 : zT 94 17 = some (.aload_n 2, 1, 0, []) := by decide +kernel
theorem zr_94_17 {l0 l1 : Option zV} {x : Option Nat} {st : List zV} {w : zW} {Q : Option zV → zW → Prop}  : zR 94 17 [l0, l1, some (.inr x)] st w Q = zR 94 18 [l0, l1, some (.inr x)] (.inr x :: st) w Q := zR_go (zst zT_94_17 rfl)
theorem zT_94_18 : zT 94 18 = some (.bipush 16, 2, 0, []) := by decide +kernel
theorem zr_94_18 {l0 l1 l2 : Option zV} {st : List zV} {w : zW} {Q : Option zV → zW → Prop}  : zR 94 18 [l0, l1, l2] st w Q = zR 94 20 [l0, l1, l2] (.inl 16 :: st) w Q := zR_go (zst zT_94_18 rfl)
theorem zT_94_20 : zT 94 20 = some (.aload_n 0, 1, 0, []) := by decide +kernel
theorem zr_94_20 {l1 l2 : Option zV} {x : Option Nat} {st : List zV} {w : zW} {Q : Option zV → zW → Prop}  : zR 94 20 [some (.inr x), l1, l2] st w Q = zR 94 21 [some (.inr x), l1, l2] (.inr x :: st) w Q := zR_go (zst zT_94_20 rfl)
theorem zT_94_21 : zT 94 21 = some (.getfield 72, 3, 0, [(6, 6)]) := by decide +kernel
theorem zr_94_21 {l0 l1 l2 : Option zV} {h : Nat} {st : List zV} {w : zW} {Q : Option zV → zW → Prop} (hk : zk w h = 6) : zR 94 21 [l0, l1, l2] (.inr (some h) :: st) w Q = zR 94 24 [l0, l1, l2] (.inl (zf w 54 h) :: st) w Q := zR_go (zst zT_94_21 (zget_i hk (Or.inl rfl)))
theorem zT_94_24 : zT 94 24 = some (.iadd, 1, 0, []) := by decide +kernel
theorem zr_94_24 {l0 l1 l2 : Option zV} {x y : Int} {st : List zV} {w : zW} {Q : Option zV → zW → Prop}  : zR 94 24 [l0, l1, l2] (.inl y :: .inl x :: st) w Q = zR 94 25 [l0, l1, l2] (.inl (x + y) :: st) w Q := zR_go (zst zT_94_24 rfl)
theorem zT_94_25 : zT 94 25 = some (.invokevirtual 84, 3, 1, [(7, 140)]) := by decide +kernel
theorem zr_94_25 {l0 l1 l2 : Option zV} {a0 : zV} {h : Nat} {st : List zV} {w : zW} {Q : Option zV → zW → Prop} (hs : st.length ≤ 8) (hk : zk w h = 7) : zR 94 25 [l0, l1, l2] (a0 :: .inr (some h) :: st) w Q = zR 140 0 [some (.inr (some h)), some a0] [] w (fun r w2 => zR 94 28 [l0, l1, l2] (r.toList ++ st) w2 Q) := zR_call (zst zT_94_25 (zcall_v [a0] rfl hs hk rfl))
theorem zT_94_28 : zT 94 28 = some (.aload_n 2, 1, 0, []) := by decide +kernel
theorem zr_94_28 {l0 l1 : Option zV} {x : Option Nat} {st : List zV} {w : zW} {Q : Option zV → zW → Prop}  : zR 94 28 [l0, l1, some (.inr x)] st w Q = zR 94 29 [l0, l1, some (.inr x)] (.inr x :: st) w Q := zR_go (zst zT_94_28 rfl)
theorem zT_94_29 : zT 94 29 = some (.aload_n 1, 1, 0, []) := by decide +kernel
theorem zr_94_29 {l0 l2 : Option zV} {x : Option Nat} {st : List zV} {w : zW} {Q : Option zV → zW → Prop}  : zR 94 29 [l0, some (.inr x), l2] st w Q = zR 94 30 [l0, some (.inr x), l2] (.inr x :: st) w Q := zR_go (zst zT_94_29 rfl)
theorem zT_94_30 : zT 94 30 = some (.invokevirtual 87, 3, 0, [(5, 82)]) := by decide +kernel
theorem zr_94_30 {l0 l1 l2 : Option zV} {h : Nat} {st : List zV} {w : zW} {Q : Option zV → zW → Prop} (hs : st.length ≤ 8) (hk : zk w h = 5) : zR 94 30 [l0, l1, l2] (.inr (some h) :: st) w Q = zR 82 0 [some (.inr (some h))] [] w (fun r w2 => zR 94 33 [l0, l1, l2] (r.toList ++ st) w2 Q) := zR_call (zst zT_94_30 (zcall_v [] rfl hs hk rfl))
theorem zT_94_33 : zT 94 33 = some (.aload_n 0, 1, 0, []) := by decide +kernel
theorem zr_94_33 {l1 l2 : Option zV} {x : Option Nat} {st : List zV} {w : zW} {Q : Option zV → zW → Prop}  : zR 94 33 [some (.inr x), l1, l2] st w Q = zR 94 34 [some (.inr x), l1, l2] (.inr x :: st) w Q := zR_go (zst zT_94_33 rfl)
theorem zT_94_34 : zT 94 34 = some (.getfield 72, 3, 0, [(6, 6)]) := by decide +kernel
theorem zr_94_34 {l0 l1 l2 : Option zV} {h : Nat} {st : List zV} {w : zW} {Q : Option zV → zW → Prop} (hk : zk w h = 6) : zR 94 34 [l0, l1, l2] (.inr (some h) :: st) w Q = zR 94 37 [l0, l1, l2] (.inl (zf w 54 h) :: st) w Q := zR_go (zst zT_94_34 (zget_i hk (Or.inl rfl)))
theorem zT_94_37 : zT 94 37 = some (.iadd, 1, 0, []) := by decide +kernel
theorem zr_94_37 {l0 l1 l2 : Option zV} {x y : Int} {st : List zV} {w : zW} {Q : Option zV → zW → Prop}  : zR 94 37 [l0, l1, l2] (.inl y :: .inl x :: st) w Q = zR 94 38 [l0, l1, l2] (.inl (x + y) :: st) w Q := zR_go (zst zT_94_37 rfl)
theorem zT_94_38 : zT 94 38 = some (.invokevirtual 84, 3, 1, [(7, 140)]) := by decide +kernel
theorem zr_94_38 {l0 l1 l2 : Option zV} {a0 : zV} {h : Nat} {st : List zV} {w : zW} {Q : Option zV → zW → Prop} (hs : st.length ≤ 8) (hk : zk w h = 7) : zR 94 38 [l0, l1, l2] (a0 :: .inr (some h) :: st) w Q = zR 140 0 [some (.inr (some h)), some a0] [] w (fun r w2 => zR 94 41 [l0, l1, l2] (r.toList ++ st) w2 Q) := zR_call (zst zT_94_38 (zcall_v [a0] rfl hs hk rfl))
theorem zT_94_41 : zT 94 41 = some (.goto 27, 3, 0, []) := by decide +kernel
theorem zr_94_41 {l0 l1 l2 : Option zV} {st : List zV} {w : zW} {Q : Option zV → zW → Prop}  : zR 94 41 [l0, l1, l2] st w Q = zR 94 68 [l0, l1, l2] st w Q := zR_go (zst zT_94_41 rfl)
theorem zT_94_44 : zT 94 44 = some (.aload_n 2, 1, 0, []) := by decide +kernel
theorem zr_94_44 {l0 l1 : Option zV} {x : Option Nat} {st : List zV} {w : zW} {Q : Option zV → zW → Prop}  : zR 94 44 [l0, l1, some (.inr x)] st w Q = zR 94 45 [l0, l1, some (.inr x)] (.inr x :: st) w Q := zR_go (zst zT_94_44 rfl)
theorem zT_94_45 : zT 94 45 = some (.aload_n 0, 1, 0, []) := by decide +kernel
theorem zr_94_45 {l1 l2 : Option zV} {x : Option Nat} {st : List zV} {w : zW} {Q : Option zV → zW → Prop}  : zR 94 45 [some (.inr x), l1, l2] st w Q = zR 94 46 [some (.inr x), l1, l2] (.inr x :: st) w Q := zR_go (zst zT_94_45 rfl)
theorem zT_94_46 : zT 94 46 = some (.getfield 60, 3, 0, [(6, 5)]) := by decide +kernel
theorem zr_94_46 {l0 l1 l2 : Option zV} {h : Nat} {st : List zV} {w : zW} {Q : Option zV → zW → Prop} (hk : zk w h = 6) : zR 94 46 [l0, l1, l2] (.inr (some h) :: st) w Q = zR 94 49 [l0, l1, l2] (.inl (zf w 53 h) :: st) w Q := zR_go (zst zT_94_46 (zget_i hk (Or.inl rfl)))
theorem zT_94_49 : zT 94 49 = some (.sipush 256, 3, 0, []) := by decide +kernel
theorem zr_94_49 {l0 l1 l2 : Option zV} {st : List zV} {w : zW} {Q : Option zV → zW → Prop}  : zR 94 49 [l0, l1, l2] st w Q = zR 94 52 [l0, l1, l2] (.inl 256 :: st) w Q := zR_go (zst zT_94_49 rfl)
theorem zT_94_52 : zT 94 52 = some (.idiv, 1, 0, []) := by decide +kernel
theorem zr_94_52 {l0 l1 l2 : Option zV} {x y : Int} {st : List zV} {w : zW} {Q : Option zV → zW → Prop} (hy : ¬ zN y = 0) : zR 94 52 [l0, l1, l2] (.inl y :: .inl x :: st) w Q = zR 94 53 [l0, l1, l2] (.inl (zo_div x y) :: st) w Q := zR_go (zst zT_94_52 (if_neg hy))
theorem zT_94_53 : zT 94 53 = some (.invokevirtual 84, 3, 1, [(7, 140)]) := by decide +kernel
theorem zr_94_53 {l0 l1 l2 : Option zV} {a0 : zV} {h : Nat} {st : List zV} {w : zW} {Q : Option zV → zW → Prop} (hs : st.length ≤ 8) (hk : zk w h = 7) : zR 94 53 [l0, l1, l2] (a0 :: .inr (some h) :: st) w Q = zR 140 0 [some (.inr (some h)), some a0] [] w (fun r w2 => zR 94 56 [l0, l1, l2] (r.toList ++ st) w2 Q) := zR_call (zst zT_94_53 (zcall_v [a0] rfl hs hk rfl))
theorem zT_94_56 : zT 94 56 = some (.aload_n 2, 1, 0, []) := by decide +kernel
theorem zr_94_56 {l0 l1 : Option zV} {x : Option Nat} {st : List zV} {w : zW} {Q : Option zV → zW → Prop}  : zR 94 56 [l0, l1, some (.inr x)] st w Q = zR 94 57 [l0, l1, some (.inr x)] (.inr x :: st) w Q := zR_go (zst zT_94_56 rfl)
theorem zT_94_57 : zT 94 57 = some (.aload_n 0, 1, 0, []) := by decide +kernel
theorem zr_94_57 {l1 l2 : Option zV} {x : Option Nat} {st : List zV} {w : zW} {Q : Option zV → zW → Prop}  : zR 94 57 [some (.inr x), l1, l2] st w Q = zR 94 58 [some (.inr x), l1, l2] (.inr x :: st) w Q := zR_go (zst zT_94_57 rfl)
theorem zT_94_58 : zT 94 58 = some (.getfield 60, 3, 0, [(6, 5)]) := by decide +kernel
theorem zr_94_58 {l0 l1 l2 : Option zV} {h : Nat} {st : List zV} {w : zW} {Q : Option zV → zW → Prop} (hk : zk w h = 6) : zR 94 58 [l0, l1, l2] (.inr (some h) :: st) w Q = zR 94 61 [l0, l1, l2] (.inl (zf w 53 h) :: st) w Q := zR_go (zst zT_94_58 (zget_i hk (Or.inl rfl)))
theorem zT_94_61 : zT 94 61 = some (.sipush 256, 3, 0, []) := by decide +kernel
theorem zr_94_61 {l0 l1 l2 : Option zV} {st : List zV} {w : zW} {Q : Option zV → zW → Prop}  : zR 94 61 [l0, l1, l2] st w Q = zR 94 64 [l0, l1, l2] (.inl 256 :: st) w Q := zR_go (zst zT_94_61 rfl)
theorem zT_94_64 : zT 94 64 = some (.irem, 1, 0, []) := by decide +kernel
theorem zr_94_64 {l0 l1 l2 : Option zV} {x y : Int} {st : List zV} {w : zW} {Q : Option zV → zW → Prop} (hy : ¬ zN y = 0) : zR 94 64 [l0, l1, l2] (.inl y :: .inl x :: st) w Q = zR 94 65 [l0, l1, l2] (.inl (zo_rem x y) :: st) w Q := zR_go (zst zT_94_64 (if_neg hy))
theorem zT_94_65 : zT 94 65 = some (.invokevirtual 84, 3, 1, [(7, 140)]) := by decide +kernel
theorem zr_94_65 {l0 l1 l2 : Option zV} {a0 : zV} {h : Nat} {st : List zV} {w : zW} {Q : Option zV → zW → Prop} (hs : st.length ≤ 8) (hk : zk w h = 7) : zR 94 65 [l0, l1, l2] (a0 :: .inr (some h) :: st) w Q = zR 140 0 [some (.inr (some h)), some a0] [] w (fun r w2 => zR 94 68 [l0, l1, l2] (r.toList ++ st) w2 Q) := zR_call (zst zT_94_65 (zcall_v [a0] rfl hs hk rfl))
theorem zT_94_68 : zT 94 68 = some (.aload_n 0, 1, 0, []) := by decide +kernel
theorem zr_94_68 {l1 l2 : Option zV} {x : Option Nat} {st : List zV} {w : zW} {Q : Option zV → zW → Prop}  : zR 94 68 [some (.inr x), l1, l2] st w Q = zR 94 69 [some (.inr x), l1, l2] (.inr x :: st) w Q := zR_go (zst zT_94_68 rfl)
theorem zT_94_69 : zT 94 69 = some (.getfield 19, 3, 0, [(6, 4)]) := by decide +kernel
theorem zr_94_69 {l0 l1 l2 : Option zV} {h : Nat} {st : List zV} {w : zW} {Q : Option zV → zW → Prop} (hk : zk w h = 6) : zR 94 69 [l0, l1, l2] (.inr (some h) :: st) w Q = zR 94 72 [l0, l1, l2] (.inl (zf w 52 h) :: st) w Q := zR_go (zst zT_94_69 (zget_i hk (Or.inl rfl)))
theorem zT_94_72 : zT 94 72 = some (.iconst 2, 1, 0, []) := by decide +kernel
theorem zr_94_72 {l0 l1 l2 : Option zV} {st : List zV} {w : zW} {Q : Option zV → zW → Prop}  : zR 94 72 [l0, l1, l2] st w Q = zR 94 73 [l0, l1, l2] (.inl 2 :: st) w Q := zR_go (zst zT_94_72 rfl)
theorem zT_94_73 : zT 94 73 = some (.if_icmp .ne 14, 3, 0, []) := by decide +kernel
theorem zr_94_73 {l0 l1 l2 : Option zV} {x y : Int} {st : List zV} {w : zW} {Q : Option zV → zW → Prop}  : zR 94 73 [l0, l1, l2] (.inl y :: .inl x :: st) w Q = (if zN x ≠ zN y then zR 94 87 [l0, l1, l2] st w Q else zR 94 76 [l0, l1, l2] st w Q) := zR_if (zstB zT_94_73 rfl) (by simp [zcmp])
theorem zT_94_76 : zT 94 76 = some (.aload_n 2, 1, 0, []) := by decide +kernel
theorem zr_94_76 {l0 l1 : Option zV} {x : Option Nat} {st : List zV} {w : zW} {Q : Option zV → zW → Prop}  : zR 94 76 [l0, l1, some (.inr x)] st w Q = zR 94 77 [l0, l1, some (.inr x)] (.inr x :: st) w Q := zR_go (zst zT_94_76 rfl)
theorem zT_94_77 : zT 94 77 = some (.bipush 16, 2, 0, []) := by decide +kernel
theorem zr_94_77 {l0 l1 l2 : Option zV} {st : List zV} {w : zW} {Q : Option zV → zW → Prop}  : zR 94 77 [l0, l1, l2] st w Q = zR 94 79 [l0, l1, l2] (.inl 16 :: st) w Q := zR_go (zst zT_94_77 rfl)
theorem zT_94_79 : zT 94 79 = some (.aload_n 0, 1, 0, []) := by decide +kernel
theorem zr_94_79 {l1 l2 : Option zV} {x : Option Nat} {st : List zV} {w : zW} {Q : Option zV → zW → Prop}  : zR 94 79 [some (.inr x), l1, l2] st w Q = zR 94 80 [some (.inr x), l1, l2] (.inr x :: st) w Q := zR_go (zst zT_94_79 rfl)
theorem zT_94_80 : zT 94 80 = some (.getfield 50, 3, 0, [(6, 1)]) := by decide +kernel
theorem zr_94_80 {l0 l1 l2 : Option zV} {h : Nat} {st : List zV} {w : zW} {Q : Option zV → zW → Prop} (hk : zk w h = 6) : zR 94 80 [l0, l1, l2] (.inr (some h) :: st) w Q = zR 94 83 [l0, l1, l2] (.inl (zf w 49 h) :: st) w Q := zR_go (zst zT_94_80 (zget_i hk (Or.inl rfl)))
theorem zT_94_83 : zT 94 83 = some (.iadd, 1, 0, []) := by decide +kernel
theorem zr_94_83 {l0 l1 l2 : Option zV} {x y : Int} {st : List zV} {w : zW} {Q : Option zV → zW → Prop}  : zR 94 83 [l0, l1, l2] (.inl y :: .inl x :: st) w Q = zR 94 84 [l0, l1, l2] (.inl (x + y) :: st) w Q := zR_go (zst zT_94_83 rfl)
theorem zT_94_84 : zT 94 84 = some (.invokevirtual 84, 3, 1, [(7, 140)]) := by decide +kernel
theorem zr_94_84 {l0 l1 l2 : Option zV} {a0 : zV} {h : Nat} {st : List zV} {w : zW} {Q : Option zV → zW → Prop} (hs : st.length ≤ 8) (hk : zk w h = 7) : zR 94 84 [l0, l1, l2] (a0 :: .inr (some h) :: st) w Q = zR 140 0 [some (.inr (some h)), some a0] [] w (fun r w2 => zR 94 87 [l0, l1, l2] (r.toList ++ st) w2 Q) := zR_call (zst zT_94_84 (zcall_v [a0] rfl hs hk rfl))
theorem zT_94_87 : zT 94 87 = some (.aload_n 2, 1, 0, []) := by decide +kernel
theorem zr_94_87 {l0 l1 : Option zV} {x : Option Nat} {st : List zV} {w : zW} {Q : Option zV → zW → Prop}  : zR 94 87 [l0, l1, some (.inr x)] st w Q = zR 94 88 [l0, l1, some (.inr x)] (.inr x :: st) w Q := zR_go (zst zT_94_87 rfl)
theorem zT_94_88 : zT 94 88 = some (.invokevirtual 90, 3, 0, [(7, 141)]) := by decide +kernel
theorem zr_94_88 {l0 l1 l2 : Option zV} {h : Nat} {st : List zV} {w : zW} {Q : Option zV → zW → Prop} (hs : st.length ≤ 8) (hk : zk w h = 7) : zR 94 88 [l0, l1, l2] (.inr (some h) :: st) w Q = zR 141 0 [some (.inr (some h))] [] w (fun r w2 => zR 94 91 [l0, l1, l2] (r.toList ++ st) w2 Q) := zR_call (zst zT_94_88 (zcall_v [] rfl hs hk rfl))
theorem zT_94_91 : zT 94 91 = some (.return_, 1, 0, []) := by decide +kernel
theorem zr_94_91 {l0 l1 l2 : Option zV} {w : zW} {Q : Option zV → zW → Prop} : zR 94 91 [l0, l1, l2] [] w Q = Q none w := zR_ret (zst zT_94_91 rfl)
theorem zT_95_0 : zT 95 0 = some (.aload_n 0, 1, 0, []) := by decide +kernel
theorem zr_95_0 {l1 : Option zV} {x : Option Nat} {st : List zV} {w : zW} {Q : Option zV → zW → Prop}  : zR 95 0 [some (.inr x), l1] st w Q = zR 95 1 [some (.inr x), l1] (.inr x :: st) w Q := zR_go (zst zT_95_0 rfl)
theorem zT_95_1 : zT 95 1 = some (.getfield 19, 3, 0, [(6, 4)]) := by decide +kernel
theorem zr_95_1 {l0 l1 : Option zV} {h : Nat} {st : List zV} {w : zW} {Q : Option zV → zW → Prop} (hk : zk w h = 6) : zR 95 1 [l0, l1] (.inr (some h) :: st) w Q = zR 95 4 [l0, l1] (.inl (zf w 52 h) :: st) w Q := zR_go (zst zT_95_1 (zget_i hk (Or.inl rfl)))
theorem zT_95_4 : zT 95 4 = some (.lookupswitch 44 #[(1, 28), (2, 36)], 28, 0, []) := by decide +kernel
theorem zr_95_4k1 {l0 l1 : Option zV} {x : Int} {st : List zV} {w : zW} {Q : Option zV → zW → Prop} (hx : zN x = 1) : zR 95 4 [l0, l1] (.inl x :: st) w Q = zR 95 32 [l0, l1] st w Q := zR_go (zst zT_95_4 (by simp [zins, zi_lookup, zgo, zto, hx, Op.lookupswitch.offset]))
theorem zr_95_4k2 {l0 l1 : Option zV} {x : Int} {st : List zV} {w : zW} {Q : Option zV → zW → Prop} (hx : zN x = 2) : zR 95 4 [l0, l1] (.inl x :: st) w Q = zR 95 40 [l0, l1] st w Q := zR_go (zst zT_95_4 (by simp [zins, zi_lookup, zgo, zto, hx, Op.lookupswitch.offset]))
theorem zr_95_4d {l0 l1 : Option zV} {x : Int} {st : List zV} {w : zW} {Q : Option zV → zW → Prop} (hx0 : ¬ zN x = 1) (hx1 : ¬ zN x = 2) : zR 95 4 [l0, l1] (.inl x :: st) w Q = zR 95 48 [l0, l1] st w Q := zR_go (zst zT_95_4 (by simp [zins, zi_lookup, zgo, zto, Op.lookupswitch.offset, show ¬ (1 : Int) = zN x from fun h => hx0 h.symm, show ¬ (2 : Int) = zN x from fun h => hx1 h.symm]))
theorem zT_95_32 : zT 95 32 = some (.aload_n 0, 1, 0, []) := by decide +kernel
theorem zr_95_32 {l1 : Option zV} {x : Option Nat} {st : List zV} {w : zW} {Q : Option zV → zW → Prop}  : zR 95 32 [some (.inr x), l1] st w Q = zR 95 33 [some (.inr x), l1] (.inr x :: st) w Q := zR_go (zst zT_95_32 rfl)
theorem zT_95_33 : zT 95 33 = some (.iconst 2, 1, 0, []) := by decide +kernel
theorem zr_95_33 {l0 l1 : Option zV} {st : List zV} {w : zW} {Q : Option zV → zW → Prop}  : zR 95 33 [l0, l1] st w Q = zR 95 34 [l0, l1] (.inl 2 :: st) w Q := zR_go (zst zT_95_33 rfl)
theorem zT_95_34 : zT 95 34 = some (.invokevirtual 15, 3, 1, [(6, 98)]) := by decide +kernel
theorem zr_95_34 {l0 l1 : Option zV} {a0 : zV} {h : Nat} {st : List zV} {w : zW} {Q : Option zV → zW → Prop} (hs : st.length ≤ 8) (hk : zk w h = 6) : zR 95 34 [l0, l1] (a0 :: .inr (some h) :: st) w Q = zR 98 0 [some (.inr (some h)), some a0] [] w (fun r w2 => zR 95 37 [l0, l1] (r.toList ++ st) w2 Q) := zR_call (zst zT_95_34 (zcall_v [a0] rfl hs hk rfl))
theorem zT_95_37 : zT 95 37 = some (.goto 16, 3, 0, []) := by decide +kernel
theorem zr_95_37 {l0 l1 : Option zV} {st : List zV} {w : zW} {Q : Option zV → zW → Prop}  : zR 95 37 [l0, l1] st w Q = zR 95 53 [l0, l1] st w Q := zR_go (zst zT_95_37 rfl)
theorem zT_95_40 : zT 95 40 = some (.aload_n 0, 1, 0, []) := by decide +kernel
theorem zr_95_40 {l1 : Option zV} {x : Option Nat} {st : List zV} {w : zW} {Q : Option zV → zW → Prop}  : zR 95 40 [some (.inr x), l1] st w Q = zR 95 41 [some (.inr x), l1] (.inr x :: st) w Q := zR_go (zst zT_95_40 rfl)
theorem zT_95_41 : zT 95 41 = some (.aload_n 1, 1, 0, []) := by decide +kernel
theorem zr_95_41 {l0 : Option zV} {x : Option Nat} {st : List zV} {w : zW} {Q : Option zV → zW → Prop}  : zR 95 41 [l0, some (.inr x)] st w Q = zR 95 42 [l0, some (.inr x)] (.inr x :: st) w Q := zR_go (zst zT_95_41 rfl)
theorem zT_95_42 : zT 95 42 = some (.invokevirtual 93, 3, 1, [(6, 96)]) := by decide +kernel
theorem zr_95_42 {l0 l1 : Option zV} {a0 : zV} {h : Nat} {st : List zV} {w : zW} {Q : Option zV → zW → Prop} (hs : st.length ≤ 8) (hk : zk w h = 6) : zR 95 42 [l0, l1] (a0 :: .inr (some h) :: st) w Q = zR 96 0 [some (.inr (some h)), some a0, none] [] w (fun r w2 => zR 95 45 [l0, l1] (r.toList ++ st) w2 Q) := zR_call (zst zT_95_42 (zcall_v [a0] rfl hs hk rfl))
theorem zT_95_45 : zT 95 45 = some (.goto 8, 3, 0, []) := by decide +kernel
theorem zr_95_45 {l0 l1 : Option zV} {st : List zV} {w : zW} {Q : Option zV → zW → Prop}  : zR 95 45 [l0, l1] st w Q = zR 95 53 [l0, l1] st w Q := zR_go (zst zT_95_45 rfl)
theorem zT_95_48 : zT 95 48 = some (.aload_n 0, 1, 0, []) := by decide +kernel
theorem zr_95_48 {l1 : Option zV} {x : Option Nat} {st : List zV} {w : zW} {Q : Option zV → zW → Prop}  : zR 95 48 [some (.inr x), l1] st w Q = zR 95 49 [some (.inr x), l1] (.inr x :: st) w Q := zR_go (zst zT_95_48 rfl)
theorem zT_95_49 : zT 95 49 = some (.aload_n 1, 1, 0, []) := by decide +kernel
theorem zr_95_49 {l0 : Option zV} {x : Option Nat} {st : List zV} {w : zW} {Q : Option zV → zW → Prop}  : zR 95 49 [l0, some (.inr x)] st w Q = zR 95 50 [l0, some (.inr x)] (.inr x :: st) w Q := zR_go (zst zT_95_49 rfl)
theorem zT_95_50 : zT 95 50 = some (.invokevirtual 96, 3, 1, [(6, 97)]) := by decide +kernel
theorem zr_95_50 {l0 l1 : Option zV} {a0 : zV} {h : Nat} {st : List zV} {w : zW} {Q : Option zV → zW → Prop} (hs : st.length ≤ 8) (hk : zk w h = 6) : zR 95 50 [l0, l1] (a0 :: .inr (some h) :: st) w Q = zR 97 0 [some (.inr (some h)), some a0] [] w (fun r w2 => zR 95 53 [l0, l1] (r.toList ++ st) w2 Q) := zR_call (zst zT_95_50 (zcall_v [a0] rfl hs hk rfl))
theorem zT_95_53 : zT 95 53 = some (.return_, 1, 0, []) := by decide +kernel
theorem zr_95_53 {l0 l1 : Option zV} {w : zW} {Q : Option zV → zW → Prop} : zR 95 53 [l0, l1] [] w Q = Q none w := zR_ret (zst zT_95_53 rfl)
theorem zT_96_0 : zT 96 0 = some (.bipush 16, 2, 0, []) := by decide +kernel
theorem zr_96_0 {l0 l1 l2 : Option zV} {st : List zV} {w : zW} {Q : Option zV → zW → Prop}  : zR 96 0 [l0, l1, l2] st w Q = zR 96 2 [l0, l1, l2] (.inl 16 :: st) w Q := zR_go (zst zT_96_0 rfl)
theorem zT_96_2 : zT 96 2 = some (.aload_n 0, 1, 0, []) := by decide +kernel
theorem zr_96_2 {l1 l2 : Option zV} {x : Option Nat} {st : List zV} {w : zW} {Q : Option zV → zW → Prop}  : zR 96 2 [some (.inr x), l1, l2] st w Q = zR 96 3 [some (.inr x), l1, l2] (.inr x :: st) w Q := zR_go (zst zT_96_2 rfl)
theorem zT_96_3 : zT 96 3 = some (.getfield 50, 3, 0, [(6, 1)]) := by decide +kernel
theorem zr_96_3 {l0 l1 l2 : Option zV} {h : Nat} {st : List zV} {w : zW} {Q : Option zV → zW → Prop} (hk : zk w h = 6) : zR 96 3 [l0, l1, l2] (.inr (some h) :: st) w Q = zR 96 6 [l0, l1, l2] (.inl (zf w 49 h) :: st) w Q := zR_go (zst zT_96_3 (zget_i hk (Or.inl rfl)))
theorem zT_96_6 : zT 96 6 = some (.iadd, 1, 0, []) := by decide +kernel
theorem zr_96_6 {l0 l1 l2 : Option zV} {x y : Int} {st : List zV} {w : zW} {Q : Option zV → zW → Prop}  : zR 96 6 [l0, l1, l2] (.inl y :: .inl x :: st) w Q = zR 96 7 [l0, l1, l2] (.inl (x + y) :: st) w Q := zR_go (zst zT_96_6 rfl)
theorem zT_96_7 : zT 96 7 = some (.istore_n 2, 1, 0, []) := by decide +kernel
theorem zr_96_7 {l0 l1 l2 : Option zV} {x : Int} {st : List zV} {w : zW} {Q : Option zV → zW → Prop}  : zR 96 7 [l0, l1, l2] (.inl x :: st) w Q = zR 96 8 [l0, l1, some (.inl x)] st w Q := zR_go (zst zT_96_7 rfl)
theorem zT_96_8 : zT 96 8 = some (.aload_n 1, 1, 0, []) := by decide +kernel
theorem zr_96_8 {l0 l2 : Option zV} {x : Option Nat} {st : List zV} {w : zW} {Q : Option zV → zW → Prop}  : zR 96 8 [l0, some (.inr x), l2] st w Q = zR 96 9 [l0, some (.inr x), l2] (.inr x :: st) w Q := zR_go (zst zT_96_8 rfl)
theorem zT_96_9 : zT 96 9 = some (.aload_n 0, 1, 0, []) := by decide +kernel
theorem zr_96_9 {l1 l2 : Option zV} {x : Option Nat} {st : List zV} {w : zW} {Q : Option zV → zW → Prop}  : zR 96 9 [some (.inr x), l1, l2] st w Q = zR 96 10 [some (.inr x), l1, l2] (.inr x :: st) w Q := zR_go (zst zT_96_9 rfl)
theorem zT_96_10 : zT 96 10 = some (.getfield 60, 3, 0, [(6, 5)]) := by decide +kernel
theorem zr_96_10 {l0 l1 l2 : Option zV} {h : Nat} {st : List zV} {w : zW} {Q : Option zV → zW → Prop} (hk : zk w h = 6) : zR 96 10 [l0, l1, l2] (.inr (some h) :: st) w Q = zR 96 13 [l0, l1, l2] (.inl (zf w 53 h) :: st) w Q := zR_go (zst zT_96_10 (zget_i hk (Or.inl rfl)))
theorem zT_96_13 : zT 96 13 = some (.iload_n 2, 1, 0, []) := by decide +kernel
theorem zr_96_13 {l0 l1 : Option zV} {x : Int} {st : List zV} {w : zW} {Q : Option zV → zW → Prop}  : zR 96 13 [l0, l1, some (.inl x)] st w Q = zR 96 14 [l0, l1, some (.inl x)] (.inl x :: st) w Q := zR_go (zst zT_96_13 rfl)
theorem zT_96_14 : zT 96 14 = some (.invokevirtual 99, 3, 2, [(5, 85)]) := by decide +kernel
theorem zr_96_14 {l0 l1 l2 : Option zV} {a0 a1 : zV} {h : Nat} {st : List zV} {w : zW} {Q : Option zV → zW → Prop} (hs : st.length ≤ 8) (hk : zk w h = 5) : zR 96 14 [l0, l1, l2] (a1 :: a0 :: .inr (some h) :: st) w Q = zR 85 0 [some (.inr (some h)), some a0, some a1, none, none] [] w (fun r w2 => zR 96 17 [l0, l1, l2] (r.toList ++ st) w2 Q) := zR_call (zst zT_96_14 (zcall_v [a1, a0] rfl hs hk rfl))
theorem zT_96_17 : zT 96 17 = some (.aload_n 0, 1, 0, []) := by decide +kernel
theorem zr_96_17 {l1 l2 : Option zV} {x : Option Nat} {st : List zV} {w : zW} {Q : Option zV → zW → Prop}  : zR 96 17 [some (.inr x), l1, l2] st w Q = zR 96 18 [some (.inr x), l1, l2] (.inr x :: st) w Q := zR_go (zst zT_96_17 rfl)
theorem zT_96_18 : zT 96 18 = some (.dup, 1, 0, []) := by decide +kernel
theorem zr_96_18 {l0 l1 l2 : Option zV} {v : zV} {st : List zV} {w : zW} {Q : Option zV → zW → Prop}  : zR 96 18 [l0, l1, l2] (v :: st) w Q = zR 96 19 [l0, l1, l2] (v :: v :: st) w Q := zR_go (zst zT_96_18 rfl)
theorem zT_96_19 : zT 96 19 = some (.getfield 50, 3, 0, [(6, 1)]) := by decide +kernel
theorem zr_96_19 {l0 l1 l2 : Option zV} {h : Nat} {st : List zV} {w : zW} {Q : Option zV → zW → Prop} (hk : zk w h = 6) : zR 96 19 [l0, l1, l2] (.inr (some h) :: st) w Q = zR 96 22 [l0, l1, l2] (.inl (zf w 49 h) :: st) w Q := zR_go (zst zT_96_19 (zget_i hk (Or.inl rfl)))
theorem zT_96_22 : zT 96 22 = some (.iconst 1, 1, 0, []) := by decide +kernel
theorem zr_96_22 {l0 l1 l2 : Option zV} {st : List zV} {w : zW} {Q : Option zV → zW → Prop}  : zR 96 22 [l0, l1, l2] st w Q = zR 96 23 [l0, l1, l2] (.inl 1 :: st) w Q := zR_go (zst zT_96_22 rfl)
theorem zT_96_23 : zT 96 23 = some (.iadd, 1, 0, []) := by decide +kernel
theorem zr_96_23 {l0 l1 l2 : Option zV} {x y : Int} {st : List zV} {w : zW} {Q : Option zV → zW → Prop}  : zR 96 23 [l0, l1, l2] (.inl y :: .inl x :: st) w Q = zR 96 24 [l0, l1, l2] (.inl (x + y) :: st) w Q := zR_go (zst zT_96_23 rfl)
theorem zT_96_24 : zT 96 24 = some (.putfield 50, 3, 0, [(6, 1)]) := by decide +kernel
theorem zr_96_24 {l0 l1 l2 : Option zV} {h : Nat} {x : Int} {st : List zV} {w : zW} {Q : Option zV → zW → Prop} (hk : zk w h = 6) : zR 96 24 [l0, l1, l2] (.inl x :: .inr (some h) :: st) w Q = zR 96 27 [l0, l1, l2] st (zsf w 49 h x) Q := zR_go (zst zT_96_24 (zput_i hk rfl))
theorem zT_96_27 : zT 96 27 = some (.aload_n 0, 1, 0, []) := by decide +kernel
theorem zr_96_27 {l1 l2 : Option zV} {x : Option Nat} {st : List zV} {w : zW} {Q : Option zV → zW → Prop}  : zR 96 27 [some (.inr x), l1, l2] st w Q = zR 96 28 [some (.inr x), l1, l2] (.inr x :: st) w Q := zR_go (zst zT_96_27 rfl)
theorem zT_96_28 : zT 96 28 = some (.getfield 60, 3, 0, [(6, 5)]) := by decide +kernel
theorem zr_96_28 {l0 l1 l2 : Option zV} {h : Nat} {st : List zV} {w : zW} {Q : Option zV → zW → Prop} (hk : zk w h = 6) : zR 96 28 [l0, l1, l2] (.inr (some h) :: st) w Q = zR 96 31 [l0, l1, l2] (.inl (zf w 53 h) :: st) w Q := zR_go (zst zT_96_28 (zget_i hk (Or.inl rfl)))
theorem zT_96_31 : zT 96 31 = some (.sipush 1000, 3, 0, []) := by decide +kernel
theorem zr_96_31 {l0 l1 l2 : Option zV} {st : List zV} {w : zW} {Q : Option zV → zW → Prop}  : zR 96 31 [l0, l1, l2] st w Q = zR 96 34 [l0, l1, l2] (.inl 1000 :: st) w Q := zR_go (zst zT_96_31 rfl)
theorem zT_96_34 : zT 96 34 = some (.if_icmp .ne 8, 3, 0, []) := by decide +kernel
theorem zr_96_34 {l0 l1 l2 : Option zV} {x y : Int} {st : List zV} {w : zW} {Q : Option zV → zW → Prop}  : zR 96 34 [l0, l1, l2] (.inl y :: .inl x :: st) w Q = (if zN x ≠ zN y then zR 96 42 [l0, l1, l2] st w Q else zR 96 37 [l0, l1, l2] st w Q) := zR_if (zstB zT_96_34 rfl) (by simp [zcmp])
theorem zT_96_37 : zT 96 37 = some (.aload_n 0, 1, 0, []) := by decide +kernel
theorem zr_96_37 {l1 l2 : Option zV} {x : Option Nat} {st : List zV} {w : zW} {Q : Option zV → zW → Prop}  : zR 96 37 [some (.inr x), l1, l2] st w Q = zR 96 38 [some (.inr x), l1, l2] (.inr x :: st) w Q := zR_go (zst zT_96_37 rfl)
theorem zT_96_38 : zT 96 38 = some (.iload_n 2, 1, 0, []) := by decide +kernel
theorem zr_96_38 {l0 l1 : Option zV} {x : Int} {st : List zV} {w : zW} {Q : Option zV → zW → Prop}  : zR 96 38 [l0, l1, some (.inl x)] st w Q = zR 96 39 [l0, l1, some (.inl x)] (.inl x :: st) w Q := zR_go (zst zT_96_38 rfl)
theorem zT_96_39 : zT 96 39 = some (.putfield 53, 3, 0, [(6, 7)]) := by decide +kernel
theorem zr_96_39 {l0 l1 l2 : Option zV} {h : Nat} {x : Int} {st : List zV} {w : zW} {Q : Option zV → zW → Prop} (hk : zk w h = 6) : zR 96 39 [l0, l1, l2] (.inl x :: .inr (some h) :: st) w Q = zR 96 42 [l0, l1, l2] st (zsf w 55 h x) Q := zR_go (zst zT_96_39 (zput_i hk rfl))
theorem zT_96_42 : zT 96 42 = some (.aload_n 0, 1, 0, []) := by decide +kernel
theorem zr_96_42 {l1 l2 : Option zV} {x : Option Nat} {st : List zV} {w : zW} {Q : Option zV → zW → Prop}  : zR 96 42 [some (.inr x), l1, l2] st w Q = zR 96 43 [some (.inr x), l1, l2] (.inr x :: st) w Q := zR_go (zst zT_96_42 rfl)
theorem zT_96_43 : zT 96 43 = some (.iconst 1, 1, 0, []) := by decide +kernel
theorem zr_96_43 {l0 l1 l2 : Option zV} {st : List zV} {w : zW} {Q : Option zV → zW → Prop}  : zR 96 43 [l0, l1, l2] st w Q = zR 96 44 [l0, l1, l2] (.inl 1 :: st) w Q := zR_go (zst zT_96_43 rfl)
theorem zT_96_44 : zT 96 44 = some (.invokevirtual 15, 3, 1, [(6, 98)]) := by decide +kernel
theorem zr_96_44 {l0 l1 l2 : Option zV} {a0 : zV} {h : Nat} {st : List zV} {w : zW} {Q : Option zV → zW → Prop} (hs : st.length ≤ 8) (hk : zk w h = 6) : zR 96 44 [l0, l1, l2] (a0 :: .inr (some h) :: st) w Q = zR 98 0 [some (.inr (some h)), some a0] [] w (fun r w2 => zR 96 47 [l0, l1, l2] (r.toList ++ st) w2 Q) := zR_call (zst zT_96_44 (zcall_v [a0] rfl hs hk rfl))
theorem zT_96_47 : zT 96 47 = some (.return_, 1, 0, []) := by decide +kernel
theorem zr_96_47 {l0 l1 l2 : Option zV} {w : zW} {Q : Option zV → zW → Prop} : zR 96 47 [l0, l1, l2] [] w Q = Q none w := zR_ret (zst zT_96_47 rfl)
theorem zT_97_0 : zT 97 0 = some (.aload_n 1, 1, 0, []) := by decide +kernel
theorem zr_97_0 {l0 : Option zV} {x : Option Nat} {st : List zV} {w : zW} {Q : Option zV → zW → Prop}  : zR 97 0 [l0, some (.inr x)] st w Q = zR 97 1 [l0, some (.inr x)] (.inr x :: st) w Q := zR_go (zst zT_97_0 rfl)
theorem zT_97_1 : zT 97 1 = some (.bipush 16, 2, 0, []) := by decide +kernel
theorem zr_97_1 {l0 l1 : Option zV} {st : List zV} {w : zW} {Q : Option zV → zW → Prop}  : zR 97 1 [l0, l1] st w Q = zR 97 3 [l0, l1] (.inl 16 :: st) w Q := zR_go (zst zT_97_1 rfl)
theorem zT_97_3 : zT 97 3 = some (.aload_n 0, 1, 0, []) := by decide +kernel
theorem zr_97_3 {l1 : Option zV} {x : Option Nat} {st : List zV} {w : zW} {Q : Option zV → zW → Prop}  : zR 97 3 [some (.inr x), l1] st w Q = zR 97 4 [some (.inr x), l1] (.inr x :: st) w Q := zR_go (zst zT_97_3 rfl)
theorem zT_97_4 : zT 97 4 = some (.getfield 72, 3, 0, [(6, 6)]) := by decide +kernel
theorem zr_97_4 {l0 l1 : Option zV} {h : Nat} {st : List zV} {w : zW} {Q : Option zV → zW → Prop} (hk : zk w h = 6) : zR 97 4 [l0, l1] (.inr (some h) :: st) w Q = zR 97 7 [l0, l1] (.inl (zf w 54 h) :: st) w Q := zR_go (zst zT_97_4 (zget_i hk (Or.inl rfl)))
theorem zT_97_7 : zT 97 7 = some (.iadd, 1, 0, []) := by decide +kernel
theorem zr_97_7 {l0 l1 : Option zV} {x y : Int} {st : List zV} {w : zW} {Q : Option zV → zW → Prop}  : zR 97 7 [l0, l1] (.inl y :: .inl x :: st) w Q = zR 97 8 [l0, l1] (.inl (x + y) :: st) w Q := zR_go (zst zT_97_7 rfl)
theorem zT_97_8 : zT 97 8 = some (.aload_n 1, 1, 0, []) := by decide +kernel
theorem zr_97_8 {l0 : Option zV} {x : Option Nat} {st : List zV} {w : zW} {Q : Option zV → zW → Prop}  : zR 97 8 [l0, some (.inr x)] st w Q = zR 97 9 [l0, some (.inr x)] (.inr x :: st) w Q := zR_go (zst zT_97_8 rfl)
theorem zT_97_9 : zT 97 9 = some (.invokevirtual 87, 3, 0, [(5, 82)]) := by decide +kernel
theorem zr_97_9 {l0 l1 : Option zV} {h : Nat} {st : List zV} {w : zW} {Q : Option zV → zW → Prop} (hs : st.length ≤ 8) (hk : zk w h = 5) : zR 97 9 [l0, l1] (.inr (some h) :: st) w Q = zR 82 0 [some (.inr (some h))] [] w (fun r w2 => zR 97 12 [l0, l1] (r.toList ++ st) w2 Q) := zR_call (zst zT_97_9 (zcall_v [] rfl hs hk rfl))
theorem zT_97_12 : zT 97 12 = some (.aload_n 0, 1, 0, []) := by decide +kernel
theorem zr_97_12 {l1 : Option zV} {x : Option Nat} {st : List zV} {w : zW} {Q : Option zV → zW → Prop}  : zR 97 12 [some (.inr x), l1] st w Q = zR 97 13 [some (.inr x), l1] (.inr x :: st) w Q := zR_go (zst zT_97_12 rfl)
theorem zT_97_13 : zT 97 13 = some (.getfield 72, 3, 0, [(6, 6)]) := by decide +kernel
theorem zr_97_13 {l0 l1 : Option zV} {h : Nat} {st : List zV} {w : zW} {Q : Option zV → zW → Prop} (hk : zk w h = 6) : zR 97 13 [l0, l1] (.inr (some h) :: st) w Q = zR 97 16 [l0, l1] (.inl (zf w 54 h) :: st) w Q := zR_go (zst zT_97_13 (zget_i hk (Or.inl rfl)))
theorem zT_97_16 : zT 97 16 = some (.iadd, 1, 0, []) := by decide +kernel
theorem zr_97_16 {l0 l1 : Option zV} {x y : Int} {st : List zV} {w : zW} {Q : Option zV → zW → Prop}  : zR 97 16 [l0, l1] (.inl y :: .inl x :: st) w Q = zR 97 17 [l0, l1] (.inl (x + y) :: st) w Q := zR_go (zst zT_97_16 rfl)
theorem zT_97_17 : zT 97 17 = some (.invokevirtual 103, 3, 2, [(5, 86)]) := by decide +kernel
theorem zr_97_17 {l0 l1 : Option zV} {a0 a1 : zV} {h : Nat} {st : List zV} {w : zW} {Q : Option zV → zW → Prop} (hs : st.length ≤ 8) (hk : zk w h = 5) : zR 97 17 [l0, l1] (a1 :: a0 :: .inr (some h) :: st) w Q = zR 86 0 [some (.inr (some h)), some a0, some a1, none, none] [] w (fun r w2 => zR 97 20 [l0, l1] (r.toList ++ st) w2 Q) := zR_call (zst zT_97_17 (zcall_v [a1, a0] rfl hs hk rfl))
theorem zT_97_20 : zT 97 20 = some (.aload_n 0, 1, 0, []) := by decide +kernel
theorem zr_97_20 {l1 : Option zV} {x : Option Nat} {st : List zV} {w : zW} {Q : Option zV → zW → Prop}  : zR 97 20 [some (.inr x), l1] st w Q = zR 97 21 [some (.inr x), l1] (.inr x :: st) w Q := zR_go (zst zT_97_20 rfl)
theorem zT_97_21 : zT 97 21 = some (.dup, 1, 0, []) := by decide +kernel
theorem zr_97_21 {l0 l1 : Option zV} {v : zV} {st : List zV} {w : zW} {Q : Option zV → zW → Prop}  : zR 97 21 [l0, l1] (v :: st) w Q = zR 97 22 [l0, l1] (v :: v :: st) w Q := zR_go (zst zT_97_21 rfl)
theorem zT_97_22 : zT 97 22 = some (.getfield 72, 3, 0, [(6, 6)]) := by decide +kernel
theorem zr_97_22 {l0 l1 : Option zV} {h : Nat} {st : List zV} {w : zW} {Q : Option zV → zW → Prop} (hk : zk w h = 6) : zR 97 22 [l0, l1] (.inr (some h) :: st) w Q = zR 97 25 [l0, l1] (.inl (zf w 54 h) :: st) w Q := zR_go (zst zT_97_22 (zget_i hk (Or.inl rfl)))
theorem zT_97_25 : zT 97 25 = some (.iconst 1, 1, 0, []) := by decide +kernel
theorem zr_97_25 {l0 l1 : Option zV} {st : List zV} {w : zW} {Q : Option zV → zW → Prop}  : zR 97 25 [l0, l1] st w Q = zR 97 26 [l0, l1] (.inl 1 :: st) w Q := zR_go (zst zT_97_25 rfl)
theorem zT_97_26 : zT 97 26 = some (.iadd, 1, 0, []) := by decide +kernel
theorem zr_97_26 {l0 l1 : Option zV} {x y : Int} {st : List zV} {w : zW} {Q : Option zV → zW → Prop}  : zR 97 26 [l0, l1] (.inl y :: .inl x :: st) w Q = zR 97 27 [l0, l1] (.inl (x + y) :: st) w Q := zR_go (zst zT_97_26 rfl)
theorem zT_97_27 : zT 97 27 = some (.putfield 72, 3, 0, [(6, 6)]) := by decide +kernel
theorem zr_97_27 {l0 l1 : Option zV} {h : Nat} {x : Int} {st : List zV} {w : zW} {Q : Option zV → zW → Prop} (hk : zk w h = 6) : zR 97 27 [l0, l1] (.inl x :: .inr (some h) :: st) w Q = zR 97 30 [l0, l1] st (zsf w 54 h x) Q := zR_go (zst zT_97_27 (zput_i hk rfl))
theorem zT_97_30 : zT 97 30 = some (.aload_n 0, 1, 0, []) := by decide +kernel
theorem zr_97_30 {l1 : Option zV} {x : Option Nat} {st : List zV} {w : zW} {Q : Option zV → zW → Prop}  : zR 97 30 [some (.inr x), l1] st w Q = zR 97 31 [some (.inr x), l1] (.inr x :: st) w Q := zR_go (zst zT_97_30 rfl)
theorem zT_97_31 : zT 97 31 = some (.getfield 72, 3, 0, [(6, 6)]) := by decide +kernel
theorem zr_97_31 {l0 l1 : Option zV} {h : Nat} {st : List zV} {w : zW} {Q : Option zV → zW → Prop} (hk : zk w h = 6) : zR 97 31 [l0, l1] (.inr (some h) :: st) w Q = zR 97 34 [l0, l1] (.inl (zf w 54 h) :: st) w Q := zR_go (zst zT_97_31 (zget_i hk (Or.inl rfl)))
theorem zT_97_34 : zT 97 34 = some (.aload_n 0, 1, 0, []) := by decide +kernel
theorem zr_97_34 {l1 : Option zV} {x : Option Nat} {st : List zV} {w : zW} {Q : Option zV → zW → Prop}  : zR 97 34 [some (.inr x), l1] st w Q = zR 97 35 [some (.inr x), l1] (.inr x :: st) w Q := zR_go (zst zT_97_34 rfl)
theorem zT_97_35 : zT 97 35 = some (.getfield 50, 3, 0, [(6, 1)]) := by decide +kernel
theorem zr_97_35 {l0 l1 : Option zV} {h : Nat} {st : List zV} {w : zW} {Q : Option zV → zW → Prop} (hk : zk w h = 6) : zR 97 35 [l0, l1] (.inr (some h) :: st) w Q = zR 97 38 [l0, l1] (.inl (zf w 49 h) :: st) w Q := zR_go (zst zT_97_35 (zget_i hk (Or.inl rfl)))
theorem zT_97_38 : zT 97 38 = some (.if_icmp .ne 10, 3, 0, []) := by decide +kernel
theorem zr_97_38 {l0 l1 : Option zV} {x y : Int} {st : List zV} {w : zW} {Q : Option zV → zW → Prop}  : zR 97 38 [l0, l1] (.inl y :: .inl x :: st) w Q = (if zN x ≠ zN y then zR 97 48 [l0, l1] st w Q else zR 97 41 [l0, l1] st w Q) := zR_if (zstB zT_97_38 rfl) (by simp [zcmp])
theorem zT_97_41 : zT 97 41 = some (.aload_n 0, 1, 0, []) := by decide +kernel
theorem zr_97_41 {l1 : Option zV} {x : Option Nat} {st : List zV} {w : zW} {Q : Option zV → zW → Prop}  : zR 97 41 [some (.inr x), l1] st w Q = zR 97 42 [some (.inr x), l1] (.inr x :: st) w Q := zR_go (zst zT_97_41 rfl)
theorem zT_97_42 : zT 97 42 = some (.invokevirtual 69, 3, 0, [(6, 100)]) := by decide +kernel
theorem zr_97_42 {l0 l1 : Option zV} {h : Nat} {st : List zV} {w : zW} {Q : Option zV → zW → Prop} (hs : st.length ≤ 8) (hk : zk w h = 6) : zR 97 42 [l0, l1] (.inr (some h) :: st) w Q = zR 100 0 [some (.inr (some h))] [] w (fun r w2 => zR 97 45 [l0, l1] (r.toList ++ st) w2 Q) := zR_call (zst zT_97_42 (zcall_v [] rfl hs hk rfl))
theorem zT_97_45 : zT 97 45 = some (.goto 8, 3, 0, []) := by decide +kernel
theorem zr_97_45 {l0 l1 : Option zV} {st : List zV} {w : zW} {Q : Option zV → zW → Prop}  : zR 97 45 [l0, l1] st w Q = zR 97 53 [l0, l1] st w Q := zR_go (zst zT_97_45 rfl)
theorem zT_97_48 : zT 97 48 = some (.aload_n 0, 1, 0, []) := by decide +kernel
theorem zr_97_48 {l1 : Option zV} {x : Option Nat} {st : List zV} {w : zW} {Q : Option zV → zW → Prop}  : zR 97 48 [some (.inr x), l1] st w Q = zR 97 49 [some (.inr x), l1] (.inr x :: st) w Q := zR_go (zst zT_97_48 rfl)
theorem zT_97_49 : zT 97 49 = some (.iconst 3, 1, 0, []) := by decide +kernel
theorem zr_97_49 {l0 l1 : Option zV} {st : List zV} {w : zW} {Q : Option zV → zW → Prop}  : zR 97 49 [l0, l1] st w Q = zR 97 50 [l0, l1] (.inl 3 :: st) w Q := zR_go (zst zT_97_49 rfl)
theorem zT_97_50 : zT 97 50 = some (.invokevirtual 15, 3, 1, [(6, 98)]) := by decide +kernel
theorem zr_97_50 {l0 l1 : Option zV} {a0 : zV} {h : Nat} {st : List zV} {w : zW} {Q : Option zV → zW → Prop} (hs : st.length ≤ 8) (hk : zk w h = 6) : zR 97 50 [l0, l1] (a0 :: .inr (some h) :: st) w Q = zR 98 0 [some (.inr (some h)), some a0] [] w (fun r w2 => zR 97 53 [l0, l1] (r.toList ++ st) w2 Q) := zR_call (zst zT_97_50 (zcall_v [a0] rfl hs hk rfl))
theorem zT_97_53 : zT 97 53 = some (.return_, 1, 0, []) := by decide +kernel
theorem zr_97_53 {l0 l1 : Option zV} {w : zW} {Q : Option zV → zW → Prop} : zR 97 53 [l0, l1] [] w Q = Q none w := zR_ret (zst zT_97_53 rfl)
theorem zT_98_0 : zT 98 0 = some (.aload_n 0, 1, 0, []) := by decide +kernel
theorem zr_98_0 {l1 : Option zV} {x : Option Nat} {st : List zV} {w : zW} {Q : Option zV → zW → Prop}  : zR 98 0 [some (.inr x), l1] st w Q = zR 98 1 [some (.inr x), l1] (.inr x :: st) w Q := zR_go (zst zT_98_0 rfl)
theorem zT_98_1 : zT 98 1 = some (.iload_n 1, 1, 0, []) := by decide +kernel
theorem zr_98_1 {l0 : Option zV} {x : Int} {st : List zV} {w : zW} {Q : Option zV → zW → Prop}  : zR 98 1 [l0, some (.inl x)] st w Q = zR 98 2 [l0, some (.inl x)] (.inl x :: st) w Q := zR_go (zst zT_98_1 rfl)
theorem zT_98_2 : zT 98 2 = some (.putfield 19, 3, 0, [(6, 4)]) := by decide +kernel
theorem zr_98_2 {l0 l1 : Option zV} {h : Nat} {x : Int} {st : List zV} {w : zW} {Q : Option zV → zW → Prop} (hk : zk w h = 6) : zR 98 2 [l0, l1] (.inl x :: .inr (some h) :: st) w Q = zR 98 5 [l0, l1] st (zsf w 52 h x) Q := zR_go (zst zT_98_2 (zput_i hk rfl))
theorem zT_98_5 : zT 98 5 = some (.aload_n 0, 1, 0, []) := by decide +kernel
theorem zr_98_5 {l1 : Option zV} {x : Option Nat} {st : List zV} {w : zW} {Q : Option zV → zW → Prop}  : zR 98 5 [some (.inr x), l1] st w Q = zR 98 6 [some (.inr x), l1] (.inr x :: st) w Q := zR_go (zst zT_98_5 rfl)
theorem zT_98_6 : zT 98 6 = some (.iconst 0, 1, 0, []) := by decide +kernel
theorem zr_98_6 {l0 l1 : Option zV} {st : List zV} {w : zW} {Q : Option zV → zW → Prop}  : zR 98 6 [l0, l1] st w Q = zR 98 7 [l0, l1] (.inl 0 :: st) w Q := zR_go (zst zT_98_6 rfl)
theorem zT_98_7 : zT 98 7 = some (.putfield 106, 3, 0, [(6, 2)]) := by decide +kernel
theorem zr_98_7 {l0 l1 : Option zV} {h : Nat} {x : Int} {st : List zV} {w : zW} {Q : Option zV → zW → Prop} (hk : zk w h = 6) : zR 98 7 [l0, l1] (.inl x :: .inr (some h) :: st) w Q = zR 98 10 [l0, l1] st (zsf w 50 h x) Q := zR_go (zst zT_98_7 (zput_i hk rfl))
theorem zT_98_10 : zT 98 10 = some (.return_, 1, 0, []) := by decide +kernel
theorem zr_98_10 {l0 l1 : Option zV} {w : zW} {Q : Option zV → zW → Prop} : zR 98 10 [l0, l1] [] w Q = Q none w := zR_ret (zst zT_98_10 rfl)
theorem zT_99_0 : zT 99 0 = some (.aload_n 0, 1, 0, []) := by decide +kernel
theorem zr_99_0 {x : Option Nat} {st : List zV} {w : zW} {Q : Option zV → zW → Prop}  : zR 99 0 [some (.inr x)] st w Q = zR 99 1 [some (.inr x)] (.inr x :: st) w Q := zR_go (zst zT_99_0 rfl)
theorem zT_99_1 : zT 99 1 = some (.dup, 1, 0, []) := by decide +kernel
theorem zr_99_1 {l0 : Option zV} {v : zV} {st : List zV} {w : zW} {Q : Option zV → zW → Prop}  : zR 99 1 [l0] (v :: st) w Q = zR 99 2 [l0] (v :: v :: st) w Q := zR_go (zst zT_99_1 rfl)
theorem zT_99_2 : zT 99 2 = some (.getfield 106, 3, 0, [(6, 2)]) := by decide +kernel
theorem zr_99_2 {l0 : Option zV} {h : Nat} {st : List zV} {w : zW} {Q : Option zV → zW → Prop} (hk : zk w h = 6) : zR 99 2 [l0] (.inr (some h) :: st) w Q = zR 99 5 [l0] (.inl (zf w 50 h) :: st) w Q := zR_go (zst zT_99_2 (zget_i hk (Or.inl rfl)))
theorem zT_99_5 : zT 99 5 = some (.iconst 1, 1, 0, []) := by decide +kernel
theorem zr_99_5 {l0 : Option zV} {st : List zV} {w : zW} {Q : Option zV → zW → Prop}  : zR 99 5 [l0] st w Q = zR 99 6 [l0] (.inl 1 :: st) w Q := zR_go (zst zT_99_5 rfl)
theorem zT_99_6 : zT 99 6 = some (.iadd, 1, 0, []) := by decide +kernel
theorem zr_99_6 {l0 : Option zV} {x y : Int} {st : List zV} {w : zW} {Q : Option zV → zW → Prop}  : zR 99 6 [l0] (.inl y :: .inl x :: st) w Q = zR 99 7 [l0] (.inl (x + y) :: st) w Q := zR_go (zst zT_99_6 rfl)
theorem zT_99_7 : zT 99 7 = some (.putfield 106, 3, 0, [(6, 2)]) := by decide +kernel
theorem zr_99_7 {l0 : Option zV} {h : Nat} {x : Int} {st : List zV} {w : zW} {Q : Option zV → zW → Prop} (hk : zk w h = 6) : zR 99 7 [l0] (.inl x :: .inr (some h) :: st) w Q = zR 99 10 [l0] st (zsf w 50 h x) Q := zR_go (zst zT_99_7 (zput_i hk rfl))
theorem zT_99_10 : zT 99 10 = some (.aload_n 0, 1, 0, []) := by decide +kernel
theorem zr_99_10 {x : Option Nat} {st : List zV} {w : zW} {Q : Option zV → zW → Prop}  : zR 99 10 [some (.inr x)] st w Q = zR 99 11 [some (.inr x)] (.inr x :: st) w Q := zR_go (zst zT_99_10 rfl)
theorem zT_99_11 : zT 99 11 = some (.getfield 106, 3, 0, [(6, 2)]) := by decide +kernel
theorem zr_99_11 {l0 : Option zV} {h : Nat} {st : List zV} {w : zW} {Q : Option zV → zW → Prop} (hk : zk w h = 6) : zR 99 11 [l0] (.inr (some h) :: st) w Q = zR 99 14 [l0] (.inl (zf w 50 h) :: st) w Q := zR_go (zst zT_99_11 (zget_i hk (Or.inl rfl)))
theorem zT_99_14 : zT 99 14 = some (.iconst 3, 1, 0, []) := by decide +kernel
theorem zr_99_14 {l0 : Option zV} {st : List zV} {w : zW} {Q : Option zV → zW → Prop}  : zR 99 14 [l0] st w Q = zR 99 15 [l0] (.inl 3 :: st) w Q := zR_go (zst zT_99_14 rfl)
theorem zT_99_15 : zT 99 15 = some (.if_icmp .ne 8, 3, 0, []) := by decide +kernel
theorem zr_99_15 {l0 : Option zV} {x y : Int} {st : List zV} {w : zW} {Q : Option zV → zW → Prop}  : zR 99 15 [l0] (.inl y :: .inl x :: st) w Q = (if zN x ≠ zN y then zR 99 23 [l0] st w Q else zR 99 18 [l0] st w Q) := zR_if (zstB zT_99_15 rfl) (by simp [zcmp])
theorem zT_99_18 : zT 99 18 = some (.aload_n 0, 1, 0, []) := by decide +kernel
theorem zr_99_18 {x : Option Nat} {st : List zV} {w : zW} {Q : Option zV → zW → Prop}  : zR 99 18 [some (.inr x)] st w Q = zR 99 19 [some (.inr x)] (.inr x :: st) w Q := zR_go (zst zT_99_18 rfl)
theorem zT_99_19 : zT 99 19 = some (.iconst 3, 1, 0, []) := by decide +kernel
theorem zr_99_19 {l0 : Option zV} {st : List zV} {w : zW} {Q : Option zV → zW → Prop}  : zR 99 19 [l0] st w Q = zR 99 20 [l0] (.inl 3 :: st) w Q := zR_go (zst zT_99_19 rfl)
theorem zT_99_20 : zT 99 20 = some (.invokevirtual 66, 3, 1, [(6, 101)]) := by decide +kernel
theorem zr_99_20 {l0 : Option zV} {a0 : zV} {h : Nat} {st : List zV} {w : zW} {Q : Option zV → zW → Prop} (hs : st.length ≤ 8) (hk : zk w h = 6) : zR 99 20 [l0] (a0 :: .inr (some h) :: st) w Q = zR 101 0 [some (.inr (some h)), some a0] [] w (fun r w2 => zR 99 23 [l0] (r.toList ++ st) w2 Q) := zR_call (zst zT_99_20 (zcall_v [a0] rfl hs hk rfl))
theorem zT_99_23 : zT 99 23 = some (.return_, 1, 0, []) := by decide +kernel
theorem zr_99_23 {l0 : Option zV} {w : zW} {Q : Option zV → zW → Prop} : zR 99 23 [l0] [] w Q = Q none w := zR_ret (zst zT_99_23 rfl)
theorem zT_100_0 : zT 100 0 = some (.aload_n 0, 1, 0, []) := by decide +kernel
theorem zr_100_0 {x : Option Nat} {st : List zV} {w : zW} {Q : Option zV → zW → Prop}  : zR 100 0 [some (.inr x)] st w Q = zR 100 1 [some (.inr x)] (.inr x :: st) w Q := zR_go (zst zT_100_0 rfl)
theorem zT_100_1 : zT 100 1 = some (.aload_n 0, 1, 0, []) := by decide +kernel
theorem zr_100_1 {x : Option Nat} {st : List zV} {w : zW} {Q : Option zV → zW → Prop}  : zR 100 1 [some (.inr x)] st w Q = zR 100 2 [some (.inr x)] (.inr x :: st) w Q := zR_go (zst zT_100_1 rfl)
theorem zT_100_2 : zT 100 2 = some (.getfield 53, 3, 0, [(6, 7)]) := by decide +kernel
theorem zr_100_2 {l0 : Option zV} {h : Nat} {st : List zV} {w : zW} {Q : Option zV → zW → Prop} (hk : zk w h = 6) : zR 100 2 [l0] (.inr (some h) :: st) w Q = zR 100 5 [l0] (.inl (zf w 55 h) :: st) w Q := zR_go (zst zT_100_2 (zget_i hk (Or.inl rfl)))
theorem zT_100_5 : zT 100 5 = some (.putfield 109, 3, 0, [(6, 3)]) := by decide +kernel
theorem zr_100_5 {l0 : Option zV} {h : Nat} {x : Int} {st : List zV} {w : zW} {Q : Option zV → zW → Prop} (hk : zk w h = 6) : zR 100 5 [l0] (.inl x :: .inr (some h) :: st) w Q = zR 100 8 [l0] st (zsf w 51 h x) Q := zR_go (zst zT_100_5 (zput_i hk rfl))
theorem zT_100_8 : zT 100 8 = some (.aload_n 0, 1, 0, []) := by decide +kernel
theorem zr_100_8 {x : Option Nat} {st : List zV} {w : zW} {Q : Option zV → zW → Prop}  : zR 100 8 [some (.inr x)] st w Q = zR 100 9 [some (.inr x)] (.inr x :: st) w Q := zR_go (zst zT_100_8 rfl)
theorem zT_100_9 : zT 100 9 = some (.iconst 2, 1, 0, []) := by decide +kernel
theorem zr_100_9 {l0 : Option zV} {st : List zV} {w : zW} {Q : Option zV → zW → Prop}  : zR 100 9 [l0] st w Q = zR 100 10 [l0] (.inl 2 :: st) w Q := zR_go (zst zT_100_9 rfl)
theorem zT_100_10 : zT 100 10 = some (.invokevirtual 66, 3, 1, [(6, 101)]) := by decide +kernel
theorem zr_100_10 {l0 : Option zV} {a0 : zV} {h : Nat} {st : List zV} {w : zW} {Q : Option zV → zW → Prop} (hs : st.length ≤ 8) (hk : zk w h = 6) : zR 100 10 [l0] (a0 :: .inr (some h) :: st) w Q = zR 101 0 [some (.inr (some h)), some a0] [] w (fun r w2 => zR 100 13 [l0] (r.toList ++ st) w2 Q) := zR_call (zst zT_100_10 (zcall_v [a0] rfl hs hk rfl))
theorem zT_100_13 : zT 100 13 = some (.return_, 1, 0, []) := by decide +kernel
theorem zr_100_13 {l0 : Option zV} {w : zW} {Q : Option zV → zW → Prop} : zR 100 13 [l0] [] w Q = Q none w := zR_ret (zst zT_100_13 rfl)
theorem zT_101_0 : zT 101 0 = some (.aload_n 0, 1, 0, []) := by decide +kernel
theorem zr_101_0 {l1 : Option zV} {x : Option Nat} {st : List zV} {w : zW} {Q : Option zV → zW → Prop}  : zR 101 0 [some (.inr x), l1] st w Q = zR 101 1 [some (.inr x), l1] (.inr x :: st) w Q := zR_go (zst zT_101_0 rfl)
theorem zT_101_1 : zT 101 1 = some (.iload_n 1, 1, 0, []) := by decide +kernel
theorem zr_101_1 {l0 : Option zV} {x : Int} {st : List zV} {w : zW} {Q : Option zV → zW → Prop}  : zR 101 1 [l0, some (.inl x)] st w Q = zR 101 2 [l0, some (.inl x)] (.inl x :: st) w Q := zR_go (zst zT_101_1 rfl)
theorem zT_101_2 : zT 101 2 = some (.putfield 9, 3, 0, [(6, 0)]) := by decide +kernel
theorem zr_101_2 {l0 l1 : Option zV} {h : Nat} {x : Int} {st : List zV} {w : zW} {Q : Option zV → zW → Prop} (hk : zk w h = 6) : zR 101 2 [l0, l1] (.inl x :: .inr (some h) :: st) w Q = zR 101 5 [l0, l1] st (zsf w 48 h x) Q := zR_go (zst zT_101_2 (zput_i hk rfl))
theorem zT_101_5 : zT 101 5 = some (.aload_n 0, 1, 0, []) := by decide +kernel
theorem zr_101_5 {l1 : Option zV} {x : Option Nat} {st : List zV} {w : zW} {Q : Option zV → zW → Prop}  : zR 101 5 [some (.inr x), l1] st w Q = zR 101 6 [some (.inr x), l1] (.inr x :: st) w Q := zR_go (zst zT_101_5 rfl)
theorem zT_101_6 : zT 101 6 = some (.iconst 0, 1, 0, []) := by decide +kernel
theorem zr_101_6 {l0 l1 : Option zV} {st : List zV} {w : zW} {Q : Option zV → zW → Prop}  : zR 101 6 [l0, l1] st w Q = zR 101 7 [l0, l1] (.inl 0 :: st) w Q := zR_go (zst zT_101_6 rfl)
theorem zT_101_7 : zT 101 7 = some (.putfield 106, 3, 0, [(6, 2)]) := by decide +kernel
theorem zr_101_7 {l0 l1 : Option zV} {h : Nat} {x : Int} {st : List zV} {w : zW} {Q : Option zV → zW → Prop} (hk : zk w h = 6) : zR 101 7 [l0, l1] (.inl x :: .inr (some h) :: st) w Q = zR 101 10 [l0, l1] st (zsf w 50 h x) Q := zR_go (zst zT_101_7 (zput_i hk rfl))
theorem zT_101_10 : zT 101 10 = some (.return_, 1, 0, []) := by decide +kernel
theorem zr_101_10 {l0 l1 : Option zV} {w : zW} {Q : Option zV → zW → Prop} : zR 101 10 [l0, l1] [] w Q = Q none w := zR_ret (zst zT_101_10 rfl)
theorem zT_103_0 : zT 103 0 = some (.iload_n 1, 1, 0, []) := by decide +kernel
theorem zr_103_0 {l0 : Option zV} {x : Int} {st : List zV} {w : zW} {Q : Option zV → zW → Prop}  : zR 103 0 [l0, some (.inl x)] st w Q = zR 103 1 [l0, some (.inl x)] (.inl x :: st) w Q := zR_go (zst zT_103_0 rfl)
theorem zT_103_1 : zT 103 1 = some (.ifCond .lt 20, 3, 0, []) := by decide +kernel
theorem zr_103_1 {l0 l1 : Option zV} {x : Int} {st : List zV} {w : zW} {Q : Option zV → zW → Prop}  : zR 103 1 [l0, l1] (.inl x :: st) w Q = (if zN x < 0 then zR 103 21 [l0, l1] st w Q else zR 103 4 [l0, l1] st w Q) := zR_if (zstB zT_103_1 rfl) (by simp [zcmp])
theorem zT_103_4 : zT 103 4 = some (.iload_n 1, 1, 0, []) := by decide +kernel
theorem zr_103_4 {l0 : Option zV} {x : Int} {st : List zV} {w : zW} {Q : Option zV → zW → Prop}  : zR 103 4 [l0, some (.inl x)] st w Q = zR 103 5 [l0, some (.inl x)] (.inl x :: st) w Q := zR_go (zst zT_103_4 rfl)
theorem zT_103_5 : zT 103 5 = some (.aload_n 0, 1, 0, []) := by decide +kernel
theorem zr_103_5 {l1 : Option zV} {x : Option Nat} {st : List zV} {w : zW} {Q : Option zV → zW → Prop}  : zR 103 5 [some (.inr x), l1] st w Q = zR 103 6 [some (.inr x), l1] (.inr x :: st) w Q := zR_go (zst zT_103_5 rfl)
theorem zT_103_6 : zT 103 6 = some (.getfield 40, 3, 0, [(1, 7)]) := by decide +kernel
theorem zr_103_6 {l0 l1 : Option zV} {h : Nat} {st : List zV} {w : zW} {Q : Option zV → zW → Prop} (hk : zk w h = 1) : zR 103 6 [l0, l1] (.inr (some h) :: st) w Q = zR 103 9 [l0, l1] (.inl (zf w 13 h) :: st) w Q := zR_go (zst zT_103_6 (zget_i hk (Or.inl rfl)))
theorem zT_103_9 : zT 103 9 = some (.if_icmp .ge 12, 3, 0, []) := by decide +kernel
theorem zr_103_9 {l0 l1 : Option zV} {x y : Int} {st : List zV} {w : zW} {Q : Option zV → zW → Prop}  : zR 103 9 [l0, l1] (.inl y :: .inl x :: st) w Q = (if zN y ≤ zN x then zR 103 21 [l0, l1] st w Q else zR 103 12 [l0, l1] st w Q) := zR_if (zstB zT_103_9 rfl) (by simp [zcmp])
theorem zT_103_12 : zT 103 12 = some (.aload_n 0, 1, 0, []) := by decide +kernel
theorem zr_103_12 {l1 : Option zV} {x : Option Nat} {st : List zV} {w : zW} {Q : Option zV → zW → Prop}  : zR 103 12 [some (.inr x), l1] st w Q = zR 103 13 [some (.inr x), l1] (.inr x :: st) w Q := zR_go (zst zT_103_12 rfl)
theorem zT_103_13 : zT 103 13 = some (.getfield 26, 3, 0, [(1, 6)]) := by decide +kernel
theorem zr_103_13 {l0 l1 : Option zV} {h : Nat} {st : List zV} {w : zW} {Q : Option zV → zW → Prop} (hk : zk w h = 1) : zR 103 13 [l0, l1] (.inr (some h) :: st) w Q = zR 103 16 [l0, l1] (.inr (zp w 12 h) :: st) w Q := zR_go (zst zT_103_13 (zget_r hk rfl))
theorem zT_103_16 : zT 103 16 = some (.iload_n 1, 1, 0, []) := by decide +kernel
theorem zr_103_16 {l0 : Option zV} {x : Int} {st : List zV} {w : zW} {Q : Option zV → zW → Prop}  : zR 103 16 [l0, some (.inl x)] st w Q = zR 103 17 [l0, some (.inl x)] (.inl x :: st) w Q := zR_go (zst zT_103_16 rfl)
theorem zT_103_17 : zT 103 17 = some (.aaload, 1, 0, []) := by decide +kernel
theorem zr_103_17 {l0 l1 : Option zV} {j : Int} {h : Nat} {st : List zV} {w : zW} {Q : Option zV → zW → Prop} (hk : zNC + 2 < zk w h ∧ zk w h < 1000 ∧ 0 ≤ zN j ∧ zN j < zl w h) : zR 103 17 [l0, l1] (.inl j :: .inr (some h) :: st) w Q = zR 103 18 [l0, l1] (.inr (zb w h (zN j).toNat) :: st) w Q := zR_go (zst zT_103_17 (if_pos hk))
theorem zT_103_18 : zT 103 18 = some (.goto 4, 3, 0, []) := by decide +kernel
theorem zr_103_18 {l0 l1 : Option zV} {st : List zV} {w : zW} {Q : Option zV → zW → Prop}  : zR 103 18 [l0, l1] st w Q = zR 103 22 [l0, l1] st w Q := zR_go (zst zT_103_18 rfl)
theorem zT_103_21 : zT 103 21 = some (.aconst_null, 1, 0, []) := by decide +kernel
theorem zr_103_21 {l0 l1 : Option zV} {st : List zV} {w : zW} {Q : Option zV → zW → Prop}  : zR 103 21 [l0, l1] st w Q = zR 103 22 [l0, l1] (.inr none :: st) w Q := zR_go (zst zT_103_21 rfl)
theorem zT_103_22 : zT 103 22 = some (.areturn, 1, 0, []) := by decide +kernel
theorem zr_103_22 {l0 l1 : Option zV} {x : Option Nat} {w : zW} {Q : Option zV → zW → Prop} : zR 103 22 [l0, l1] [.inr x] w Q = Q (some (.inr x)) w := zR_ret (zst zT_103_22 rfl)
theorem zT_104_0 : zT 104 0 = some (.aload_n 0, 1, 0, []) := by decide +kernel
theorem zr_104_0 {l1 l2 l3 l4 : Option zV} {x : Option Nat} {st : List zV} {w : zW} {Q : Option zV → zW → Prop}  : zR 104 0 [some (.inr x), l1, l2, l3, l4] st w Q = zR 104 1 [some (.inr x), l1, l2, l3, l4] (.inr x :: st) w Q := zR_go (zst zT_104_0 rfl)
theorem zT_104_1 : zT 104 1 = some (.getfield 40, 3, 0, [(1, 7)]) := by decide +kernel
theorem zr_104_1 {l0 l1 l2 l3 l4 : Option zV} {h : Nat} {st : List zV} {w : zW} {Q : Option zV → zW → Prop} (hk : zk w h = 1) : zR 104 1 [l0, l1, l2, l3, l4] (.inr (some h) :: st) w Q = zR 104 4 [l0, l1, l2, l3, l4] (.inl (zf w 13 h) :: st) w Q := zR_go (zst zT_104_1 (zget_i hk (Or.inl rfl)))
theorem zT_104_4 : zT 104 4 = some (.bipush 40, 2, 0, []) := by decide +kernel
theorem zr_104_4 {l0 l1 l2 l3 l4 : Option zV} {st : List zV} {w : zW} {Q : Option zV → zW → Prop}  : zR 104 4 [l0, l1, l2, l3, l4] st w Q = zR 104 6 [l0, l1, l2, l3, l4] (.inl 40 :: st) w Q := zR_go (zst zT_104_4 rfl)
theorem zT_104_6 : zT 104 6 = some (.if_icmp .ne 5, 3, 0, []) := by decide +kernel
theorem zr_104_6 {l0 l1 l2 l3 l4 : Option zV} {x y : Int} {st : List zV} {w : zW} {Q : Option zV → zW → Prop}  : zR 104 6 [l0, l1, l2, l3, l4] (.inl y :: .inl x :: st) w Q = (if zN x ≠ zN y then zR 104 11 [l0, l1, l2, l3, l4] st w Q else zR 104 9 [l0, l1, l2, l3, l4] st w Q) := zR_if (zstB zT_104_6 rfl) (by simp [zcmp])
theorem zT_104_9 : zT 104 9 = some (.iconst (-1), 1, 0, []) := by decide +kernel
theorem zr_104_9 {l0 l1 l2 l3 l4 : Option zV} {st : List zV} {w : zW} {Q : Option zV → zW → Prop}  : zR 104 9 [l0, l1, l2, l3, l4] st w Q = zR 104 10 [l0, l1, l2, l3, l4] (.inl (-1) :: st) w Q := zR_go (zst zT_104_9 rfl)
theorem zT_104_10 : zT 104 10 = some (.ireturn, 1, 0, []) := by decide +kernel
theorem zr_104_10 {l0 l1 l2 l3 l4 : Option zV} {x : Int} {w : zW} {Q : Option zV → zW → Prop}  : zR 104 10 [l0, l1, l2, l3, l4] [.inl x] w Q = Q (some (.inl x)) w := zR_ret (zst zT_104_10 rfl)
theorem zT_104_11 : zT 104 11 = some (.aload_n 0, 1, 0, []) := by decide +kernel
theorem zr_104_11 {l1 l2 l3 l4 : Option zV} {x : Option Nat} {st : List zV} {w : zW} {Q : Option zV → zW → Prop}  : zR 104 11 [some (.inr x), l1, l2, l3, l4] st w Q = zR 104 12 [some (.inr x), l1, l2, l3, l4] (.inr x :: st) w Q := zR_go (zst zT_104_11 rfl)
theorem zT_104_12 : zT 104 12 = some (.getfield 40, 3, 0, [(1, 7)]) := by decide +kernel
theorem zr_104_12 {l0 l1 l2 l3 l4 : Option zV} {h : Nat} {st : List zV} {w : zW} {Q : Option zV → zW → Prop} (hk : zk w h = 1) : zR 104 12 [l0, l1, l2, l3, l4] (.inr (some h) :: st) w Q = zR 104 15 [l0, l1, l2, l3, l4] (.inl (zf w 13 h) :: st) w Q := zR_go (zst zT_104_12 (zget_i hk (Or.inl rfl)))
theorem zT_104_15 : zT 104 15 = some (.istore_n 3, 1, 0, []) := by decide +kernel
theorem zr_104_15 {l0 l1 l2 l3 l4 : Option zV} {x : Int} {st : List zV} {w : zW} {Q : Option zV → zW → Prop}  : zR 104 15 [l0, l1, l2, l3, l4] (.inl x :: st) w Q = zR 104 16 [l0, l1, l2, some (.inl x), l4] st w Q := zR_go (zst zT_104_15 rfl)
theorem zT_104_16 : zT 104 16 = some (.aload_n 0, 1, 0, []) := by decide +kernel
theorem zr_104_16 {l1 l2 l3 l4 : Option zV} {x : Option Nat} {st : List zV} {w : zW} {Q : Option zV → zW → Prop}  : zR 104 16 [some (.inr x), l1, l2, l3, l4] st w Q = zR 104 17 [some (.inr x), l1, l2, l3, l4] (.inr x :: st) w Q := zR_go (zst zT_104_16 rfl)
theorem zT_104_17 : zT 104 17 = some (.getfield 9, 3, 0, [(1, 0)]) := by decide +kernel
theorem zr_104_17 {l0 l1 l2 l3 l4 : Option zV} {h : Nat} {st : List zV} {w : zW} {Q : Option zV → zW → Prop} (hk : zk w h = 1) : zR 104 17 [l0, l1, l2, l3, l4] (.inr (some h) :: st) w Q = zR 104 20 [l0, l1, l2, l3, l4] (.inr (zp w 6 h) :: st) w Q := zR_go (zst zT_104_17 (zget_r hk rfl))
theorem zT_104_20 : zT 104 20 = some (.iload_n 2, 1, 0, []) := by decide +kernel
theorem zr_104_20 {l0 l1 l3 l4 : Option zV} {x : Int} {st : List zV} {w : zW} {Q : Option zV → zW → Prop}  : zR 104 20 [l0, l1, some (.inl x), l3, l4] st w Q = zR 104 21 [l0, l1, some (.inl x), l3, l4] (.inl x :: st) w Q := zR_go (zst zT_104_20 rfl)
theorem zT_104_21 : zT 104 21 = some (.invokestatic 43, 3, 2, [(156, 1)]) := by decide +kernel
theorem zr_104_21 {l0 l1 l2 l3 l4 : Option zV} {a0 a1 : zV} {st : List zV} {w : zW} {Q : Option zV → zW → Prop} (hs : st.length ≤ 8) : zR 104 21 [l0, l1, l2, l3, l4] (a1 :: a0 :: st) w Q = zR 156 0 [some a0, some a1, none] [] w (fun r w2 => zR 104 24 [l0, l1, l2, l3, l4] (r.toList ++ st) w2 Q) := zR_call (zst zT_104_21 ((zcall_s (z := 2) (pc := 21) (j := 156) (ls := [l0, l1, l2, l3, l4]) (w := w) [a1, a0] rfl hs : zi_static 2 [(156, 1)] 21 [l0, l1, l2, l3, l4] ([a1, a0] ++ st) w = _)))
theorem zT_104_24 : zT 104 24 = some (.astore 4, 2, 0, []) := by decide +kernel
theorem zr_104_24 {l0 l1 l2 l3 l4 : Option zV} {x : Option Nat} {st : List zV} {w : zW} {Q : Option zV → zW → Prop}  : zR 104 24 [l0, l1, l2, l3, l4] (.inr x :: st) w Q = zR 104 26 [l0, l1, l2, l3, some (.inr x)] st w Q := zR_go (zst zT_104_24 rfl)
theorem zT_104_26 : zT 104 26 = some (.aload_n 0, 1, 0, []) := by decide +kernel
theorem zr_104_26 {l1 l2 l3 l4 : Option zV} {x : Option Nat} {st : List zV} {w : zW} {Q : Option zV → zW → Prop}  : zR 104 26 [some (.inr x), l1, l2, l3, l4] st w Q = zR 104 27 [some (.inr x), l1, l2, l3, l4] (.inr x :: st) w Q := zR_go (zst zT_104_26 rfl)
theorem zT_104_27 : zT 104 27 = some (.getfield 26, 3, 0, [(1, 6)]) := by decide +kernel
theorem zr_104_27 {l0 l1 l2 l3 l4 : Option zV} {h : Nat} {st : List zV} {w : zW} {Q : Option zV → zW → Prop} (hk : zk w h = 1) : zR 104 27 [l0, l1, l2, l3, l4] (.inr (some h) :: st) w Q = zR 104 30 [l0, l1, l2, l3, l4] (.inr (zp w 12 h) :: st) w Q := zR_go (zst zT_104_27 (zget_r hk rfl))
theorem zT_104_30 : zT 104 30 = some (.iload_n 3, 1, 0, []) := by decide +kernel
theorem zr_104_30 {l0 l1 l2 l4 : Option zV} {x : Int} {st : List zV} {w : zW} {Q : Option zV → zW → Prop}  : zR 104 30 [l0, l1, l2, some (.inl x), l4] st w Q = zR 104 31 [l0, l1, l2, some (.inl x), l4] (.inl x :: st) w Q := zR_go (zst zT_104_30 rfl)
theorem zT_104_31 : zT 104 31 = some (.new 24, 3, 0, [(10, 8)]) := by decide +kernel
theorem zr_104_31 {l0 l1 l2 l3 l4 : Option zV} {st : List zV} {w : zW} {Q : Option zV → zW → Prop}  : zR 104 31 [l0, l1, l2, l3, l4] st w Q = zR 104 34 [l0, l1, l2, l3, l4] (.inr (some (zn w + 1)) :: st) (znew w 10 8) Q := zR_go (zst zT_104_31 rfl)
theorem zT_104_34 : zT 104 34 = some (.dup, 1, 0, []) := by decide +kernel
theorem zr_104_34 {l0 l1 l2 l3 l4 : Option zV} {v : zV} {st : List zV} {w : zW} {Q : Option zV → zW → Prop}  : zR 104 34 [l0, l1, l2, l3, l4] (v :: st) w Q = zR 104 35 [l0, l1, l2, l3, l4] (v :: v :: st) w Q := zR_go (zst zT_104_34 rfl)
theorem zT_104_35 : zT 104 35 = some (.iload_n 1, 1, 0, []) := by decide +kernel
theorem zr_104_35 {l0 l2 l3 l4 : Option zV} {x : Int} {st : List zV} {w : zW} {Q : Option zV → zW → Prop}  : zR 104 35 [l0, some (.inl x), l2, l3, l4] st w Q = zR 104 36 [l0, some (.inl x), l2, l3, l4] (.inl x :: st) w Q := zR_go (zst zT_104_35 rfl)
theorem zT_104_36 : zT 104 36 = some (.iload_n 3, 1, 0, []) := by decide +kernel
theorem zr_104_36 {l0 l1 l2 l4 : Option zV} {x : Int} {st : List zV} {w : zW} {Q : Option zV → zW → Prop}  : zR 104 36 [l0, l1, l2, some (.inl x), l4] st w Q = zR 104 37 [l0, l1, l2, some (.inl x), l4] (.inl x :: st) w Q := zR_go (zst zT_104_36 rfl)
theorem zT_104_37 : zT 104 37 = some (.bipush 8, 2, 0, []) := by decide +kernel
theorem zr_104_37 {l0 l1 l2 l3 l4 : Option zV} {st : List zV} {w : zW} {Q : Option zV → zW → Prop}  : zR 104 37 [l0, l1, l2, l3, l4] st w Q = zR 104 39 [l0, l1, l2, l3, l4] (.inl 8 :: st) w Q := zR_go (zst zT_104_37 rfl)
theorem zT_104_39 : zT 104 39 = some (.irem, 1, 0, []) := by decide +kernel
theorem zr_104_39 {l0 l1 l2 l3 l4 : Option zV} {x y : Int} {st : List zV} {w : zW} {Q : Option zV → zW → Prop} (hy : ¬ zN y = 0) : zR 104 39 [l0, l1, l2, l3, l4] (.inl y :: .inl x :: st) w Q = zR 104 40 [l0, l1, l2, l3, l4] (.inl (zo_rem x y) :: st) w Q := zR_go (zst zT_104_39 (if_neg hy))
theorem zT_104_40 : zT 104 40 = some (.aload 4, 2, 0, []) := by decide +kernel
theorem zr_104_40 {l0 l1 l2 l3 : Option zV} {x : Option Nat} {st : List zV} {w : zW} {Q : Option zV → zW → Prop}  : zR 104 40 [l0, l1, l2, l3, some (.inr x)] st w Q = zR 104 42 [l0, l1, l2, l3, some (.inr x)] (.inr x :: st) w Q := zR_go (zst zT_104_40 rfl)
theorem zT_104_42 : zT 104 42 = some (.invokespecial 49, 3, 3, [(134, 1)]) := by decide +kernel
theorem zr_104_42 {l0 l1 l2 l3 l4 : Option zV} {a0 a1 a2 : zV} {h : Nat} {st : List zV} {w : zW} {Q : Option zV → zW → Prop} (hs : st.length ≤ 8) (hk : zk w h < 1000) : zR 104 42 [l0, l1, l2, l3, l4] (a2 :: a1 :: a0 :: .inr (some h) :: st) w Q = zR 134 0 [some (.inr (some h)), some a0, some a1, some a2] [] w (fun r w2 => zR 104 45 [l0, l1, l2, l3, l4] (r.toList ++ st) w2 Q) := zR_call (zst zT_104_42 (zcall_i (ls := [l0, l1, l2, l3, l4]) (n := 1) [a2, a1, a0] rfl hs hk))
theorem zT_104_45 : zT 104 45 = some (.aastore, 1, 0, []) := by decide +kernel
theorem zr_104_45n {l0 l1 l2 l3 l4 : Option zV} {j : Int} {h : Nat} {st : List zV} {w : zW} {Q : Option zV → zW → Prop} (hk : zNC + 2 < zk w h ∧ zk w h < 1000 ∧ 0 ≤ zN j ∧ zN j < zl w h) : zR 104 45 [l0, l1, l2, l3, l4] (.inr none :: .inl j :: .inr (some h) :: st) w Q = zR 104 46 [l0, l1, l2, l3, l4] st (zsb w h (zN j).toNat none) Q := zR_go (zst zT_104_45 (if_pos hk))
theorem zr_104_45s {l0 l1 l2 l3 l4 : Option zV} {j : Int} {h v : Nat} {st : List zV} {w : zW} {Q : Option zV → zW → Prop} (hk : zNC + 2 < zk w h ∧ zk w h < 1000 ∧ 0 ≤ zN j ∧ zN j < zl w h ∧ zAS (zk w h) (zk w v) = true) : zR 104 45 [l0, l1, l2, l3, l4] (.inr (some v) :: .inl j :: .inr (some h) :: st) w Q = zR 104 46 [l0, l1, l2, l3, l4] st (zsb w h (zN j).toNat (some v)) Q := zR_go (zst zT_104_45 (if_pos hk))
theorem zT_104_46 : zT 104 46 = some (.aload_n 0, 1, 0, []) := by decide +kernel
theorem zr_104_46 {l1 l2 l3 l4 : Option zV} {x : Option Nat} {st : List zV} {w : zW} {Q : Option zV → zW → Prop}  : zR 104 46 [some (.inr x), l1, l2, l3, l4] st w Q = zR 104 47 [some (.inr x), l1, l2, l3, l4] (.inr x :: st) w Q := zR_go (zst zT_104_46 rfl)
theorem zT_104_47 : zT 104 47 = some (.dup, 1, 0, []) := by decide +kernel
theorem zr_104_47 {l0 l1 l2 l3 l4 : Option zV} {v : zV} {st : List zV} {w : zW} {Q : Option zV → zW → Prop}  : zR 104 47 [l0, l1, l2, l3, l4] (v :: st) w Q = zR 104 48 [l0, l1, l2, l3, l4] (v :: v :: st) w Q := zR_go (zst zT_104_47 rfl)
theorem zT_104_48 : zT 104 48 = some (.getfield 40, 3, 0, [(1, 7)]) := by decide +kernel
theorem zr_104_48 {l0 l1 l2 l3 l4 : Option zV} {h : Nat} {st : List zV} {w : zW} {Q : Option zV → zW → Prop} (hk : zk w h = 1) : zR 104 48 [l0, l1, l2, l3, l4] (.inr (some h) :: st) w Q = zR 104 51 [l0, l1, l2, l3, l4] (.inl (zf w 13 h) :: st) w Q := zR_go (zst zT_104_48 (zget_i hk (Or.inl rfl)))
theorem zT_104_51 : zT 104 51 = some (.iconst 1, 1, 0, []) := by decide +kernel
theorem zr_104_51 {l0 l1 l2 l3 l4 : Option zV} {st : List zV} {w : zW} {Q : Option zV → zW → Prop}  : zR 104 51 [l0, l1, l2, l3, l4] st w Q = zR 104 52 [l0, l1, l2, l3, l4] (.inl 1 :: st) w Q := zR_go (zst zT_104_51 rfl)
theorem zT_104_52 : zT 104 52 = some (.iadd, 1, 0, []) := by decide +kernel
theorem zr_104_52 {l0 l1 l2 l3 l4 : Option zV} {x y : Int} {st : List zV} {w : zW} {Q : Option zV → zW → Prop}  : zR 104 52 [l0, l1, l2, l3, l4] (.inl y :: .inl x :: st) w Q = zR 104 53 [l0, l1, l2, l3, l4] (.inl (x + y) :: st) w Q := zR_go (zst zT_104_52 rfl)
theorem zT_104_53 : zT 104 53 = some (.putfield 40, 3, 0, [(1, 7)]) := by decide +kernel
theorem zr_104_53 {l0 l1 l2 l3 l4 : Option zV} {h : Nat} {x : Int} {st : List zV} {w : zW} {Q : Option zV → zW → Prop} (hk : zk w h = 1) : zR 104 53 [l0, l1, l2, l3, l4] (.inl x :: .inr (some h) :: st) w Q = zR 104 56 [l0, l1, l2, l3, l4] st (zsf w 13 h x) Q := zR_go (zst zT_104_53 (zput_i hk rfl))
theorem zT_104_56 : zT 104 56 = some (.aload_n 0, 1, 0, []) := by decide +kernel
theorem zr_104_56 {l1 l2 l3 l4 : Option zV} {x : Option Nat} {st : List zV} {w : zW} {Q : Option zV → zW → Prop}  : zR 104 56 [some (.inr x), l1, l2, l3, l4] st w Q = zR 104 57 [some (.inr x), l1, l2, l3, l4] (.inr x :: st) w Q := zR_go (zst zT_104_56 rfl)
theorem zT_104_57 : zT 104 57 = some (.aload_n 0, 1, 0, []) := by decide +kernel
theorem zr_104_57 {l1 l2 l3 l4 : Option zV} {x : Option Nat} {st : List zV} {w : zW} {Q : Option zV → zW → Prop}  : zR 104 57 [some (.inr x), l1, l2, l3, l4] st w Q = zR 104 58 [some (.inr x), l1, l2, l3, l4] (.inr x :: st) w Q := zR_go (zst zT_104_57 rfl)
theorem zT_104_58 : zT 104 58 = some (.getfield 26, 3, 0, [(1, 6)]) := by decide +kernel
theorem zr_104_58 {l0 l1 l2 l3 l4 : Option zV} {h : Nat} {st : List zV} {w : zW} {Q : Option zV → zW → Prop} (hk : zk w h = 1) : zR 104 58 [l0, l1, l2, l3, l4] (.inr (some h) :: st) w Q = zR 104 61 [l0, l1, l2, l3, l4] (.inr (zp w 12 h) :: st) w Q := zR_go (zst zT_104_58 (zget_r hk rfl))
theorem zT_104_61 : zT 104 61 = some (.iload_n 3, 1, 0, []) := by decide +kernel
theorem zr_104_61 {l0 l1 l2 l4 : Option zV} {x : Int} {st : List zV} {w : zW} {Q : Option zV → zW → Prop}  : zR 104 61 [l0, l1, l2, some (.inl x), l4] st w Q = zR 104 62 [l0, l1, l2, some (.inl x), l4] (.inl x :: st) w Q := zR_go (zst zT_104_61 rfl)
theorem zT_104_62 : zT 104 62 = some (.aaload, 1, 0, []) := by decide +kernel
theorem zr_104_62 {l0 l1 l2 l3 l4 : Option zV} {j : Int} {h : Nat} {st : List zV} {w : zW} {Q : Option zV → zW → Prop} (hk : zNC + 2 < zk w h ∧ zk w h < 1000 ∧ 0 ≤ zN j ∧ zN j < zl w h) : zR 104 62 [l0, l1, l2, l3, l4] (.inl j :: .inr (some h) :: st) w Q = zR 104 63 [l0, l1, l2, l3, l4] (.inr (zb w h (zN j).toNat) :: st) w Q := zR_go (zst zT_104_62 (if_pos hk))
theorem zT_104_63 : zT 104 63 = some (.invokevirtual 52, 3, 1, [(1, 106)]) := by decide +kernel
theorem zr_104_63 {l0 l1 l2 l3 l4 : Option zV} {a0 : zV} {h : Nat} {st : List zV} {w : zW} {Q : Option zV → zW → Prop} (hs : st.length ≤ 8) (hk : zk w h = 1) : zR 104 63 [l0, l1, l2, l3, l4] (a0 :: .inr (some h) :: st) w Q = zR 106 0 [some (.inr (some h)), some a0] [] w (fun r w2 => zR 104 66 [l0, l1, l2, l3, l4] (r.toList ++ st) w2 Q) := zR_call (zst zT_104_63 (zcall_v [a0] rfl hs hk rfl))
theorem zT_104_66 : zT 104 66 = some (.iload_n 3, 1, 0, []) := by decide +kernel
theorem zr_104_66 {l0 l1 l2 l4 : Option zV} {x : Int} {st : List zV} {w : zW} {Q : Option zV → zW → Prop}  : zR 104 66 [l0, l1, l2, some (.inl x), l4] st w Q = zR 104 67 [l0, l1, l2, some (.inl x), l4] (.inl x :: st) w Q := zR_go (zst zT_104_66 rfl)
theorem zT_104_67 : zT 104 67 = some (.ireturn, 1, 0, []) := by decide +kernel
theorem zr_104_67 {l0 l1 l2 l3 l4 : Option zV} {x : Int} {w : zW} {Q : Option zV → zW → Prop}  : zR 104 67 [l0, l1, l2, l3, l4] [.inl x] w Q = Q (some (.inl x)) w := zR_ret (zst zT_104_67 rfl)
theorem zT_105_0 : zT 105 0 = some (.iconst 0, 1, 0, []) := by decide +kernel
theorem zr_105_0 {l0 l1 : Option zV} {st : List zV} {w : zW} {Q : Option zV → zW → Prop}  : zR 105 0 [l0, l1] st w Q = zR 105 1 [l0, l1] (.inl 0 :: st) w Q := zR_go (zst zT_105_0 rfl)
theorem zT_105_1 : zT 105 1 = some (.istore_n 1, 1, 0, []) := by decide +kernel
theorem zr_105_1 {l0 l1 : Option zV} {x : Int} {st : List zV} {w : zW} {Q : Option zV → zW → Prop}  : zR 105 1 [l0, l1] (.inl x :: st) w Q = zR 105 2 [l0, some (.inl x)] st w Q := zR_go (zst zT_105_1 rfl)
theorem zT_105_2 : zT 105 2 = some (.iload_n 1, 1, 0, []) := by decide +kernel
theorem zr_105_2 {l0 : Option zV} {x : Int} {st : List zV} {w : zW} {Q : Option zV → zW → Prop}  : zR 105 2 [l0, some (.inl x)] st w Q = zR 105 3 [l0, some (.inl x)] (.inl x :: st) w Q := zR_go (zst zT_105_2 rfl)
theorem zT_105_3 : zT 105 3 = some (.aload_n 0, 1, 0, []) := by decide +kernel
theorem zr_105_3 {l1 : Option zV} {x : Option Nat} {st : List zV} {w : zW} {Q : Option zV → zW → Prop}  : zR 105 3 [some (.inr x), l1] st w Q = zR 105 4 [some (.inr x), l1] (.inr x :: st) w Q := zR_go (zst zT_105_3 rfl)
theorem zT_105_4 : zT 105 4 = some (.getfield 40, 3, 0, [(1, 7)]) := by decide +kernel
theorem zr_105_4 {l0 l1 : Option zV} {h : Nat} {st : List zV} {w : zW} {Q : Option zV → zW → Prop} (hk : zk w h = 1) : zR 105 4 [l0, l1] (.inr (some h) :: st) w Q = zR 105 7 [l0, l1] (.inl (zf w 13 h) :: st) w Q := zR_go (zst zT_105_4 (zget_i hk (Or.inl rfl)))
theorem zT_105_7 : zT 105 7 = some (.if_icmp .ge 31, 3, 0, []) := by decide +kernel
theorem zr_105_7 {l0 l1 : Option zV} {x y : Int} {st : List zV} {w : zW} {Q : Option zV → zW → Prop}  : zR 105 7 [l0, l1] (.inl y :: .inl x :: st) w Q = (if zN y ≤ zN x then zR 105 38 [l0, l1] st w Q else zR 105 10 [l0, l1] st w Q) := zR_if (zstB zT_105_7 rfl) (by simp [zcmp])
theorem zT_105_10 : zT 105 10 = some (.aload_n 0, 1, 0, []) := by decide +kernel
theorem zr_105_10 {l1 : Option zV} {x : Option Nat} {st : List zV} {w : zW} {Q : Option zV → zW → Prop}  : zR 105 10 [some (.inr x), l1] st w Q = zR 105 11 [some (.inr x), l1] (.inr x :: st) w Q := zR_go (zst zT_105_10 rfl)
theorem zT_105_11 : zT 105 11 = some (.getfield 26, 3, 0, [(1, 6)]) := by decide +kernel
theorem zr_105_11 {l0 l1 : Option zV} {h : Nat} {st : List zV} {w : zW} {Q : Option zV → zW → Prop} (hk : zk w h = 1) : zR 105 11 [l0, l1] (.inr (some h) :: st) w Q = zR 105 14 [l0, l1] (.inr (zp w 12 h) :: st) w Q := zR_go (zst zT_105_11 (zget_r hk rfl))
theorem zT_105_14 : zT 105 14 = some (.iload_n 1, 1, 0, []) := by decide +kernel
theorem zr_105_14 {l0 : Option zV} {x : Int} {st : List zV} {w : zW} {Q : Option zV → zW → Prop}  : zR 105 14 [l0, some (.inl x)] st w Q = zR 105 15 [l0, some (.inl x)] (.inl x :: st) w Q := zR_go (zst zT_105_14 rfl)
theorem zT_105_15 : zT 105 15 = some (.aaload, 1, 0, []) := by decide +kernel
theorem zr_105_15 {l0 l1 : Option zV} {j : Int} {h : Nat} {st : List zV} {w : zW} {Q : Option zV → zW → Prop} (hk : zNC + 2 < zk w h ∧ zk w h < 1000 ∧ 0 ≤ zN j ∧ zN j < zl w h) : zR 105 15 [l0, l1] (.inl j :: .inr (some h) :: st) w Q = zR 105 16 [l0, l1] (.inr (zb w h (zN j).toNat) :: st) w Q := zR_go (zst zT_105_15 (if_pos hk))
theorem zT_105_16 : zT 105 16 = some (.invokevirtual 56, 3, 0, [(10, 135)]) := by decide +kernel
theorem zr_105_16 {l0 l1 : Option zV} {h : Nat} {st : List zV} {w : zW} {Q : Option zV → zW → Prop} (hs : st.length ≤ 8) (hk : zk w h = 10) : zR 105 16 [l0, l1] (.inr (some h) :: st) w Q = zR 135 0 [some (.inr (some h))] [] w (fun r w2 => zR 105 19 [l0, l1] (r.toList ++ st) w2 Q) := zR_call (zst zT_105_16 (zcall_v [] rfl hs hk rfl))
theorem zT_105_19 : zT 105 19 = some (.ifCond .eq 13, 3, 0, []) := by decide +kernel
theorem zr_105_19 {l0 l1 : Option zV} {x : Int} {st : List zV} {w : zW} {Q : Option zV → zW → Prop}  : zR 105 19 [l0, l1] (.inl x :: st) w Q = (if zN x = 0 then zR 105 32 [l0, l1] st w Q else zR 105 22 [l0, l1] st w Q) := zR_if (zstB zT_105_19 rfl) (by simp [zcmp])
theorem zT_105_22 : zT 105 22 = some (.aload_n 0, 1, 0, []) := by decide +kernel
theorem zr_105_22 {l1 : Option zV} {x : Option Nat} {st : List zV} {w : zW} {Q : Option zV → zW → Prop}  : zR 105 22 [some (.inr x), l1] st w Q = zR 105 23 [some (.inr x), l1] (.inr x :: st) w Q := zR_go (zst zT_105_22 rfl)
theorem zT_105_23 : zT 105 23 = some (.aload_n 0, 1, 0, []) := by decide +kernel
theorem zr_105_23 {l1 : Option zV} {x : Option Nat} {st : List zV} {w : zW} {Q : Option zV → zW → Prop}  : zR 105 23 [some (.inr x), l1] st w Q = zR 105 24 [some (.inr x), l1] (.inr x :: st) w Q := zR_go (zst zT_105_23 rfl)
theorem zT_105_24 : zT 105 24 = some (.getfield 26, 3, 0, [(1, 6)]) := by decide +kernel
theorem zr_105_24 {l0 l1 : Option zV} {h : Nat} {st : List zV} {w : zW} {Q : Option zV → zW → Prop} (hk : zk w h = 1) : zR 105 24 [l0, l1] (.inr (some h) :: st) w Q = zR 105 27 [l0, l1] (.inr (zp w 12 h) :: st) w Q := zR_go (zst zT_105_24 (zget_r hk rfl))
theorem zT_105_27 : zT 105 27 = some (.iload_n 1, 1, 0, []) := by decide +kernel
theorem zr_105_27 {l0 : Option zV} {x : Int} {st : List zV} {w : zW} {Q : Option zV → zW → Prop}  : zR 105 27 [l0, some (.inl x)] st w Q = zR 105 28 [l0, some (.inl x)] (.inl x :: st) w Q := zR_go (zst zT_105_27 rfl)
theorem zT_105_28 : zT 105 28 = some (.aaload, 1, 0, []) := by decide +kernel
theorem zr_105_28 {l0 l1 : Option zV} {j : Int} {h : Nat} {st : List zV} {w : zW} {Q : Option zV → zW → Prop} (hk : zNC + 2 < zk w h ∧ zk w h < 1000 ∧ 0 ≤ zN j ∧ zN j < zl w h) : zR 105 28 [l0, l1] (.inl j :: .inr (some h) :: st) w Q = zR 105 29 [l0, l1] (.inr (zb w h (zN j).toNat) :: st) w Q := zR_go (zst zT_105_28 (if_pos hk))
theorem zT_105_29 : zT 105 29 = some (.invokevirtual 52, 3, 1, [(1, 106)]) := by decide +kernel
theorem zr_105_29 {l0 l1 : Option zV} {a0 : zV} {h : Nat} {st : List zV} {w : zW} {Q : Option zV → zW → Prop} (hs : st.length ≤ 8) (hk : zk w h = 1) : zR 105 29 [l0, l1] (a0 :: .inr (some h) :: st) w Q = zR 106 0 [some (.inr (some h)), some a0] [] w (fun r w2 => zR 105 32 [l0, l1] (r.toList ++ st) w2 Q) := zR_call (zst zT_105_29 (zcall_v [a0] rfl hs hk rfl))
theorem zT_105_32 : zT 105 32 = some (.iinc 1 1, 3, 0, []) := by decide +kernel
theorem zr_105_32 {l0 : Option zV} {x : Int} {st : List zV} {w : zW} {Q : Option zV → zW → Prop}  : zR 105 32 [l0, some (.inl x)] st w Q = zR 105 35 [l0, some (.inl (x + 1))] st w Q := zR_go (zst zT_105_32 rfl)
theorem zT_105_35 : zT 105 35 = some (.goto (-33), 3, 0, []) := by decide +kernel
theorem zr_105_35 {l0 l1 : Option zV} {st : List zV} {w : zW} {Q : Option zV → zW → Prop}  : zR 105 35 [l0, l1] st w Q = zR 105 2 [l0, l1] st w Q := zR_go (zst zT_105_35 rfl)
theorem zT_105_38 : zT 105 38 = some (.return_, 1, 0, []) := by decide +kernel
theorem zr_105_38 {l0 l1 : Option zV} {w : zW} {Q : Option zV → zW → Prop} : zR 105 38 [l0, l1] [] w Q = Q none w := zR_ret (zst zT_105_38 rfl)
theorem zT_106_0 : zT 106 0 = some (.aload_n 0, 1, 0, []) := by decide +kernel
theorem zr_106_0 {l1 : Option zV} {x : Option Nat} {st : List zV} {w : zW} {Q : Option zV → zW → Prop}  : zR 106 0 [some (.inr x), l1] st w Q = zR 106 1 [some (.inr x), l1] (.inr x :: st) w Q := zR_go (zst zT_106_0 rfl)
theorem zT_106_1 : zT 106 1 = some (.aload_n 1, 1, 0, []) := by decide +kernel
theorem zr_106_1 {l0 : Option zV} {x : Option Nat} {st : List zV} {w : zW} {Q : Option zV → zW → Prop}  : zR 106 1 [l0, some (.inr x)] st w Q = zR 106 2 [l0, some (.inr x)] (.inr x :: st) w Q := zR_go (zst zT_106_1 rfl)
theorem zT_106_2 : zT 106 2 = some (.getfield 60, 3, 0, [(10, 0)]) := by decide +kernel
theorem zr_106_2 {l0 l1 : Option zV} {h : Nat} {st : List zV} {w : zW} {Q : Option zV → zW → Prop} (hk : zk w h = 10) : zR 106 2 [l0, l1] (.inr (some h) :: st) w Q = zR 106 5 [l0, l1] (.inl (zf w 64 h) :: st) w Q := zR_go (zst zT_106_2 (zget_i hk (Or.inl rfl)))
theorem zT_106_5 : zT 106 5 = some (.bipush 8, 2, 0, []) := by decide +kernel
theorem zr_106_5 {l0 l1 : Option zV} {st : List zV} {w : zW} {Q : Option zV → zW → Prop}  : zR 106 5 [l0, l1] st w Q = zR 106 7 [l0, l1] (.inl 8 :: st) w Q := zR_go (zst zT_106_5 rfl)
theorem zT_106_7 : zT 106 7 = some (.aload_n 1, 1, 0, []) := by decide +kernel
theorem zr_106_7 {l0 : Option zV} {x : Option Nat} {st : List zV} {w : zW} {Q : Option zV → zW → Prop}  : zR 106 7 [l0, some (.inr x)] st w Q = zR 106 8 [l0, some (.inr x)] (.inr x :: st) w Q := zR_go (zst zT_106_7 rfl)
theorem zT_106_8 : zT 106 8 = some (.getfield 61, 3, 0, [(10, 1)]) := by decide +kernel
theorem zr_106_8 {l0 l1 : Option zV} {h : Nat} {st : List zV} {w : zW} {Q : Option zV → zW → Prop} (hk : zk w h = 10) : zR 106 8 [l0, l1] (.inr (some h) :: st) w Q = zR 106 11 [l0, l1] (.inl (zf w 65 h) :: st) w Q := zR_go (zst zT_106_8 (zget_i hk (Or.inl rfl)))
theorem zT_106_11 : zT 106 11 = some (.iadd, 1, 0, []) := by decide +kernel
theorem zr_106_11 {l0 l1 : Option zV} {x y : Int} {st : List zV} {w : zW} {Q : Option zV → zW → Prop}  : zR 106 11 [l0, l1] (.inl y :: .inl x :: st) w Q = zR 106 12 [l0, l1] (.inl (x + y) :: st) w Q := zR_go (zst zT_106_11 rfl)
theorem zT_106_12 : zT 106 12 = some (.aload_n 1, 1, 0, []) := by decide +kernel
theorem zr_106_12 {l0 : Option zV} {x : Option Nat} {st : List zV} {w : zW} {Q : Option zV → zW → Prop}  : zR 106 12 [l0, some (.inr x)] st w Q = zR 106 13 [l0, some (.inr x)] (.inr x :: st) w Q := zR_go (zst zT_106_12 rfl)
theorem zT_106_13 : zT 106 13 = some (.getfield 64, 3, 0, [(10, 2)]) := by decide +kernel
theorem zr_106_13 {l0 l1 : Option zV} {h : Nat} {st : List zV} {w : zW} {Q : Option zV → zW → Prop} (hk : zk w h = 10) : zR 106 13 [l0, l1] (.inr (some h) :: st) w Q = zR 106 16 [l0, l1] (.inr (zp w 66 h) :: st) w Q := zR_go (zst zT_106_13 (zget_r hk rfl))
theorem zT_106_16 : zT 106 16 = some (.aload_n 1, 1, 0, []) := by decide +kernel
theorem zr_106_16 {l0 : Option zV} {x : Option Nat} {st : List zV} {w : zW} {Q : Option zV → zW → Prop}  : zR 106 16 [l0, some (.inr x)] st w Q = zR 106 17 [l0, some (.inr x)] (.inr x :: st) w Q := zR_go (zst zT_106_16 rfl)
theorem zT_106_17 : zT 106 17 = some (.getfield 64, 3, 0, [(10, 2)]) := by decide +kernel
theorem zr_106_17 {l0 l1 : Option zV} {h : Nat} {st : List zV} {w : zW} {Q : Option zV → zW → Prop} (hk : zk w h = 10) : zR 106 17 [l0, l1] (.inr (some h) :: st) w Q = zR 106 20 [l0, l1] (.inr (zp w 66 h) :: st) w Q := zR_go (zst zT_106_17 (zget_r hk rfl))
theorem zT_106_20 : zT 106 20 = some (.arraylength, 1, 0, []) := by decide +kernel
theorem zr_106_20 {l0 l1 : Option zV} {h : Nat} {st : List zV} {w : zW} {Q : Option zV → zW → Prop} (hk : zNC ≤ zk w h ∧ zk w h < 1000) : zR 106 20 [l0, l1] (.inr (some h) :: st) w Q = zR 106 21 [l0, l1] (.inl (zl w h : Int) :: st) w Q := zR_go (zst zT_106_20 (if_pos hk))
theorem zT_106_21 : zT 106 21 = some (.invokevirtual 67, 3, 4, [(1, 114)]) := by decide +kernel
theorem zr_106_21 {l0 l1 : Option zV} {a0 a1 a2 a3 : zV} {h : Nat} {st : List zV} {w : zW} {Q : Option zV → zW → Prop} (hs : st.length ≤ 8) (hk : zk w h = 1) : zR 106 21 [l0, l1] (a3 :: a2 :: a1 :: a0 :: .inr (some h) :: st) w Q = zR 114 0 [some (.inr (some h)), some a0, some a1, some a2, some a3, none, none, none, none, none] [] w (fun r w2 => zR 106 24 [l0, l1] (r.toList ++ st) w2 Q) := zR_call (zst zT_106_21 (zcall_v [a3, a2, a1, a0] rfl hs hk rfl))
theorem zT_106_24 : zT 106 24 = some (.return_, 1, 0, []) := by decide +kernel
theorem zr_106_24 {l0 l1 : Option zV} {w : zW} {Q : Option zV → zW → Prop} : zR 106 24 [l0, l1] [] w Q = Q none w := zR_ret (zst zT_106_24 rfl)
theorem zT_107_0 : zT 107 0 = some (.aload_n 1, 1, 0, []) := by decide +kernel
theorem zr_107_0 {l0 : Option zV} {x : Option Nat} {st : List zV} {w : zW} {Q : Option zV → zW → Prop}  : zR 107 0 [l0, some (.inr x)] st w Q = zR 107 1 [l0, some (.inr x)] (.inr x :: st) w Q := zR_go (zst zT_107_0 rfl)
theorem zT_107_1 : zT 107 1 = some (.invokevirtual 71, 3, 0, [(9, 124)]) := by decide +kernel
theorem zr_107_1 {l0 l1 : Option zV} {h : Nat} {st : List zV} {w : zW} {Q : Option zV → zW → Prop} (hs : st.length ≤ 8) (hk : zk w h = 9) : zR 107 1 [l0, l1] (.inr (some h) :: st) w Q = zR 124 0 [some (.inr (some h))] [] w (fun r w2 => zR 107 4 [l0, l1] (r.toList ++ st) w2 Q) := zR_call (zst zT_107_1 (zcall_v [] rfl hs hk rfl))
theorem zT_107_4 : zT 107 4 = some (.ifCond .eq 11, 3, 0, []) := by decide +kernel
theorem zr_107_4 {l0 l1 : Option zV} {x : Int} {st : List zV} {w : zW} {Q : Option zV → zW → Prop}  : zR 107 4 [l0, l1] (.inl x :: st) w Q = (if zN x = 0 then zR 107 15 [l0, l1] st w Q else zR 107 7 [l0, l1] st w Q) := zR_if (zstB zT_107_4 rfl) (by simp [zcmp])
theorem zT_107_7 : zT 107 7 = some (.aload_n 0, 1, 0, []) := by decide +kernel
theorem zr_107_7 {l1 : Option zV} {x : Option Nat} {st : List zV} {w : zW} {Q : Option zV → zW → Prop}  : zR 107 7 [some (.inr x), l1] st w Q = zR 107 8 [some (.inr x), l1] (.inr x :: st) w Q := zR_go (zst zT_107_7 rfl)
theorem zT_107_8 : zT 107 8 = some (.aload_n 1, 1, 0, []) := by decide +kernel
theorem zr_107_8 {l0 : Option zV} {x : Option Nat} {st : List zV} {w : zW} {Q : Option zV → zW → Prop}  : zR 107 8 [l0, some (.inr x)] st w Q = zR 107 9 [l0, some (.inr x)] (.inr x :: st) w Q := zR_go (zst zT_107_8 rfl)
theorem zT_107_9 : zT 107 9 = some (.invokevirtual 76, 3, 1, [(1, 110)]) := by decide +kernel
theorem zr_107_9 {l0 l1 : Option zV} {a0 : zV} {h : Nat} {st : List zV} {w : zW} {Q : Option zV → zW → Prop} (hs : st.length ≤ 8) (hk : zk w h = 1) : zR 107 9 [l0, l1] (a0 :: .inr (some h) :: st) w Q = zR 110 0 [some (.inr (some h)), some a0, none] [] w (fun r w2 => zR 107 12 [l0, l1] (r.toList ++ st) w2 Q) := zR_call (zst zT_107_9 (zcall_v [a0] rfl hs hk rfl))
theorem zT_107_12 : zT 107 12 = some (.goto 27, 3, 0, []) := by decide +kernel
theorem zr_107_12 {l0 l1 : Option zV} {st : List zV} {w : zW} {Q : Option zV → zW → Prop}  : zR 107 12 [l0, l1] st w Q = zR 107 39 [l0, l1] st w Q := zR_go (zst zT_107_12 rfl)
theorem zT_107_15 : zT 107 15 = some (.aload_n 1, 1, 0, []) := by decide +kernel
theorem zr_107_15 {l0 : Option zV} {x : Option Nat} {st : List zV} {w : zW} {Q : Option zV → zW → Prop}  : zR 107 15 [l0, some (.inr x)] st w Q = zR 107 16 [l0, some (.inr x)] (.inr x :: st) w Q := zR_go (zst zT_107_15 rfl)
theorem zT_107_16 : zT 107 16 = some (.getfield 80, 3, 0, [(9, 2)]) := by decide +kernel
theorem zr_107_16 {l0 l1 : Option zV} {h : Nat} {st : List zV} {w : zW} {Q : Option zV → zW → Prop} (hk : zk w h = 9) : zR 107 16 [l0, l1] (.inr (some h) :: st) w Q = zR 107 19 [l0, l1] (.inl (zf w 60 h) :: st) w Q := zR_go (zst zT_107_16 (zget_i hk (Or.inl rfl)))
theorem zT_107_19 : zT 107 19 = some (.iconst 4, 1, 0, []) := by decide +kernel
theorem zr_107_19 {l0 l1 : Option zV} {st : List zV} {w : zW} {Q : Option zV → zW → Prop}  : zR 107 19 [l0, l1] st w Q = zR 107 20 [l0, l1] (.inl 4 :: st) w Q := zR_go (zst zT_107_19 rfl)
theorem zT_107_20 : zT 107 20 = some (.if_icmp .ne 19, 3, 0, []) := by decide +kernel
theorem zr_107_20 {l0 l1 : Option zV} {x y : Int} {st : List zV} {w : zW} {Q : Option zV → zW → Prop}  : zR 107 20 [l0, l1] (.inl y :: .inl x :: st) w Q = (if zN x ≠ zN y then zR 107 39 [l0, l1] st w Q else zR 107 23 [l0, l1] st w Q) := zR_if (zstB zT_107_20 rfl) (by simp [zcmp])
theorem zT_107_23 : zT 107 23 = some (.aload_n 1, 1, 0, []) := by decide +kernel
theorem zr_107_23 {l0 : Option zV} {x : Option Nat} {st : List zV} {w : zW} {Q : Option zV → zW → Prop}  : zR 107 23 [l0, some (.inr x)] st w Q = zR 107 24 [l0, some (.inr x)] (.inr x :: st) w Q := zR_go (zst zT_107_23 rfl)
theorem zT_107_24 : zT 107 24 = some (.getfield 83, 3, 0, [(9, 3)]) := by decide +kernel
theorem zr_107_24 {l0 l1 : Option zV} {h : Nat} {st : List zV} {w : zW} {Q : Option zV → zW → Prop} (hk : zk w h = 9) : zR 107 24 [l0, l1] (.inr (some h) :: st) w Q = zR 107 27 [l0, l1] (.inr (zp w 61 h) :: st) w Q := zR_go (zst zT_107_24 (zget_r hk rfl))
theorem zT_107_27 : zT 107 27 = some (.iconst 0, 1, 0, []) := by decide +kernel
theorem zr_107_27 {l0 l1 : Option zV} {st : List zV} {w : zW} {Q : Option zV → zW → Prop}  : zR 107 27 [l0, l1] st w Q = zR 107 28 [l0, l1] (.inl 0 :: st) w Q := zR_go (zst zT_107_27 rfl)
theorem zT_107_28 : zT 107 28 = some (.iaload, 1, 0, []) := by decide +kernel
theorem zr_107_28 {l0 l1 : Option zV} {j : Int} {h : Nat} {st : List zV} {w : zW} {Q : Option zV → zW → Prop} (hk : (zk w h = zNC ∨ zk w h = zNC + 2) ∧ 0 ≤ zN j ∧ zN j < zl w h) : zR 107 28 [l0, l1] (.inl j :: .inr (some h) :: st) w Q = zR 107 29 [l0, l1] (.inl (za w h (zN j).toNat) :: st) w Q := zR_go (zst zT_107_28 (if_pos hk))
theorem zT_107_29 : zT 107 29 = some (.bipush 64, 2, 0, []) := by decide +kernel
theorem zr_107_29 {l0 l1 : Option zV} {st : List zV} {w : zW} {Q : Option zV → zW → Prop}  : zR 107 29 [l0, l1] st w Q = zR 107 31 [l0, l1] (.inl 64 :: st) w Q := zR_go (zst zT_107_29 rfl)
theorem zT_107_31 : zT 107 31 = some (.if_icmp .ne 8, 3, 0, []) := by decide +kernel
theorem zr_107_31 {l0 l1 : Option zV} {x y : Int} {st : List zV} {w : zW} {Q : Option zV → zW → Prop}  : zR 107 31 [l0, l1] (.inl y :: .inl x :: st) w Q = (if zN x ≠ zN y then zR 107 39 [l0, l1] st w Q else zR 107 34 [l0, l1] st w Q) := zR_if (zstB zT_107_31 rfl) (by simp [zcmp])
theorem zT_107_34 : zT 107 34 = some (.aload_n 0, 1, 0, []) := by decide +kernel
theorem zr_107_34 {l1 : Option zV} {x : Option Nat} {st : List zV} {w : zW} {Q : Option zV → zW → Prop}  : zR 107 34 [some (.inr x), l1] st w Q = zR 107 35 [some (.inr x), l1] (.inr x :: st) w Q := zR_go (zst zT_107_34 rfl)
theorem zT_107_35 : zT 107 35 = some (.aload_n 1, 1, 0, []) := by decide +kernel
theorem zr_107_35 {l0 : Option zV} {x : Option Nat} {st : List zV} {w : zW} {Q : Option zV → zW → Prop}  : zR 107 35 [l0, some (.inr x)] st w Q = zR 107 36 [l0, some (.inr x)] (.inr x :: st) w Q := zR_go (zst zT_107_35 rfl)
theorem zT_107_36 : zT 107 36 = some (.invokevirtual 84, 3, 1, [(1, 108)]) := by decide +kernel
theorem zr_107_36 {l0 l1 : Option zV} {a0 : zV} {h : Nat} {st : List zV} {w : zW} {Q : Option zV → zW → Prop} (hs : st.length ≤ 8) (hk : zk w h = 1) : zR 107 36 [l0, l1] (a0 :: .inr (some h) :: st) w Q = zR 108 0 [some (.inr (some h)), some a0] [] w (fun r w2 => zR 107 39 [l0, l1] (r.toList ++ st) w2 Q) := zR_call (zst zT_107_36 (zcall_v [a0] rfl hs hk rfl))
theorem zT_107_39 : zT 107 39 = some (.return_, 1, 0, []) := by decide +kernel
theorem zr_107_39 {l0 l1 : Option zV} {w : zW} {Q : Option zV → zW → Prop} : zR 107 39 [l0, l1] [] w Q = Q none w := zR_ret (zst zT_107_39 rfl)
theorem zT_108_0 : zT 108 0 = some (.aload_n 0, 1, 0, []) := by decide +kernel
theorem zr_108_0 {l1 : Option zV} {x : Option Nat} {st : List zV} {w : zW} {Q : Option zV → zW → Prop}  : zR 108 0 [some (.inr x), l1] st w Q = zR 108 1 [some (.inr x), l1] (.inr x :: st) w Q := zR_go (zst zT_108_0 rfl)
theorem zT_108_1 : zT 108 1 = some (.getfield 15, 3, 0, [(1, 1)]) := by decide +kernel
theorem zr_108_1 {l0 l1 : Option zV} {h : Nat} {st : List zV} {w : zW} {Q : Option zV → zW → Prop} (hk : zk w h = 1) : zR 108 1 [l0, l1] (.inr (some h) :: st) w Q = zR 108 4 [l0, l1] (.inr (zp w 7 h) :: st) w Q := zR_go (zst zT_108_1 (zget_r hk rfl))
theorem zT_108_4 : zT 108 4 = some (.aload_n 0, 1, 0, []) := by decide +kernel
theorem zr_108_4 {l1 : Option zV} {x : Option Nat} {st : List zV} {w : zW} {Q : Option zV → zW → Prop}  : zR 108 4 [some (.inr x), l1] st w Q = zR 108 5 [some (.inr x), l1] (.inr x :: st) w Q := zR_go (zst zT_108_4 rfl)
theorem zT_108_5 : zT 108 5 = some (.getfield 87, 3, 0, [(1, 5)]) := by decide +kernel
theorem zr_108_5 {l0 l1 : Option zV} {h : Nat} {st : List zV} {w : zW} {Q : Option zV → zW → Prop} (hk : zk w h = 1) : zR 108 5 [l0, l1] (.inr (some h) :: st) w Q = zR 108 8 [l0, l1] (.inl (zf w 11 h) :: st) w Q := zR_go (zst zT_108_5 (zget_i hk (Or.inl rfl)))
theorem zT_108_8 : zT 108 8 = some (.aload_n 1, 1, 0, []) := by decide +kernel
theorem zr_108_8 {l0 : Option zV} {x : Option Nat} {st : List zV} {w : zW} {Q : Option zV → zW → Prop}  : zR 108 8 [l0, some (.inr x)] st w Q = zR 108 9 [l0, some (.inr x)] (.inr x :: st) w Q := zR_go (zst zT_108_8 rfl)
theorem zT_108_9 : zT 108 9 = some (.getfield 90, 3, 0, [(9, 0)]) := by decide +kernel
theorem zr_108_9 {l0 l1 : Option zV} {h : Nat} {st : List zV} {w : zW} {Q : Option zV → zW → Prop} (hk : zk w h = 9) : zR 108 9 [l0, l1] (.inr (some h) :: st) w Q = zR 108 12 [l0, l1] (.inl (zf w 58 h) :: st) w Q := zR_go (zst zT_108_9 (zget_i hk (Or.inl rfl)))
theorem zT_108_12 : zT 108 12 = some (.iastore, 1, 0, []) := by decide +kernel
theorem zr_108_12 {l0 l1 : Option zV} {j x : Int} {h : Nat} {st : List zV} {w : zW} {Q : Option zV → zW → Prop} (hk : zk w h = zNC ∧ 0 ≤ zN j ∧ zN j < zl w h) : zR 108 12 [l0, l1] (.inl x :: .inl j :: .inr (some h) :: st) w Q = zR 108 13 [l0, l1] st (zsa w h (zN j).toNat x) Q := zR_go (zst zT_108_12 (if_pos hk))
theorem zT_108_13 : zT 108 13 = some (.aload_n 0, 1, 0, []) := by decide +kernel
theorem zr_108_13 {l1 : Option zV} {x : Option Nat} {st : List zV} {w : zW} {Q : Option zV → zW → Prop}  : zR 108 13 [some (.inr x), l1] st w Q = zR 108 14 [some (.inr x), l1] (.inr x :: st) w Q := zR_go (zst zT_108_13 rfl)
theorem zT_108_14 : zT 108 14 = some (.getfield 18, 3, 0, [(1, 2)]) := by decide +kernel
theorem zr_108_14 {l0 l1 : Option zV} {h : Nat} {st : List zV} {w : zW} {Q : Option zV → zW → Prop} (hk : zk w h = 1) : zR 108 14 [l0, l1] (.inr (some h) :: st) w Q = zR 108 17 [l0, l1] (.inr (zp w 8 h) :: st) w Q := zR_go (zst zT_108_14 (zget_r hk rfl))
theorem zT_108_17 : zT 108 17 = some (.aload_n 0, 1, 0, []) := by decide +kernel
theorem zr_108_17 {l1 : Option zV} {x : Option Nat} {st : List zV} {w : zW} {Q : Option zV → zW → Prop}  : zR 108 17 [some (.inr x), l1] st w Q = zR 108 18 [some (.inr x), l1] (.inr x :: st) w Q := zR_go (zst zT_108_17 rfl)
theorem zT_108_18 : zT 108 18 = some (.getfield 87, 3, 0, [(1, 5)]) := by decide +kernel
theorem zr_108_18 {l0 l1 : Option zV} {h : Nat} {st : List zV} {w : zW} {Q : Option zV → zW → Prop} (hk : zk w h = 1) : zR 108 18 [l0, l1] (.inr (some h) :: st) w Q = zR 108 21 [l0, l1] (.inl (zf w 11 h) :: st) w Q := zR_go (zst zT_108_18 (zget_i hk (Or.inl rfl)))
theorem zT_108_21 : zT 108 21 = some (.aload_n 1, 1, 0, []) := by decide +kernel
theorem zr_108_21 {l0 : Option zV} {x : Option Nat} {st : List zV} {w : zW} {Q : Option zV → zW → Prop}  : zR 108 21 [l0, some (.inr x)] st w Q = zR 108 22 [l0, some (.inr x)] (.inr x :: st) w Q := zR_go (zst zT_108_21 rfl)
theorem zT_108_22 : zT 108 22 = some (.getfield 83, 3, 0, [(9, 3)]) := by decide +kernel
theorem zr_108_22 {l0 l1 : Option zV} {h : Nat} {st : List zV} {w : zW} {Q : Option zV → zW → Prop} (hk : zk w h = 9) : zR 108 22 [l0, l1] (.inr (some h) :: st) w Q = zR 108 25 [l0, l1] (.inr (zp w 61 h) :: st) w Q := zR_go (zst zT_108_22 (zget_r hk rfl))
theorem zT_108_25 : zT 108 25 = some (.iconst 1, 1, 0, []) := by decide +kernel
theorem zr_108_25 {l0 l1 : Option zV} {st : List zV} {w : zW} {Q : Option zV → zW → Prop}  : zR 108 25 [l0, l1] st w Q = zR 108 26 [l0, l1] (.inl 1 :: st) w Q := zR_go (zst zT_108_25 rfl)
theorem zT_108_26 : zT 108 26 = some (.iaload, 1, 0, []) := by decide +kernel
theorem zr_108_26 {l0 l1 : Option zV} {j : Int} {h : Nat} {st : List zV} {w : zW} {Q : Option zV → zW → Prop} (hk : (zk w h = zNC ∨ zk w h = zNC + 2) ∧ 0 ≤ zN j ∧ zN j < zl w h) : zR 108 26 [l0, l1] (.inl j :: .inr (some h) :: st) w Q = zR 108 27 [l0, l1] (.inl (za w h (zN j).toNat) :: st) w Q := zR_go (zst zT_108_26 (if_pos hk))
theorem zT_108_27 : zT 108 27 = some (.iastore, 1, 0, []) := by decide +kernel
theorem zr_108_27 {l0 l1 : Option zV} {j x : Int} {h : Nat} {st : List zV} {w : zW} {Q : Option zV → zW → Prop} (hk : zk w h = zNC ∧ 0 ≤ zN j ∧ zN j < zl w h) : zR 108 27 [l0, l1] (.inl x :: .inl j :: .inr (some h) :: st) w Q = zR 108 28 [l0, l1] st (zsa w h (zN j).toNat x) Q := zR_go (zst zT_108_27 (if_pos hk))
theorem zT_108_28 : zT 108 28 = some (.aload_n 0, 1, 0, []) := by decide +kernel
theorem zr_108_28 {l1 : Option zV} {x : Option Nat} {st : List zV} {w : zW} {Q : Option zV → zW → Prop}  : zR 108 28 [some (.inr x), l1] st w Q = zR 108 29 [some (.inr x), l1] (.inr x :: st) w Q := zR_go (zst zT_108_28 rfl)
theorem zT_108_29 : zT 108 29 = some (.getfield 21, 3, 0, [(1, 3)]) := by decide +kernel
theorem zr_108_29 {l0 l1 : Option zV} {h : Nat} {st : List zV} {w : zW} {Q : Option zV → zW → Prop} (hk : zk w h = 1) : zR 108 29 [l0, l1] (.inr (some h) :: st) w Q = zR 108 32 [l0, l1] (.inr (zp w 9 h) :: st) w Q := zR_go (zst zT_108_29 (zget_r hk rfl))
theorem zT_108_32 : zT 108 32 = some (.aload_n 0, 1, 0, []) := by decide +kernel
theorem zr_108_32 {l1 : Option zV} {x : Option Nat} {st : List zV} {w : zW} {Q : Option zV → zW → Prop}  : zR 108 32 [some (.inr x), l1] st w Q = zR 108 33 [some (.inr x), l1] (.inr x :: st) w Q := zR_go (zst zT_108_32 rfl)
theorem zT_108_33 : zT 108 33 = some (.getfield 87, 3, 0, [(1, 5)]) := by decide +kernel
theorem zr_108_33 {l0 l1 : Option zV} {h : Nat} {st : List zV} {w : zW} {Q : Option zV → zW → Prop} (hk : zk w h = 1) : zR 108 33 [l0, l1] (.inr (some h) :: st) w Q = zR 108 36 [l0, l1] (.inl (zf w 11 h) :: st) w Q := zR_go (zst zT_108_33 (zget_i hk (Or.inl rfl)))
theorem zT_108_36 : zT 108 36 = some (.aload_n 1, 1, 0, []) := by decide +kernel
theorem zr_108_36 {l0 : Option zV} {x : Option Nat} {st : List zV} {w : zW} {Q : Option zV → zW → Prop}  : zR 108 36 [l0, some (.inr x)] st w Q = zR 108 37 [l0, some (.inr x)] (.inr x :: st) w Q := zR_go (zst zT_108_36 rfl)
theorem zT_108_37 : zT 108 37 = some (.getfield 83, 3, 0, [(9, 3)]) := by decide +kernel
theorem zr_108_37 {l0 l1 : Option zV} {h : Nat} {st : List zV} {w : zW} {Q : Option zV → zW → Prop} (hk : zk w h = 9) : zR 108 37 [l0, l1] (.inr (some h) :: st) w Q = zR 108 40 [l0, l1] (.inr (zp w 61 h) :: st) w Q := zR_go (zst zT_108_37 (zget_r hk rfl))
theorem zT_108_40 : zT 108 40 = some (.iconst 2, 1, 0, []) := by decide +kernel
theorem zr_108_40 {l0 l1 : Option zV} {st : List zV} {w : zW} {Q : Option zV → zW → Prop}  : zR 108 40 [l0, l1] st w Q = zR 108 41 [l0, l1] (.inl 2 :: st) w Q := zR_go (zst zT_108_40 rfl)
theorem zT_108_41 : zT 108 41 = some (.iaload, 1, 0, []) := by decide +kernel
theorem zr_108_41 {l0 l1 : Option zV} {j : Int} {h : Nat} {st : List zV} {w : zW} {Q : Option zV → zW → Prop} (hk : (zk w h = zNC ∨ zk w h = zNC + 2) ∧ 0 ≤ zN j ∧ zN j < zl w h) : zR 108 41 [l0, l1] (.inl j :: .inr (some h) :: st) w Q = zR 108 42 [l0, l1] (.inl (za w h (zN j).toNat) :: st) w Q := zR_go (zst zT_108_41 (if_pos hk))
theorem zT_108_42 : zT 108 42 = some (.aload_n 1, 1, 0, []) := by decide +kernel
theorem zr_108_42 {l0 : Option zV} {x : Option Nat} {st : List zV} {w : zW} {Q : Option zV → zW → Prop}  : zR 108 42 [l0, some (.inr x)] st w Q = zR 108 43 [l0, some (.inr x)] (.inr x :: st) w Q := zR_go (zst zT_108_42 rfl)
theorem zT_108_43 : zT 108 43 = some (.getfield 83, 3, 0, [(9, 3)]) := by decide +kernel
theorem zr_108_43 {l0 l1 : Option zV} {h : Nat} {st : List zV} {w : zW} {Q : Option zV → zW → Prop} (hk : zk w h = 9) : zR 108 43 [l0, l1] (.inr (some h) :: st) w Q = zR 108 46 [l0, l1] (.inr (zp w 61 h) :: st) w Q := zR_go (zst zT_108_43 (zget_r hk rfl))
theorem zT_108_46 : zT 108 46 = some (.iconst 3, 1, 0, []) := by decide +kernel
theorem zr_108_46 {l0 l1 : Option zV} {st : List zV} {w : zW} {Q : Option zV → zW → Prop}  : zR 108 46 [l0, l1] st w Q = zR 108 47 [l0, l1] (.inl 3 :: st) w Q := zR_go (zst zT_108_46 rfl)
theorem zT_108_47 : zT 108 47 = some (.iaload, 1, 0, []) := by decide +kernel
theorem zr_108_47 {l0 l1 : Option zV} {j : Int} {h : Nat} {st : List zV} {w : zW} {Q : Option zV → zW → Prop} (hk : (zk w h = zNC ∨ zk w h = zNC + 2) ∧ 0 ≤ zN j ∧ zN j < zl w h) : zR 108 47 [l0, l1] (.inl j :: .inr (some h) :: st) w Q = zR 108 48 [l0, l1] (.inl (za w h (zN j).toNat) :: st) w Q := zR_go (zst zT_108_47 (if_pos hk))
theorem zT_108_48 : zT 108 48 = some (.invokestatic 93, 3, 2, [(22, 1)]) := by decide +kernel
theorem zr_108_48 {l0 l1 : Option zV} {a0 a1 : zV} {st : List zV} {w : zW} {Q : Option zV → zW → Prop} (hs : st.length ≤ 8) : zR 108 48 [l0, l1] (a1 :: a0 :: st) w Q = zR 22 0 [some a0, some a1] [] w (fun r w2 => zR 108 51 [l0, l1] (r.toList ++ st) w2 Q) := zR_call (zst zT_108_48 ((zcall_s (z := 2) (pc := 48) (j := 22) (ls := [l0, l1]) (w := w) [a1, a0] rfl hs : zi_static 2 [(22, 1)] 48 [l0, l1] ([a1, a0] ++ st) w = _)))
theorem zT_108_51 : zT 108 51 = some (.iastore, 1, 0, []) := by decide +kernel
theorem zr_108_51 {l0 l1 : Option zV} {j x : Int} {h : Nat} {st : List zV} {w : zW} {Q : Option zV → zW → Prop} (hk : zk w h = zNC ∧ 0 ≤ zN j ∧ zN j < zl w h) : zR 108 51 [l0, l1] (.inl x :: .inl j :: .inr (some h) :: st) w Q = zR 108 52 [l0, l1] st (zsa w h (zN j).toNat x) Q := zR_go (zst zT_108_51 (if_pos hk))
theorem zT_108_52 : zT 108 52 = some (.aload_n 0, 1, 0, []) := by decide +kernel
theorem zr_108_52 {l1 : Option zV} {x : Option Nat} {st : List zV} {w : zW} {Q : Option zV → zW → Prop}  : zR 108 52 [some (.inr x), l1] st w Q = zR 108 53 [some (.inr x), l1] (.inr x :: st) w Q := zR_go (zst zT_108_52 rfl)
theorem zT_108_53 : zT 108 53 = some (.aload_n 0, 1, 0, []) := by decide +kernel
theorem zr_108_53 {l1 : Option zV} {x : Option Nat} {st : List zV} {w : zW} {Q : Option zV → zW → Prop}  : zR 108 53 [some (.inr x), l1] st w Q = zR 108 54 [some (.inr x), l1] (.inr x :: st) w Q := zR_go (zst zT_108_53 rfl)
theorem zT_108_54 : zT 108 54 = some (.getfield 87, 3, 0, [(1, 5)]) := by decide +kernel
theorem zr_108_54 {l0 l1 : Option zV} {h : Nat} {st : List zV} {w : zW} {Q : Option zV → zW → Prop} (hk : zk w h = 1) : zR 108 54 [l0, l1] (.inr (some h) :: st) w Q = zR 108 57 [l0, l1] (.inl (zf w 11 h) :: st) w Q := zR_go (zst zT_108_54 (zget_i hk (Or.inl rfl)))
theorem zT_108_57 : zT 108 57 = some (.iconst 1, 1, 0, []) := by decide +kernel
theorem zr_108_57 {l0 l1 : Option zV} {st : List zV} {w : zW} {Q : Option zV → zW → Prop}  : zR 108 57 [l0, l1] st w Q = zR 108 58 [l0, l1] (.inl 1 :: st) w Q := zR_go (zst zT_108_57 rfl)
theorem zT_108_58 : zT 108 58 = some (.iadd, 1, 0, []) := by decide +kernel
theorem zr_108_58 {l0 l1 : Option zV} {x y : Int} {st : List zV} {w : zW} {Q : Option zV → zW → Prop}  : zR 108 58 [l0, l1] (.inl y :: .inl x :: st) w Q = zR 108 59 [l0, l1] (.inl (x + y) :: st) w Q := zR_go (zst zT_108_58 rfl)
theorem zT_108_59 : zT 108 59 = some (.bipush 16, 2, 0, []) := by decide +kernel
theorem zr_108_59 {l0 l1 : Option zV} {st : List zV} {w : zW} {Q : Option zV → zW → Prop}  : zR 108 59 [l0, l1] st w Q = zR 108 61 [l0, l1] (.inl 16 :: st) w Q := zR_go (zst zT_108_59 rfl)
theorem zT_108_61 : zT 108 61 = some (.irem, 1, 0, []) := by decide +kernel
theorem zr_108_61 {l0 l1 : Option zV} {x y : Int} {st : List zV} {w : zW} {Q : Option zV → zW → Prop} (hy : ¬ zN y = 0) : zR 108 61 [l0, l1] (.inl y :: .inl x :: st) w Q = zR 108 62 [l0, l1] (.inl (zo_rem x y) :: st) w Q := zR_go (zst zT_108_61 (if_neg hy))
theorem zT_108_62 : zT 108 62 = some (.putfield 87, 3, 0, [(1, 5)]) := by decide +kernel
theorem zr_108_62 {l0 l1 : Option zV} {h : Nat} {x : Int} {st : List zV} {w : zW} {Q : Option zV → zW → Prop} (hk : zk w h = 1) : zR 108 62 [l0, l1] (.inl x :: .inr (some h) :: st) w Q = zR 108 65 [l0, l1] st (zsf w 11 h x) Q := zR_go (zst zT_108_62 (zput_i hk rfl))
theorem zT_108_65 : zT 108 65 = some (.aload_n 0, 1, 0, []) := by decide +kernel
theorem zr_108_65 {l1 : Option zV} {x : Option Nat} {st : List zV} {w : zW} {Q : Option zV → zW → Prop}  : zR 108 65 [some (.inr x), l1] st w Q = zR 108 66 [some (.inr x), l1] (.inr x :: st) w Q := zR_go (zst zT_108_65 rfl)
theorem zT_108_66 : zT 108 66 = some (.aload_n 0, 1, 0, []) := by decide +kernel
theorem zr_108_66 {l1 : Option zV} {x : Option Nat} {st : List zV} {w : zW} {Q : Option zV → zW → Prop}  : zR 108 66 [some (.inr x), l1] st w Q = zR 108 67 [some (.inr x), l1] (.inr x :: st) w Q := zR_go (zst zT_108_66 rfl)
theorem zT_108_67 : zT 108 67 = some (.getfield 97, 3, 0, [(1, 4)]) := by decide +kernel
theorem zr_108_67 {l0 l1 : Option zV} {h : Nat} {st : List zV} {w : zW} {Q : Option zV → zW → Prop} (hk : zk w h = 1) : zR 108 67 [l0, l1] (.inr (some h) :: st) w Q = zR 108 70 [l0, l1] (.inl (zf w 10 h) :: st) w Q := zR_go (zst zT_108_67 (zget_i hk (Or.inl rfl)))
theorem zT_108_70 : zT 108 70 = some (.iconst 1, 1, 0, []) := by decide +kernel
theorem zr_108_70 {l0 l1 : Option zV} {st : List zV} {w : zW} {Q : Option zV → zW → Prop}  : zR 108 70 [l0, l1] st w Q = zR 108 71 [l0, l1] (.inl 1 :: st) w Q := zR_go (zst zT_108_70 rfl)
theorem zT_108_71 : zT 108 71 = some (.iadd, 1, 0, []) := by decide +kernel
theorem zr_108_71 {l0 l1 : Option zV} {x y : Int} {st : List zV} {w : zW} {Q : Option zV → zW → Prop}  : zR 108 71 [l0, l1] (.inl y :: .inl x :: st) w Q = zR 108 72 [l0, l1] (.inl (x + y) :: st) w Q := zR_go (zst zT_108_71 rfl)
theorem zT_108_72 : zT 108 72 = some (.bipush 16, 2, 0, []) := by decide +kernel
theorem zr_108_72 {l0 l1 : Option zV} {st : List zV} {w : zW} {Q : Option zV → zW → Prop}  : zR 108 72 [l0, l1] st w Q = zR 108 74 [l0, l1] (.inl 16 :: st) w Q := zR_go (zst zT_108_72 rfl)
theorem zT_108_74 : zT 108 74 = some (.invokestatic 100, 3, 2, [(1, 0)]) := by decide +kernel
theorem zr_108_74 {l0 l1 : Option zV} {x y : Int} {st : List zV} {w : zW} {Q : Option zV → zW → Prop} (hk : st.length ≤ 8) : zR 108 74 [l0, l1] (.inl y :: .inl x :: st) w Q = zR 108 77 [l0, l1] (.inl (if zN y < zN x then y else x) :: st) w Q := zR_go (zst zT_108_74 (if_pos hk))
theorem zT_108_77 : zT 108 77 = some (.putfield 97, 3, 0, [(1, 4)]) := by decide +kernel
theorem zr_108_77 {l0 l1 : Option zV} {h : Nat} {x : Int} {st : List zV} {w : zW} {Q : Option zV → zW → Prop} (hk : zk w h = 1) : zR 108 77 [l0, l1] (.inl x :: .inr (some h) :: st) w Q = zR 108 80 [l0, l1] st (zsf w 10 h x) Q := zR_go (zst zT_108_77 (zput_i hk rfl))
theorem zT_108_80 : zT 108 80 = some (.return_, 1, 0, []) := by decide +kernel
theorem zr_108_80 {l0 l1 : Option zV} {w : zW} {Q : Option zV → zW → Prop} : zR 108 80 [l0, l1] [] w Q = Q none w := zR_ret (zst zT_108_80 rfl)
theorem zT_109_0 : zT 109 0 = some (.aload_n 0, 1, 0, []) := by decide +kernel
theorem zr_109_0 {l1 : Option zV} {x : Option Nat} {st : List zV} {w : zW} {Q : Option zV → zW → Prop}  : zR 109 0 [some (.inr x), l1] st w Q = zR 109 1 [some (.inr x), l1] (.inr x :: st) w Q := zR_go (zst zT_109_0 rfl)
theorem zT_109_1 : zT 109 1 = some (.getfield 87, 3, 0, [(1, 5)]) := by decide +kernel
theorem zr_109_1 {l0 l1 : Option zV} {h : Nat} {st : List zV} {w : zW} {Q : Option zV → zW → Prop} (hk : zk w h = 1) : zR 109 1 [l0, l1] (.inr (some h) :: st) w Q = zR 109 4 [l0, l1] (.inl (zf w 11 h) :: st) w Q := zR_go (zst zT_109_1 (zget_i hk (Or.inl rfl)))
theorem zT_109_4 : zT 109 4 = some (.iconst 1, 1, 0, []) := by decide +kernel
theorem zr_109_4 {l0 l1 : Option zV} {st : List zV} {w : zW} {Q : Option zV → zW → Prop}  : zR 109 4 [l0, l1] st w Q = zR 109 5 [l0, l1] (.inl 1 :: st) w Q := zR_go (zst zT_109_4 rfl)
theorem zT_109_5 : zT 109 5 = some (.isub, 1, 0, []) := by decide +kernel
theorem zr_109_5 {l0 l1 : Option zV} {x y : Int} {st : List zV} {w : zW} {Q : Option zV → zW → Prop}  : zR 109 5 [l0, l1] (.inl y :: .inl x :: st) w Q = zR 109 6 [l0, l1] (.inl (x - y) :: st) w Q := zR_go (zst zT_109_5 rfl)
theorem zT_109_6 : zT 109 6 = some (.iload_n 1, 1, 0, []) := by decide +kernel
theorem zr_109_6 {l0 : Option zV} {x : Int} {st : List zV} {w : zW} {Q : Option zV → zW → Prop}  : zR 109 6 [l0, some (.inl x)] st w Q = zR 109 7 [l0, some (.inl x)] (.inl x :: st) w Q := zR_go (zst zT_109_6 rfl)
theorem zT_109_7 : zT 109 7 = some (.isub, 1, 0, []) := by decide +kernel
theorem zr_109_7 {l0 l1 : Option zV} {x y : Int} {st : List zV} {w : zW} {Q : Option zV → zW → Prop}  : zR 109 7 [l0, l1] (.inl y :: .inl x :: st) w Q = zR 109 8 [l0, l1] (.inl (x - y) :: st) w Q := zR_go (zst zT_109_7 rfl)
theorem zT_109_8 : zT 109 8 = some (.bipush 32, 2, 0, []) := by decide +kernel
theorem zr_109_8 {l0 l1 : Option zV} {st : List zV} {w : zW} {Q : Option zV → zW → Prop}  : zR 109 8 [l0, l1] st w Q = zR 109 10 [l0, l1] (.inl 32 :: st) w Q := zR_go (zst zT_109_8 rfl)
theorem zT_109_10 : zT 109 10 = some (.iadd, 1, 0, []) := by decide +kernel
theorem zr_109_10 {l0 l1 : Option zV} {x y : Int} {st : List zV} {w : zW} {Q : Option zV → zW → Prop}  : zR 109 10 [l0, l1] (.inl y :: .inl x :: st) w Q = zR 109 11 [l0, l1] (.inl (x + y) :: st) w Q := zR_go (zst zT_109_10 rfl)
theorem zT_109_11 : zT 109 11 = some (.bipush 16, 2, 0, []) := by decide +kernel
theorem zr_109_11 {l0 l1 : Option zV} {st : List zV} {w : zW} {Q : Option zV → zW → Prop}  : zR 109 11 [l0, l1] st w Q = zR 109 13 [l0, l1] (.inl 16 :: st) w Q := zR_go (zst zT_109_11 rfl)
theorem zT_109_13 : zT 109 13 = some (.irem, 1, 0, []) := by decide +kernel
theorem zr_109_13 {l0 l1 : Option zV} {x y : Int} {st : List zV} {w : zW} {Q : Option zV → zW → Prop} (hy : ¬ zN y = 0) : zR 109 13 [l0, l1] (.inl y :: .inl x :: st) w Q = zR 109 14 [l0, l1] (.inl (zo_rem x y) :: st) w Q := zR_go (zst zT_109_13 (if_neg hy))
theorem zT_109_14 : zT 109 14 = some (.ireturn, 1, 0, []) := by decide +kernel
theorem zr_109_14 {l0 l1 : Option zV} {x : Int} {w : zW} {Q : Option zV → zW → Prop}  : zR 109 14 [l0, l1] [.inl x] w Q = Q (some (.inl x)) w := zR_ret (zst zT_109_14 rfl)
theorem zT_110_0 : zT 110 0 = some (.iconst 0, 1, 0, []) := by decide +kernel
theorem zr_110_0 {l0 l1 l2 : Option zV} {st : List zV} {w : zW} {Q : Option zV → zW → Prop}  : zR 110 0 [l0, l1, l2] st w Q = zR 110 1 [l0, l1, l2] (.inl 0 :: st) w Q := zR_go (zst zT_110_0 rfl)
theorem zT_110_1 : zT 110 1 = some (.istore_n 2, 1, 0, []) := by decide +kernel
theorem zr_110_1 {l0 l1 l2 : Option zV} {x : Int} {st : List zV} {w : zW} {Q : Option zV → zW → Prop}  : zR 110 1 [l0, l1, l2] (.inl x :: st) w Q = zR 110 2 [l0, l1, some (.inl x)] st w Q := zR_go (zst zT_110_1 rfl)
theorem zT_110_2 : zT 110 2 = some (.iload_n 2, 1, 0, []) := by decide +kernel
theorem zr_110_2 {l0 l1 : Option zV} {x : Int} {st : List zV} {w : zW} {Q : Option zV → zW → Prop}  : zR 110 2 [l0, l1, some (.inl x)] st w Q = zR 110 3 [l0, l1, some (.inl x)] (.inl x :: st) w Q := zR_go (zst zT_110_2 rfl)
theorem zT_110_3 : zT 110 3 = some (.aload_n 0, 1, 0, []) := by decide +kernel
theorem zr_110_3 {l1 l2 : Option zV} {x : Option Nat} {st : List zV} {w : zW} {Q : Option zV → zW → Prop}  : zR 110 3 [some (.inr x), l1, l2] st w Q = zR 110 4 [some (.inr x), l1, l2] (.inr x :: st) w Q := zR_go (zst zT_110_3 rfl)
theorem zT_110_4 : zT 110 4 = some (.getfield 40, 3, 0, [(1, 7)]) := by decide +kernel
theorem zr_110_4 {l0 l1 l2 : Option zV} {h : Nat} {st : List zV} {w : zW} {Q : Option zV → zW → Prop} (hk : zk w h = 1) : zR 110 4 [l0, l1, l2] (.inr (some h) :: st) w Q = zR 110 7 [l0, l1, l2] (.inl (zf w 13 h) :: st) w Q := zR_go (zst zT_110_4 (zget_i hk (Or.inl rfl)))
theorem zT_110_7 : zT 110 7 = some (.if_icmp .ge 33, 3, 0, []) := by decide +kernel
theorem zr_110_7 {l0 l1 l2 : Option zV} {x y : Int} {st : List zV} {w : zW} {Q : Option zV → zW → Prop}  : zR 110 7 [l0, l1, l2] (.inl y :: .inl x :: st) w Q = (if zN y ≤ zN x then zR 110 40 [l0, l1, l2] st w Q else zR 110 10 [l0, l1, l2] st w Q) := zR_if (zstB zT_110_7 rfl) (by simp [zcmp])
theorem zT_110_10 : zT 110 10 = some (.aload_n 0, 1, 0, []) := by decide +kernel
theorem zr_110_10 {l1 l2 : Option zV} {x : Option Nat} {st : List zV} {w : zW} {Q : Option zV → zW → Prop}  : zR 110 10 [some (.inr x), l1, l2] st w Q = zR 110 11 [some (.inr x), l1, l2] (.inr x :: st) w Q := zR_go (zst zT_110_10 rfl)
theorem zT_110_11 : zT 110 11 = some (.getfield 26, 3, 0, [(1, 6)]) := by decide +kernel
theorem zr_110_11 {l0 l1 l2 : Option zV} {h : Nat} {st : List zV} {w : zW} {Q : Option zV → zW → Prop} (hk : zk w h = 1) : zR 110 11 [l0, l1, l2] (.inr (some h) :: st) w Q = zR 110 14 [l0, l1, l2] (.inr (zp w 12 h) :: st) w Q := zR_go (zst zT_110_11 (zget_r hk rfl))
theorem zT_110_14 : zT 110 14 = some (.iload_n 2, 1, 0, []) := by decide +kernel
theorem zr_110_14 {l0 l1 : Option zV} {x : Int} {st : List zV} {w : zW} {Q : Option zV → zW → Prop}  : zR 110 14 [l0, l1, some (.inl x)] st w Q = zR 110 15 [l0, l1, some (.inl x)] (.inl x :: st) w Q := zR_go (zst zT_110_14 rfl)
theorem zT_110_15 : zT 110 15 = some (.aaload, 1, 0, []) := by decide +kernel
theorem zr_110_15 {l0 l1 l2 : Option zV} {j : Int} {h : Nat} {st : List zV} {w : zW} {Q : Option zV → zW → Prop} (hk : zNC + 2 < zk w h ∧ zk w h < 1000 ∧ 0 ≤ zN j ∧ zN j < zl w h) : zR 110 15 [l0, l1, l2] (.inl j :: .inr (some h) :: st) w Q = zR 110 16 [l0, l1, l2] (.inr (zb w h (zN j).toNat) :: st) w Q := zR_go (zst zT_110_15 (if_pos hk))
theorem zT_110_16 : zT 110 16 = some (.aload_n 1, 1, 0, []) := by decide +kernel
theorem zr_110_16 {l0 l2 : Option zV} {x : Option Nat} {st : List zV} {w : zW} {Q : Option zV → zW → Prop}  : zR 110 16 [l0, some (.inr x), l2] st w Q = zR 110 17 [l0, some (.inr x), l2] (.inr x :: st) w Q := zR_go (zst zT_110_16 rfl)
theorem zT_110_17 : zT 110 17 = some (.invokevirtual 105, 3, 1, [(10, 136)]) := by decide +kernel
theorem zr_110_17 {l0 l1 l2 : Option zV} {a0 : zV} {h : Nat} {st : List zV} {w : zW} {Q : Option zV → zW → Prop} (hs : st.length ≤ 8) (hk : zk w h = 10) : zR 110 17 [l0, l1, l2] (a0 :: .inr (some h) :: st) w Q = zR 136 0 [some (.inr (some h)), some a0] [] w (fun r w2 => zR 110 20 [l0, l1, l2] (r.toList ++ st) w2 Q) := zR_call (zst zT_110_17 (zcall_v [a0] rfl hs hk rfl))
theorem zT_110_20 : zT 110 20 = some (.ifCond .eq 14, 3, 0, []) := by decide +kernel
theorem zr_110_20 {l0 l1 l2 : Option zV} {x : Int} {st : List zV} {w : zW} {Q : Option zV → zW → Prop}  : zR 110 20 [l0, l1, l2] (.inl x :: st) w Q = (if zN x = 0 then zR 110 34 [l0, l1, l2] st w Q else zR 110 23 [l0, l1, l2] st w Q) := zR_if (zstB zT_110_20 rfl) (by simp [zcmp])
theorem zT_110_23 : zT 110 23 = some (.aload_n 0, 1, 0, []) := by decide +kernel
theorem zr_110_23 {l1 l2 : Option zV} {x : Option Nat} {st : List zV} {w : zW} {Q : Option zV → zW → Prop}  : zR 110 23 [some (.inr x), l1, l2] st w Q = zR 110 24 [some (.inr x), l1, l2] (.inr x :: st) w Q := zR_go (zst zT_110_23 rfl)
theorem zT_110_24 : zT 110 24 = some (.getfield 26, 3, 0, [(1, 6)]) := by decide +kernel
theorem zr_110_24 {l0 l1 l2 : Option zV} {h : Nat} {st : List zV} {w : zW} {Q : Option zV → zW → Prop} (hk : zk w h = 1) : zR 110 24 [l0, l1, l2] (.inr (some h) :: st) w Q = zR 110 27 [l0, l1, l2] (.inr (zp w 12 h) :: st) w Q := zR_go (zst zT_110_24 (zget_r hk rfl))
theorem zT_110_27 : zT 110 27 = some (.iload_n 2, 1, 0, []) := by decide +kernel
theorem zr_110_27 {l0 l1 : Option zV} {x : Int} {st : List zV} {w : zW} {Q : Option zV → zW → Prop}  : zR 110 27 [l0, l1, some (.inl x)] st w Q = zR 110 28 [l0, l1, some (.inl x)] (.inl x :: st) w Q := zR_go (zst zT_110_27 rfl)
theorem zT_110_28 : zT 110 28 = some (.aaload, 1, 0, []) := by decide +kernel
theorem zr_110_28 {l0 l1 l2 : Option zV} {j : Int} {h : Nat} {st : List zV} {w : zW} {Q : Option zV → zW → Prop} (hk : zNC + 2 < zk w h ∧ zk w h < 1000 ∧ 0 ≤ zN j ∧ zN j < zl w h) : zR 110 28 [l0, l1, l2] (.inl j :: .inr (some h) :: st) w Q = zR 110 29 [l0, l1, l2] (.inr (zb w h (zN j).toNat) :: st) w Q := zR_go (zst zT_110_28 (if_pos hk))
theorem zT_110_29 : zT 110 29 = some (.aload_n 1, 1, 0, []) := by decide +kernel
theorem zr_110_29 {l0 l2 : Option zV} {x : Option Nat} {st : List zV} {w : zW} {Q : Option zV → zW → Prop}  : zR 110 29 [l0, some (.inr x), l2] st w Q = zR 110 30 [l0, some (.inr x), l2] (.inr x :: st) w Q := zR_go (zst zT_110_29 rfl)
theorem zT_110_30 : zT 110 30 = some (.invokevirtual 109, 3, 1, [(10, 137)]) := by decide +kernel
theorem zr_110_30 {l0 l1 l2 : Option zV} {a0 : zV} {h : Nat} {st : List zV} {w : zW} {Q : Option zV → zW → Prop} (hs : st.length ≤ 8) (hk : zk w h = 10) : zR 110 30 [l0, l1, l2] (a0 :: .inr (some h) :: st) w Q = zR 137 0 [some (.inr (some h)), some a0] [] w (fun r w2 => zR 110 33 [l0, l1, l2] (r.toList ++ st) w2 Q) := zR_call (zst zT_110_30 (zcall_v [a0] rfl hs hk rfl))
theorem zT_110_33 : zT 110 33 = some (.return_, 1, 0, []) := by decide +kernel
theorem zr_110_33 {l0 l1 l2 : Option zV} {w : zW} {Q : Option zV → zW → Prop} : zR 110 33 [l0, l1, l2] [] w Q = Q none w := zR_ret (zst zT_110_33 rfl)
theorem zT_110_34 : zT 110 34 = some (.iinc 2 1, 3, 0, []) := by decide +kernel
theorem zr_110_34 {l0 l1 : Option zV} {x : Int} {st : List zV} {w : zW} {Q : Option zV → zW → Prop}  : zR 110 34 [l0, l1, some (.inl x)] st w Q = zR 110 37 [l0, l1, some (.inl (x + 1))] st w Q := zR_go (zst zT_110_34 rfl)
theorem zT_110_37 : zT 110 37 = some (.goto (-35), 3, 0, []) := by decide +kernel
theorem zr_110_37 {l0 l1 l2 : Option zV} {st : List zV} {w : zW} {Q : Option zV → zW → Prop}  : zR 110 37 [l0, l1, l2] st w Q = zR 110 2 [l0, l1, l2] st w Q := zR_go (zst zT_110_37 rfl)
theorem zT_110_40 : zT 110 40 = some (.return_, 1, 0, []) := by decide +kernel
theorem zr_110_40 {l0 l1 l2 : Option zV} {w : zW} {Q : Option zV → zW → Prop} : zR 110 40 [l0, l1, l2] [] w Q = Q none w := zR_ret (zst zT_110_40 rfl)
