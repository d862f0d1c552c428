-- rules for several kinds of receiver at once: laid by program
theorem zr_1_13m {l0 l1 l2 l3 l4 : Option zV} {h : Nat} {st : List zV} {w : zW} {Q : Option zV → zW → Prop} (hk : zk w h = 1 ∨ zk w h = 4 ∨ zk w h = 8) : zR 1 13 [l0, l1, l2, l3, l4] (.inr (some h) :: st) w Q = zR 1 16 [l0, l1, l2, l3, l4] (.inl (zf w 15 h) :: st) w Q := by
  rcases hk with hk | hk | hk
  · exact zr_1_13c1 hk
  · exact zr_1_13c4 hk
  · exact zr_1_13c8 hk
theorem zr_1_53m {l0 l1 l2 l3 l4 : Option zV} {a0 a1 : zV} {h : Nat} {st : List zV} {w : zW} {Q : Option zV → zW → Prop} (hs : st.length ≤ 8) (hk : zk w h = 4 ∨ zk w h = 8) : zR 1 53 [l0, l1, l2, l3, l4] (a1 :: a0 :: .inr (some h) :: st) w Q = zR 147 0 [some (.inr (some h)), some a0, some a1] [] w (fun r w2 => zR 1 56 [l0, l1, l2, l3, l4] (r.toList ++ st) w2 Q) := by
  rcases hk with hk | hk
  · exact zr_1_53c4 hs hk
  · exact zr_1_53c8 hs hk
theorem zr_1_68m {l0 l1 l2 l3 l4 : Option zV} {h : Nat} {st : List zV} {w : zW} {Q : Option zV → zW → Prop} (hk : zk w h = 4 ∨ zk w h = 8) : zR 1 68 [l0, l1, l2, l3, l4] (.inr (some h) :: st) w Q = zR 1 71 [l0, l1, l2, l3, l4] (.inr (zp w 14 h) :: st) w Q := by
  rcases hk with hk | hk
  · exact zr_1_68c4 hk
  · exact zr_1_68c8 hk
theorem zr_2_13m {l0 l1 : Option zV} {h : Nat} {st : List zV} {w : zW} {Q : Option zV → zW → Prop} (hk : zk w h = 1 ∨ zk w h = 4 ∨ zk w h = 8) : zR 2 13 [l0, l1] (.inr (some h) :: st) w Q = zR 2 16 [l0, l1] (.inl (zf w 15 h) :: st) w Q := by
  rcases hk with hk | hk | hk
  · exact zr_2_13c1 hk
  · exact zr_2_13c4 hk
  · exact zr_2_13c8 hk
theorem zr_2_32m {l0 l1 : Option zV} {h : Nat} {st : List zV} {w : zW} {Q : Option zV → zW → Prop} (hk : zk w h = 1 ∨ zk w h = 4 ∨ zk w h = 8) : zR 2 32 [l0, l1] (.inr (some h) :: st) w Q = zR 2 35 [l0, l1] (.inl (zf w 15 h) :: st) w Q := by
  rcases hk with hk | hk | hk
  · exact zr_2_32c1 hk
  · exact zr_2_32c4 hk
  · exact zr_2_32c8 hk
theorem zr_2_49m {l0 l1 : Option zV} {h : Nat} {x : Int} {st : List zV} {w : zW} {Q : Option zV → zW → Prop} (hk : zk w h = 1 ∨ zk w h = 4 ∨ zk w h = 8) : zR 2 49 [l0, l1] (.inl x :: .inr (some h) :: st) w Q = zR 2 52 [l0, l1] st (zsf w 15 h x) Q := by
  rcases hk with hk | hk | hk
  · exact zr_2_49c1 hk
  · exact zr_2_49c4 hk
  · exact zr_2_49c8 hk
theorem zr_8_28m {l0 l1 l2 l3 : Option zV} {h : Nat} {x : Int} {st : List zV} {w : zW} {Q : Option zV → zW → Prop} (hk : zk w h = 4 ∨ zk w h = 8) : zR 8 28 [l0, l1, l2, l3] (.inl x :: .inr (some h) :: st) w Q = zR 8 31 [l0, l1, l2, l3] st (zsf w 32 h x) Q := by
  rcases hk with hk | hk
  · exact zr_8_28c4 hk
  · exact zr_8_28c8 hk
theorem zr_8_32m {l0 l1 l2 l3 : Option zV} {h : Nat} {st : List zV} {w : zW} {Q : Option zV → zW → Prop} (hs : st.length ≤ 8) (hk : zk w h = 4 ∨ zk w h = 8) : zR 8 32 [l0, l1, l2, l3] (.inr (some h) :: st) w Q = zR 148 0 [some (.inr (some h)), none] [] w (fun r w2 => zR 8 35 [l0, l1, l2, l3] (r.toList ++ st) w2 Q) := by
  rcases hk with hk | hk
  · exact zr_8_32c4 hs hk
  · exact zr_8_32c8 hs hk
theorem zr_10_16m {l0 l1 l2 l3 : Option zV} {h : Nat} {st : List zV} {w : zW} {Q : Option zV → zW → Prop} (hk : zk w h = 1 ∨ zk w h = 4 ∨ zk w h = 8) : zR 10 16 [l0, l1, l2, l3] (.inr (some h) :: st) w Q = zR 10 19 [l0, l1, l2, l3] (.inl (zf w 15 h) :: st) w Q := by
  rcases hk with hk | hk | hk
  · exact zr_10_16c1 hk
  · exact zr_10_16c4 hk
  · exact zr_10_16c8 hk
theorem zr_10_31m {l0 l1 l2 l3 : Option zV} {h : Nat} {st : List zV} {w : zW} {Q : Option zV → zW → Prop} (hk : zk w h = 1 ∨ zk w h = 4 ∨ zk w h = 8) : zR 10 31 [l0, l1, l2, l3] (.inr (some h) :: st) w Q = zR 10 34 [l0, l1, l2, l3] (.inr (zp w 14 h) :: st) w Q := by
  rcases hk with hk | hk | hk
  · exact zr_10_31c1 hk
  · exact zr_10_31c4 hk
  · exact zr_10_31c8 hk
theorem zr_10_90m {l0 l1 l2 l3 : Option zV} {h : Nat} {st : List zV} {w : zW} {Q : Option zV → zW → Prop} (hk : zk w h = 1 ∨ zk w h = 4 ∨ zk w h = 8) : zR 10 90 [l0, l1, l2, l3] (.inr (some h) :: st) w Q = zR 10 93 [l0, l1, l2, l3] (.inl (zf w 15 h) :: st) w Q := by
  rcases hk with hk | hk | hk
  · exact zr_10_90c1 hk
  · exact zr_10_90c4 hk
  · exact zr_10_90c8 hk
theorem zr_11_57m {l0 l1 l2 l3 : Option zV} {h : Nat} {st : List zV} {w : zW} {Q : Option zV → zW → Prop} (hk : zk w h = 4 ∨ zk w h = 8) : zR 11 57 [l0, l1, l2, l3] (.inr (some h) :: st) w Q = zR 11 60 [l0, l1, l2, l3] (.inl (zf w 32 h) :: st) w Q := by
  rcases hk with hk | hk
  · exact zr_11_57c4 hk
  · exact zr_11_57c8 hk
theorem zr_11_62m {l0 l1 l2 l3 : Option zV} {h : Nat} {st : List zV} {w : zW} {Q : Option zV → zW → Prop} (hk : zk w h = 4 ∨ zk w h = 8) : zR 11 62 [l0, l1, l2, l3] (.inr (some h) :: st) w Q = zR 11 65 [l0, l1, l2, l3] (.inl (zf w 33 h) :: st) w Q := by
  rcases hk with hk | hk
  · exact zr_11_62c4 hk
  · exact zr_11_62c8 hk
theorem zr_11_67m {l0 l1 l2 l3 : Option zV} {h : Nat} {st : List zV} {w : zW} {Q : Option zV → zW → Prop} (hk : zk w h = 4 ∨ zk w h = 8) : zR 11 67 [l0, l1, l2, l3] (.inr (some h) :: st) w Q = zR 11 70 [l0, l1, l2, l3] (.inl (zf w 34 h) :: st) w Q := by
  rcases hk with hk | hk
  · exact zr_11_67c4 hk
  · exact zr_11_67c8 hk
theorem zr_11_72m {l0 l1 l2 l3 : Option zV} {h : Nat} {st : List zV} {w : zW} {Q : Option zV → zW → Prop} (hk : zk w h = 4 ∨ zk w h = 8) : zR 11 72 [l0, l1, l2, l3] (.inr (some h) :: st) w Q = zR 11 75 [l0, l1, l2, l3] (.inl (zf w 35 h) :: st) w Q := by
  rcases hk with hk | hk
  · exact zr_11_72c4 hk
  · exact zr_11_72c8 hk
theorem zr_11_77m {l0 l1 l2 l3 : Option zV} {h : Nat} {st : List zV} {w : zW} {Q : Option zV → zW → Prop} (hk : zk w h = 4 ∨ zk w h = 8) : zR 11 77 [l0, l1, l2, l3] (.inr (some h) :: st) w Q = zR 11 80 [l0, l1, l2, l3] (.inl (zf w 36 h) :: st) w Q := by
  rcases hk with hk | hk
  · exact zr_11_77c4 hk
  · exact zr_11_77c8 hk
theorem zr_11_82m {l0 l1 l2 l3 : Option zV} {h : Nat} {st : List zV} {w : zW} {Q : Option zV → zW → Prop} (hk : zk w h = 4 ∨ zk w h = 8) : zR 11 82 [l0, l1, l2, l3] (.inr (some h) :: st) w Q = zR 11 85 [l0, l1, l2, l3] (.inl (zf w 38 h) :: st) w Q := by
  rcases hk with hk | hk
  · exact zr_11_82c4 hk
  · exact zr_11_82c8 hk
theorem zr_11_87m {l0 l1 l2 l3 : Option zV} {h : Nat} {st : List zV} {w : zW} {Q : Option zV → zW → Prop} (hk : zk w h = 4 ∨ zk w h = 8) : zR 11 87 [l0, l1, l2, l3] (.inr (some h) :: st) w Q = zR 11 90 [l0, l1, l2, l3] (.inl (zf w 39 h) :: st) w Q := by
  rcases hk with hk | hk
  · exact zr_11_87c4 hk
  · exact zr_11_87c8 hk
theorem zr_12_23m {l0 l1 l2 l3 : Option zV} {h : Nat} {st : List zV} {w : zW} {Q : Option zV → zW → Prop} (hk : zk w h = 4 ∨ zk w h = 8) : zR 12 23 [l0, l1, l2, l3] (.inr (some h) :: st) w Q = zR 12 26 [l0, l1, l2, l3] (.inr (zp w 37 h) :: st) w Q := by
  rcases hk with hk | hk
  · exact zr_12_23c4 hk
  · exact zr_12_23c8 hk
theorem zr_19_20m {l0 l1 : Option zV} {h : Nat} {st : List zV} {w : zW} {Q : Option zV → zW → Prop} (hk : zk w h = 4 ∨ zk w h = 8) : zR 19 20 [l0, l1] (.inr (some h) :: st) w Q = zR 19 23 [l0, l1] (.inl (zf w 15 h) :: st) w Q := by
  rcases hk with hk | hk
  · exact zr_19_20c4 hk
  · exact zr_19_20c8 hk
theorem zr_21_74m {l0 l1 l2 l3 l4 l5 l6 l7 l8 : Option zV} {a0 a1 : zV} {h : Nat} {st : List zV} {w : zW} {Q : Option zV → zW → Prop} (hs : st.length ≤ 8) (hk : zk w h = 1 ∨ zk w h = 4 ∨ zk w h = 8) : zR 21 74 [l0, l1, l2, l3, l4, l5, l6, l7, l8] (a1 :: a0 :: .inr (some h) :: st) w Q = zR 113 0 [some (.inr (some h)), some a0, some a1, none] [] w (fun r w2 => zR 21 77 [l0, l1, l2, l3, l4, l5, l6, l7, l8] (r.toList ++ st) w2 Q) := by
  rcases hk with hk | hk | hk
  · exact zr_21_74c1 hs hk
  · exact zr_21_74c4 hs hk
  · exact zr_21_74c8 hs hk
theorem zr_113_5m {l0 l1 l2 l3 : Option zV} {h : Nat} {st : List zV} {w : zW} {Q : Option zV → zW → Prop} (hk : zk w h = 1 ∨ zk w h = 4 ∨ zk w h = 8) : zR 113 5 [l0, l1, l2, l3] (.inr (some h) :: st) w Q = zR 113 8 [l0, l1, l2, l3] (.inr (zp w 14 h) :: st) w Q := by
  rcases hk with hk | hk | hk
  · exact zr_113_5c1 hk
  · exact zr_113_5c4 hk
  · exact zr_113_5c8 hk
theorem zr_113_40m {l0 l1 l2 l3 : Option zV} {h : Nat} {st : List zV} {w : zW} {Q : Option zV → zW → Prop} (hk : zk w h = 1 ∨ zk w h = 4 ∨ zk w h = 8) : zR 113 40 [l0, l1, l2, l3] (.inr (some h) :: st) w Q = zR 113 43 [l0, l1, l2, l3] (.inr (zp w 16 h) :: st) w Q := by
  rcases hk with hk | hk | hk
  · exact zr_113_40c1 hk
  · exact zr_113_40c4 hk
  · exact zr_113_40c8 hk
theorem zr_113_49m {l0 l1 l2 l3 : Option zV} {h : Nat} {st : List zV} {w : zW} {Q : Option zV → zW → Prop} (hk : zk w h = 1 ∨ zk w h = 4 ∨ zk w h = 8) : zR 113 49 [l0, l1, l2, l3] (.inr (some h) :: st) w Q = zR 113 52 [l0, l1, l2, l3] (.inr (zp w 16 h) :: st) w Q := by
  rcases hk with hk | hk | hk
  · exact zr_113_49c1 hk
  · exact zr_113_49c4 hk
  · exact zr_113_49c8 hk
theorem zr_113_63m {l0 l1 l2 l3 : Option zV} {h : Nat} {st : List zV} {w : zW} {Q : Option zV → zW → Prop} (hk : zk w h = 1 ∨ zk w h = 4 ∨ zk w h = 8) : zR 113 63 [l0, l1, l2, l3] (.inr (some h) :: st) w Q = zR 113 66 [l0, l1, l2, l3] (.inr (zp w 16 h) :: st) w Q := by
  rcases hk with hk | hk | hk
  · exact zr_113_63c1 hk
  · exact zr_113_63c4 hk
  · exact zr_113_63c8 hk
theorem zr_113_76m {l0 l1 l2 l3 : Option zV} {h : Nat} {st : List zV} {w : zW} {Q : Option zV → zW → Prop} (hk : zk w h = 1 ∨ zk w h = 4 ∨ zk w h = 8) : zR 113 76 [l0, l1, l2, l3] (.inr (some h) :: st) w Q = zR 113 79 [l0, l1, l2, l3] (.inr (zp w 16 h) :: st) w Q := by
  rcases hk with hk | hk | hk
  · exact zr_113_76c1 hk
  · exact zr_113_76c4 hk
  · exact zr_113_76c8 hk
theorem zr_115_9m {l0 l1 : Option zV} {h : Nat} {st : List zV} {w : zW} {Q : Option zV → zW → Prop} (hk : zk w h = 1 ∨ zk w h = 4 ∨ zk w h = 8) : zR 115 9 [l0, l1] (.inr (some h) :: st) w Q = zR 115 12 [l0, l1] (.inr (zp w 16 h) :: st) w Q := by
  rcases hk with hk | hk | hk
  · exact zr_115_9c1 hk
  · exact zr_115_9c4 hk
  · exact zr_115_9c8 hk
theorem zr_115_18m {l0 l1 : Option zV} {h : Nat} {st : List zV} {w : zW} {Q : Option zV → zW → Prop} (hk : zk w h = 1 ∨ zk w h = 4 ∨ zk w h = 8) : zR 115 18 [l0, l1] (.inr (some h) :: st) w Q = zR 115 21 [l0, l1] (.inr (zp w 16 h) :: st) w Q := by
  rcases hk with hk | hk | hk
  · exact zr_115_18c1 hk
  · exact zr_115_18c4 hk
  · exact zr_115_18c8 hk
theorem zr_147_2m {l0 l1 l2 : Option zV} {h : Nat} {x : Int} {st : List zV} {w : zW} {Q : Option zV → zW → Prop} (hk : zk w h = 4 ∨ zk w h = 8) : zR 147 2 [l0, l1, l2] (.inl x :: .inr (some h) :: st) w Q = zR 147 5 [l0, l1, l2] st (zsf w 15 h x) Q := by
  rcases hk with hk | hk
  · exact zr_147_2c4 hk
  · exact zr_147_2c8 hk
theorem zr_147_6m {l0 l1 l2 : Option zV} {h : Nat} {st : List zV} {w : zW} {Q : Option zV → zW → Prop} (hk : zk w h = 4 ∨ zk w h = 8) : zR 147 6 [l0, l1, l2] (.inr (some h) :: st) w Q = zR 147 9 [l0, l1, l2] (.inr (zp w 14 h) :: st) w Q := by
  rcases hk with hk | hk
  · exact zr_147_6c4 hk
  · exact zr_147_6c8 hk
theorem zr_147_14m {l0 l1 l2 : Option zV} {h : Nat} {st : List zV} {w : zW} {Q : Option zV → zW → Prop} (hs : st.length ≤ 8) (hk : zk w h = 4 ∨ zk w h = 8) : zR 147 14 [l0, l1, l2] (.inr (some h) :: st) w Q = zR 115 0 [some (.inr (some h)), none] [] w (fun r w2 => zR 147 17 [l0, l1, l2] (r.toList ++ st) w2 Q) := by
  rcases hk with hk | hk
  · exact zr_147_14c4 hs hk
  · exact zr_147_14c8 hs hk
theorem zr_147_19m {l0 l1 l2 : Option zV} {h : Nat} {x : Int} {st : List zV} {w : zW} {Q : Option zV → zW → Prop} (hk : zk w h = 4 ∨ zk w h = 8) : zR 147 19 [l0, l1, l2] (.inl x :: .inr (some h) :: st) w Q = zR 147 22 [l0, l1, l2] st (zsf w 32 h x) Q := by
  rcases hk with hk | hk
  · exact zr_147_19c4 hk
  · exact zr_147_19c8 hk
theorem zr_147_24m {l0 l1 l2 : Option zV} {h : Nat} {x : Int} {st : List zV} {w : zW} {Q : Option zV → zW → Prop} (hk : zk w h = 4 ∨ zk w h = 8) : zR 147 24 [l0, l1, l2] (.inl x :: .inr (some h) :: st) w Q = zR 147 27 [l0, l1, l2] st (zsf w 33 h x) Q := by
  rcases hk with hk | hk
  · exact zr_147_24c4 hk
  · exact zr_147_24c8 hk
theorem zr_147_31m {l0 l1 l2 : Option zV} {h : Nat} {x : Int} {st : List zV} {w : zW} {Q : Option zV → zW → Prop} (hk : zk w h = 4 ∨ zk w h = 8) : zR 147 31 [l0, l1, l2] (.inl x :: .inr (some h) :: st) w Q = zR 147 34 [l0, l1, l2] st (zsf w 34 h x) Q := by
  rcases hk with hk | hk
  · exact zr_147_31c4 hk
  · exact zr_147_31c8 hk
theorem zr_147_38m {l0 l1 l2 : Option zV} {h : Nat} {x : Int} {st : List zV} {w : zW} {Q : Option zV → zW → Prop} (hk : zk w h = 4 ∨ zk w h = 8) : zR 147 38 [l0, l1, l2] (.inl x :: .inr (some h) :: st) w Q = zR 147 41 [l0, l1, l2] st (zsf w 35 h x) Q := by
  rcases hk with hk | hk
  · exact zr_147_38c4 hk
  · exact zr_147_38c8 hk
theorem zr_147_43m {l0 l1 l2 : Option zV} {h : Nat} {x : Int} {st : List zV} {w : zW} {Q : Option zV → zW → Prop} (hk : zk w h = 4 ∨ zk w h = 8) : zR 147 43 [l0, l1, l2] (.inl x :: .inr (some h) :: st) w Q = zR 147 46 [l0, l1, l2] st (zsf w 36 h x) Q := by
  rcases hk with hk | hk
  · exact zr_147_43c4 hk
  · exact zr_147_43c8 hk
theorem zr_147_48m {l0 l1 l2 : Option zV} {h : Nat} {x : Int} {st : List zV} {w : zW} {Q : Option zV → zW → Prop} (hk : zk w h = 4 ∨ zk w h = 8) : zR 147 48 [l0, l1, l2] (.inl x :: .inr (some h) :: st) w Q = zR 147 51 [l0, l1, l2] st (zsf w 38 h x) Q := by
  rcases hk with hk | hk
  · exact zr_147_48c4 hk
  · exact zr_147_48c8 hk
theorem zr_147_53m {l0 l1 l2 : Option zV} {h : Nat} {x : Int} {st : List zV} {w : zW} {Q : Option zV → zW → Prop} (hk : zk w h = 4 ∨ zk w h = 8) : zR 147 53 [l0, l1, l2] (.inl x :: .inr (some h) :: st) w Q = zR 147 56 [l0, l1, l2] st (zsf w 39 h x) Q := by
  rcases hk with hk | hk
  · exact zr_147_53c4 hk
  · exact zr_147_53c8 hk
theorem zr_147_57m {l0 l1 l2 : Option zV} {h : Nat} {st : List zV} {w : zW} {Q : Option zV → zW → Prop} (hk : zk w h = 4 ∨ zk w h = 8) : zR 147 57 [l0, l1, l2] (.inr (some h) :: st) w Q = zR 147 60 [l0, l1, l2] (.inr (zp w 37 h) :: st) w Q := by
  rcases hk with hk | hk
  · exact zr_147_57c4 hk
  · exact zr_147_57c8 hk
theorem zr_148_1m {l0 l1 : Option zV} {h : Nat} {st : List zV} {w : zW} {Q : Option zV → zW → Prop} (hk : zk w h = 4 ∨ zk w h = 8) : zR 148 1 [l0, l1] (.inr (some h) :: st) w Q = zR 148 4 [l0, l1] (.inl (zf w 33 h) :: st) w Q := by
  rcases hk with hk | hk
  · exact zr_148_1c4 hk
  · exact zr_148_1c8 hk
theorem zr_148_8m {l0 l1 : Option zV} {a0 : zV} {h : Nat} {st : List zV} {w : zW} {Q : Option zV → zW → Prop} (hs : st.length ≤ 8) (hk : zk w h = 4 ∨ zk w h = 8) : zR 148 8 [l0, l1] (a0 :: .inr (some h) :: st) w Q = zR 149 0 [some (.inr (some h)), some a0] [] w (fun r w2 => zR 148 11 [l0, l1] (r.toList ++ st) w2 Q) := by
  rcases hk with hk | hk
  · exact zr_148_8c4 hs hk
  · exact zr_148_8c8 hs hk
theorem zr_148_11m {l0 l1 : Option zV} {h : Nat} {x : Int} {st : List zV} {w : zW} {Q : Option zV → zW → Prop} (hk : zk w h = 4 ∨ zk w h = 8) : zR 148 11 [l0, l1] (.inl x :: .inr (some h) :: st) w Q = zR 148 14 [l0, l1] st (zsf w 33 h x) Q := by
  rcases hk with hk | hk
  · exact zr_148_11c4 hk
  · exact zr_148_11c8 hk
theorem zr_148_15m {l0 l1 : Option zV} {h : Nat} {st : List zV} {w : zW} {Q : Option zV → zW → Prop} (hk : zk w h = 4 ∨ zk w h = 8) : zR 148 15 [l0, l1] (.inr (some h) :: st) w Q = zR 148 18 [l0, l1] (.inl (zf w 33 h) :: st) w Q := by
  rcases hk with hk | hk
  · exact zr_148_15c4 hk
  · exact zr_148_15c8 hk
theorem zr_148_23m {l0 l1 : Option zV} {h : Nat} {st : List zV} {w : zW} {Q : Option zV → zW → Prop} (hk : zk w h = 4 ∨ zk w h = 8) : zR 148 23 [l0, l1] (.inr (some h) :: st) w Q = zR 148 26 [l0, l1] (.inl (zf w 38 h) :: st) w Q := by
  rcases hk with hk | hk
  · exact zr_148_23c4 hk
  · exact zr_148_23c8 hk
theorem zr_148_31m {l0 l1 : Option zV} {h : Nat} {st : List zV} {w : zW} {Q : Option zV → zW → Prop} (hk : zk w h = 4 ∨ zk w h = 8) : zR 148 31 [l0, l1] (.inr (some h) :: st) w Q = zR 148 34 [l0, l1] (.inr (zp w 40 h) :: st) w Q := by
  rcases hk with hk | hk
  · exact zr_148_31c4 hk
  · exact zr_148_31c8 hk
theorem zr_148_39m {l0 l1 : Option zV} {h : Nat} {st : List zV} {w : zW} {Q : Option zV → zW → Prop} (hs : st.length ≤ 8) (hk : zk w h = 4 ∨ zk w h = 8) : zR 148 39 [l0, l1] (.inr (some h) :: st) w Q = zR 154 0 [some (.inr (some h))] [] w (fun r w2 => zR 148 42 [l0, l1] (r.toList ++ st) w2 Q) := by
  rcases hk with hk | hk
  · exact zr_148_39c4 hs hk
  · exact zr_148_39c8 hs hk
theorem zr_148_45m {l0 l1 : Option zV} {h : Nat} {st : List zV} {w : zW} {Q : Option zV → zW → Prop} (hk : zk w h = 4 ∨ zk w h = 8) : zR 148 45 [l0, l1] (.inr (some h) :: st) w Q = zR 148 48 [l0, l1] (.inl (zf w 38 h) :: st) w Q := by
  rcases hk with hk | hk
  · exact zr_148_45c4 hk
  · exact zr_148_45c8 hk
theorem zr_148_51m {l0 l1 : Option zV} {h : Nat} {st : List zV} {w : zW} {Q : Option zV → zW → Prop} (hk : zk w h = 4 ∨ zk w h = 8) : zR 148 51 [l0, l1] (.inr (some h) :: st) w Q = zR 148 54 [l0, l1] (.inl (zf w 39 h) :: st) w Q := by
  rcases hk with hk | hk
  · exact zr_148_51c4 hk
  · exact zr_148_51c8 hk
theorem zr_148_59m {l0 l1 : Option zV} {h : Nat} {st : List zV} {w : zW} {Q : Option zV → zW → Prop} (hk : zk w h = 4 ∨ zk w h = 8) : zR 148 59 [l0, l1] (.inr (some h) :: st) w Q = zR 148 62 [l0, l1] (.inr (zp w 40 h) :: st) w Q := by
  rcases hk with hk | hk
  · exact zr_148_59c4 hk
  · exact zr_148_59c8 hk
theorem zr_148_63m {l0 l1 : Option zV} {a0 a1 a2 a3 : zV} {h : Nat} {st : List zV} {w : zW} {Q : Option zV → zW → Prop} (hs : st.length ≤ 8) (hk : zk w h = 4 ∨ zk w h = 8) : zR 148 63 [l0, l1] (a3 :: a2 :: a1 :: a0 :: .inr (some h) :: st) w Q = zR 114 0 [some (.inr (some h)), some a0, some a1, some a2, some a3, none, none, none, none, none] [] w (fun r w2 => zR 148 66 [l0, l1] (r.toList ++ st) w2 Q) := by
  rcases hk with hk | hk
  · exact zr_148_63c4 hs hk
  · exact zr_148_63c8 hs hk
theorem zr_148_68m {l0 l1 : Option zV} {h : Nat} {st : List zV} {w : zW} {Q : Option zV → zW → Prop} (hk : zk w h = 4 ∨ zk w h = 8) : zR 148 68 [l0, l1] (.inr (some h) :: st) w Q = zR 148 71 [l0, l1] (.inl (zf w 39 h) :: st) w Q := by
  rcases hk with hk | hk
  · exact zr_148_68c4 hk
  · exact zr_148_68c8 hk
theorem zr_148_73m {l0 l1 : Option zV} {h : Nat} {x : Int} {st : List zV} {w : zW} {Q : Option zV → zW → Prop} (hk : zk w h = 4 ∨ zk w h = 8) : zR 148 73 [l0, l1] (.inl x :: .inr (some h) :: st) w Q = zR 148 76 [l0, l1] st (zsf w 39 h x) Q := by
  rcases hk with hk | hk
  · exact zr_148_73c4 hk
  · exact zr_148_73c8 hk
theorem zr_149_1m {l0 l1 : Option zV} {h : Nat} {st : List zV} {w : zW} {Q : Option zV → zW → Prop} (hk : zk w h = 4 ∨ zk w h = 8) : zR 149 1 [l0, l1] (.inr (some h) :: st) w Q = zR 149 4 [l0, l1] (.inl (zf w 32 h) :: st) w Q := by
  rcases hk with hk | hk
  · exact zr_149_1c4 hk
  · exact zr_149_1c8 hk
theorem zr_149_5m {l0 l1 : Option zV} {h : Nat} {st : List zV} {w : zW} {Q : Option zV → zW → Prop} (hk : zk w h = 4 ∨ zk w h = 8) : zR 149 5 [l0, l1] (.inr (some h) :: st) w Q = zR 149 8 [l0, l1] (.inl (zf w 35 h) :: st) w Q := by
  rcases hk with hk | hk
  · exact zr_149_5c4 hk
  · exact zr_149_5c8 hk
theorem zr_149_17m {l0 l1 : Option zV} {h : Nat} {st : List zV} {w : zW} {Q : Option zV → zW → Prop} (hk : zk w h = 4 ∨ zk w h = 8) : zR 149 17 [l0, l1] (.inr (some h) :: st) w Q = zR 149 20 [l0, l1] (.inl (zf w 32 h) :: st) w Q := by
  rcases hk with hk | hk
  · exact zr_149_17c4 hk
  · exact zr_149_17c8 hk
theorem zr_149_21m {l0 l1 : Option zV} {h : Nat} {st : List zV} {w : zW} {Q : Option zV → zW → Prop} (hk : zk w h = 4 ∨ zk w h = 8) : zR 149 21 [l0, l1] (.inr (some h) :: st) w Q = zR 149 24 [l0, l1] (.inl (zf w 35 h) :: st) w Q := by
  rcases hk with hk | hk
  · exact zr_149_21c4 hk
  · exact zr_149_21c8 hk
theorem zr_149_25m {l0 l1 : Option zV} {h : Nat} {st : List zV} {w : zW} {Q : Option zV → zW → Prop} (hk : zk w h = 4 ∨ zk w h = 8) : zR 149 25 [l0, l1] (.inr (some h) :: st) w Q = zR 149 28 [l0, l1] (.inl (zf w 36 h) :: st) w Q := by
  rcases hk with hk | hk
  · exact zr_149_25c4 hk
  · exact zr_149_25c8 hk
theorem zr_149_35m {l0 l1 : Option zV} {h : Nat} {st : List zV} {w : zW} {Q : Option zV → zW → Prop} (hk : zk w h = 4 ∨ zk w h = 8) : zR 149 35 [l0, l1] (.inr (some h) :: st) w Q = zR 149 38 [l0, l1] (.inl (zf w 32 h) :: st) w Q := by
  rcases hk with hk | hk
  · exact zr_149_35c4 hk
  · exact zr_149_35c8 hk
theorem zr_149_39m {l0 l1 : Option zV} {h : Nat} {st : List zV} {w : zW} {Q : Option zV → zW → Prop} (hk : zk w h = 4 ∨ zk w h = 8) : zR 149 39 [l0, l1] (.inr (some h) :: st) w Q = zR 149 42 [l0, l1] (.inl (zf w 34 h) :: st) w Q := by
  rcases hk with hk | hk
  · exact zr_149_39c4 hk
  · exact zr_149_39c8 hk
theorem zr_149_51m {l0 l1 : Option zV} {h : Nat} {st : List zV} {w : zW} {Q : Option zV → zW → Prop} (hk : zk w h = 4 ∨ zk w h = 8) : zR 149 51 [l0, l1] (.inr (some h) :: st) w Q = zR 149 54 [l0, l1] (.inl (zf w 32 h) :: st) w Q := by
  rcases hk with hk | hk
  · exact zr_149_51c4 hk
  · exact zr_149_51c8 hk
theorem zr_149_55m {l0 l1 : Option zV} {h : Nat} {st : List zV} {w : zW} {Q : Option zV → zW → Prop} (hk : zk w h = 4 ∨ zk w h = 8) : zR 149 55 [l0, l1] (.inr (some h) :: st) w Q = zR 149 58 [l0, l1] (.inl (zf w 34 h) :: st) w Q := by
  rcases hk with hk | hk
  · exact zr_149_55c4 hk
  · exact zr_149_55c8 hk
theorem zr_149_59m {l0 l1 : Option zV} {h : Nat} {st : List zV} {w : zW} {Q : Option zV → zW → Prop} (hk : zk w h = 4 ∨ zk w h = 8) : zR 149 59 [l0, l1] (.inr (some h) :: st) w Q = zR 149 62 [l0, l1] (.inl (zf w 36 h) :: st) w Q := by
  rcases hk with hk | hk
  · exact zr_149_59c4 hk
  · exact zr_149_59c8 hk
theorem zr_150_57m {l0 l1 l2 l3 l4 : Option zV} {h : Nat} {st : List zV} {w : zW} {Q : Option zV → zW → Prop} (hs : st.length ≤ 8) (hk : zk w h = 4 ∨ zk w h = 8) : zR 150 57 [l0, l1, l2, l3, l4] (.inr (some h) :: st) w Q = zR 154 0 [some (.inr (some h))] [] w (fun r w2 => zR 150 60 [l0, l1, l2, l3, l4] (r.toList ++ st) w2 Q) := by
  rcases hk with hk | hk
  · exact zr_150_57c4 hs hk
  · exact zr_150_57c8 hs hk
theorem zr_150_67m {l0 l1 l2 l3 l4 : Option zV} {a0 : zV} {h : Nat} {st : List zV} {w : zW} {Q : Option zV → zW → Prop} (hs : st.length ≤ 8) (hk : zk w h = 4 ∨ zk w h = 8) : zR 150 67 [l0, l1, l2, l3, l4] (a0 :: .inr (some h) :: st) w Q = zR 153 0 [some (.inr (some h)), some a0] [] w (fun r w2 => zR 150 70 [l0, l1, l2, l3, l4] (r.toList ++ st) w2 Q) := by
  rcases hk with hk | hk
  · exact zr_150_67c4 hs hk
  · exact zr_150_67c8 hs hk
theorem zr_150_71m {l0 l1 l2 l3 l4 : Option zV} {h : Nat} {st : List zV} {w : zW} {Q : Option zV → zW → Prop} (hs : st.length ≤ 8) (hk : zk w h = 4 ∨ zk w h = 8) : zR 150 71 [l0, l1, l2, l3, l4] (.inr (some h) :: st) w Q = zR 148 0 [some (.inr (some h)), none] [] w (fun r w2 => zR 150 74 [l0, l1, l2, l3, l4] (r.toList ++ st) w2 Q) := by
  rcases hk with hk | hk
  · exact zr_150_71c4 hs hk
  · exact zr_150_71c8 hs hk
theorem zr_150_81m {l0 l1 l2 l3 l4 : Option zV} {h : Nat} {x : Int} {st : List zV} {w : zW} {Q : Option zV → zW → Prop} (hk : zk w h = 4 ∨ zk w h = 8) : zR 150 81 [l0, l1, l2, l3, l4] (.inl x :: .inr (some h) :: st) w Q = zR 150 84 [l0, l1, l2, l3, l4] st (zsf w 38 h x) Q := by
  rcases hk with hk | hk
  · exact zr_150_81c4 hk
  · exact zr_150_81c8 hk
theorem zr_150_88m {l0 l1 l2 l3 l4 : Option zV} {h : Nat} {st : List zV} {w : zW} {Q : Option zV → zW → Prop} (hk : zk w h = 4 ∨ zk w h = 8) : zR 150 88 [l0, l1, l2, l3, l4] (.inr (some h) :: st) w Q = zR 150 91 [l0, l1, l2, l3, l4] (.inr (zp w 37 h) :: st) w Q := by
  rcases hk with hk | hk
  · exact zr_150_88c4 hk
  · exact zr_150_88c8 hk
theorem zr_150_95m {l0 l1 l2 l3 l4 : Option zV} {h : Nat} {st : List zV} {w : zW} {Q : Option zV → zW → Prop} (hk : zk w h = 4 ∨ zk w h = 8) : zR 150 95 [l0, l1, l2, l3, l4] (.inr (some h) :: st) w Q = zR 150 98 [l0, l1, l2, l3, l4] (.inr (zp w 40 h) :: st) w Q := by
  rcases hk with hk | hk
  · exact zr_150_95c4 hk
  · exact zr_150_95c8 hk
theorem zr_150_118m {l0 l1 l2 l3 l4 : Option zV} {h : Nat} {st : List zV} {w : zW} {Q : Option zV → zW → Prop} (hk : zk w h = 4 ∨ zk w h = 8) : zR 150 118 [l0, l1, l2, l3, l4] (.inr (some h) :: st) w Q = zR 150 121 [l0, l1, l2, l3, l4] (.inr (zp w 37 h) :: st) w Q := by
  rcases hk with hk | hk
  · exact zr_150_118c4 hk
  · exact zr_150_118c8 hk
theorem zr_150_137m {l0 l1 l2 l3 l4 : Option zV} {h : Nat} {st : List zV} {w : zW} {Q : Option zV → zW → Prop} (hk : zk w h = 4 ∨ zk w h = 8) : zR 150 137 [l0, l1, l2, l3, l4] (.inr (some h) :: st) w Q = zR 150 140 [l0, l1, l2, l3, l4] (.inr (zp w 40 h) :: st) w Q := by
  rcases hk with hk | hk
  · exact zr_150_137c4 hk
  · exact zr_150_137c8 hk
theorem zr_150_167m {l0 l1 l2 l3 l4 : Option zV} {h : Nat} {st : List zV} {w : zW} {Q : Option zV → zW → Prop} (hk : zk w h = 4 ∨ zk w h = 8) : zR 150 167 [l0, l1, l2, l3, l4] (.inr (some h) :: st) w Q = zR 150 170 [l0, l1, l2, l3, l4] (.inr (zp w 40 h) :: st) w Q := by
  rcases hk with hk | hk
  · exact zr_150_167c4 hk
  · exact zr_150_167c8 hk
theorem zr_150_172m {l0 l1 l2 l3 l4 : Option zV} {a0 a1 a2 a3 : zV} {h : Nat} {st : List zV} {w : zW} {Q : Option zV → zW → Prop} (hs : st.length ≤ 8) (hk : zk w h = 4 ∨ zk w h = 8) : zR 150 172 [l0, l1, l2, l3, l4] (a3 :: a2 :: a1 :: a0 :: .inr (some h) :: st) w Q = zR 114 0 [some (.inr (some h)), some a0, some a1, some a2, some a3, none, none, none, none, none] [] w (fun r w2 => zR 150 175 [l0, l1, l2, l3, l4] (r.toList ++ st) w2 Q) := by
  rcases hk with hk | hk
  · exact zr_150_172c4 hs hk
  · exact zr_150_172c8 hs hk
theorem zr_153_10m {l0 l1 : Option zV} {h : Nat} {x : Int} {st : List zV} {w : zW} {Q : Option zV → zW → Prop} (hk : zk w h = 4 ∨ zk w h = 8) : zR 153 10 [l0, l1] (.inl x :: .inr (some h) :: st) w Q = zR 153 13 [l0, l1] st (zsf w 34 h x) Q := by
  rcases hk with hk | hk
  · exact zr_153_10c4 hk
  · exact zr_153_10c8 hk
theorem zr_153_23m {l0 l1 : Option zV} {h : Nat} {x : Int} {st : List zV} {w : zW} {Q : Option zV → zW → Prop} (hk : zk w h = 4 ∨ zk w h = 8) : zR 153 23 [l0, l1] (.inl x :: .inr (some h) :: st) w Q = zR 153 26 [l0, l1] st (zsf w 35 h x) Q := by
  rcases hk with hk | hk
  · exact zr_153_23c4 hk
  · exact zr_153_23c8 hk
theorem zr_153_30m {l0 l1 : Option zV} {h : Nat} {x : Int} {st : List zV} {w : zW} {Q : Option zV → zW → Prop} (hk : zk w h = 4 ∨ zk w h = 8) : zR 153 30 [l0, l1] (.inl x :: .inr (some h) :: st) w Q = zR 153 33 [l0, l1] st (zsf w 36 h x) Q := by
  rcases hk with hk | hk
  · exact zr_153_30c4 hk
  · exact zr_153_30c8 hk
theorem zr_154_1m {l0 : Option zV} {h : Nat} {st : List zV} {w : zW} {Q : Option zV → zW → Prop} (hk : zk w h = 4 ∨ zk w h = 8) : zR 154 1 [l0] (.inr (some h) :: st) w Q = zR 154 4 [l0] (.inr (zp w 40 h) :: st) w Q := by
  rcases hk with hk | hk
  · exact zr_154_1c4 hk
  · exact zr_154_1c8 hk
theorem zr_154_6m {l0 : Option zV} {h : Nat} {st : List zV} {w : zW} {Q : Option zV → zW → Prop} (hk : zk w h = 4 ∨ zk w h = 8) : zR 154 6 [l0] (.inr (some h) :: st) w Q = zR 154 9 [l0] (.inl (zf w 33 h) :: st) w Q := by
  rcases hk with hk | hk
  · exact zr_154_6c4 hk
  · exact zr_154_6c8 hk
theorem zr_154_11m {l0 : Option zV} {h : Nat} {st : List zV} {w : zW} {Q : Option zV → zW → Prop} (hk : zk w h = 4 ∨ zk w h = 8) : zR 154 11 [l0] (.inr (some h) :: st) w Q = zR 154 14 [l0] (.inr (zp w 40 h) :: st) w Q := by
  rcases hk with hk | hk
  · exact zr_154_11c4 hk
  · exact zr_154_11c8 hk
theorem zr_154_16m {l0 : Option zV} {h : Nat} {st : List zV} {w : zW} {Q : Option zV → zW → Prop} (hk : zk w h = 4 ∨ zk w h = 8) : zR 154 16 [l0] (.inr (some h) :: st) w Q = zR 154 19 [l0] (.inl (zf w 32 h) :: st) w Q := by
  rcases hk with hk | hk
  · exact zr_154_16c4 hk
  · exact zr_154_16c8 hk
theorem zr_154_28m {l0 : Option zV} {h : Nat} {st : List zV} {w : zW} {Q : Option zV → zW → Prop} (hk : zk w h = 4 ∨ zk w h = 8) : zR 154 28 [l0] (.inr (some h) :: st) w Q = zR 154 31 [l0] (.inr (zp w 40 h) :: st) w Q := by
  rcases hk with hk | hk
  · exact zr_154_28c4 hk
  · exact zr_154_28c8 hk
theorem zr_154_33m {l0 : Option zV} {h : Nat} {st : List zV} {w : zW} {Q : Option zV → zW → Prop} (hk : zk w h = 4 ∨ zk w h = 8) : zR 154 33 [l0] (.inr (some h) :: st) w Q = zR 154 36 [l0] (.inl (zf w 32 h) :: st) w Q := by
  rcases hk with hk | hk
  · exact zr_154_33c4 hk
  · exact zr_154_33c8 hk
