-- the class: enumeration
theorem m_83_null {w : zW} {Q : Option zV → zW → Prop} {b d : Nat} (kb : zk w b = 5) (p42 : zp w 42 b = some (b + 1)) (kp : zk w (b + 1) = 21) (lp : zl w (b + 1) = 7) (hd : d < 7) {x : Int} {l3 : Option zV} (hbd : zb w (b + 1) d = none) : zR 83 4 [some (.inr (some b)), some (.inl x), some (.inl (d : Int)), l3] [] w Q = zR 83 4 [some (.inr (some b)), some (.inl x), some (.inl ((d + 1 : Nat) : Int)), some (.inr none)] [] w Q := by
  have td : (zN (d : Int)).toNat = d := by rw [zN_of (by omega) (by omega), Int.toNat_natCast]
  rw [zr_83_4, zr_83_5, zr_83_7, zN_of (x := (d : Int)) (by omega) (by omega), show zN 7 = 7 by decide, if_neg (by omega), zr_83_10, zr_83_11 (by exact kb), p42, zr_83_14, zr_83_15 ⟨by show zNC + 2 < zk w (b + 1); rw [kp]; decide, by show zk w (b + 1) < 1000; rw [kp]; decide, by rw [zN_of (x := (d : Int)) (by omega) (by omega)]; omega, by rw [zN_of (x := (d : Int)) (by omega) (by omega)]; show _ < ((zl w (b + 1) : Nat) : Int); rw [lp]; omega⟩, td, hbd, zr_83_16, zr_83_17, zr_83_18n, zr_83_46, zr_83_49]
  rfl
theorem m_83_res {w : zW} {Q : Option zV → zW → Prop} {b d : Nat} (kb : zk w b = 5) (p42 : zp w 42 b = some (b + 1)) (kp : zk w (b + 1) = 21) (lp : zl w (b + 1) = 7) (hd : d < 7) {x : Int} {l3 : Option zV} {p : Nat} (kpp : zk w p = 2) (hbd : zb w (b + 1) d = some p) (f20 : zf w 20 p = 1) : zR 83 4 [some (.inr (some b)), some (.inl x), some (.inl (d : Int)), l3] [] w Q = zR 83 4 [some (.inr (some b)), some (.inl x), some (.inl ((d + 1 : Nat) : Int)), some (.inr (some p))] [] w Q := by
  have td : (zN (d : Int)).toNat = d := by rw [zN_of (by omega) (by omega), Int.toNat_natCast]
  rw [zr_83_4, zr_83_5, zr_83_7, zN_of (x := (d : Int)) (by omega) (by omega), show zN 7 = 7 by decide, if_neg (by omega), zr_83_10, zr_83_11 (by exact kb), p42, zr_83_14, zr_83_15 ⟨by show zNC + 2 < zk w (b + 1); rw [kp]; decide, by show zk w (b + 1) < 1000; rw [kp]; decide, by rw [zN_of (x := (d : Int)) (by omega) (by omega)]; omega, by rw [zN_of (x := (d : Int)) (by omega) (by omega)]; show _ < ((zl w (b + 1) : Nat) : Int); rw [lp]; omega⟩, td, hbd, zr_83_16, zr_83_17, zr_83_18s, zr_83_21, zr_83_22 (by exact kpp), f20, zr_83_25, show zN 1 = 1 by decide, if_pos (by omega), zr_83_46, zr_83_49]
  rfl
theorem m_83_new {w : zW} {Q : Option zV → zW → Prop} {b d : Nat} (kb : zk w b = 5) (p42 : zp w 42 b = some (b + 1)) (kp : zk w (b + 1) = 21) (lp : zl w (b + 1) = 7) (hd : d < 7)  {l3 : Option zV} {p : Nat} (kpp : zk w p = 2) (hbd : zb w (b + 1) d = some p) {y : Int} (f20 : zf w 20 p = 0) (f18 : zf w 18 p = y) : zR 83 4 [some (.inr (some b)), some (.inl (-1)), some (.inl (d : Int)), l3] [] w Q = zR 83 4 [some (.inr (some b)), some (.inl y), some (.inl ((d + 1 : Nat) : Int)), some (.inr (some p))] [] w Q := by
  have td : (zN (d : Int)).toNat = d := by rw [zN_of (by omega) (by omega), Int.toNat_natCast]
  rw [zr_83_4, zr_83_5, zr_83_7, zN_of (x := (d : Int)) (by omega) (by omega), show zN 7 = 7 by decide, if_neg (by omega), zr_83_10, zr_83_11 (by exact kb), p42, zr_83_14, zr_83_15 ⟨by show zNC + 2 < zk w (b + 1); rw [kp]; decide, by show zk w (b + 1) < 1000; rw [kp]; decide, by rw [zN_of (x := (d : Int)) (by omega) (by omega)]; omega, by rw [zN_of (x := (d : Int)) (by omega) (by omega)]; show _ < ((zl w (b + 1) : Nat) : Int); rw [lp]; omega⟩, td, hbd, zr_83_16, zr_83_17, zr_83_18s, zr_83_21, zr_83_22 (by exact kpp), f20, zr_83_25, show zN 0 = 0 by decide, if_neg (by omega), zr_83_28, zr_83_29, zr_83_30, show zN (-1) = (-1) by decide, if_pos (by omega), zr_83_41, zr_83_42 (by exact kpp), f18, zr_83_45, zr_83_46, zr_83_49]
  rfl
theorem m_83_lt {w : zW} {Q : Option zV → zW → Prop} {b d : Nat} (kb : zk w b = 5) (p42 : zp w 42 b = some (b + 1)) (kp : zk w (b + 1) = 21) (lp : zl w (b + 1) = 7) (hd : d < 7) {x : Int} {l3 : Option zV} {p : Nat} (kpp : zk w p = 2) (hbd : zb w (b + 1) d = some p) {y : Int} (f20 : zf w 20 p = 0) (f18 : zf w 18 p = y) (ry : 0 ≤ y ∧ y ≤ 65535) (rx : 0 ≤ x ∧ x ≤ 65535) (hl : y < x) : zR 83 4 [some (.inr (some b)), some (.inl x), some (.inl (d : Int)), l3] [] w Q = zR 83 4 [some (.inr (some b)), some (.inl y), some (.inl ((d + 1 : Nat) : Int)), some (.inr (some p))] [] w Q := by
  have td : (zN (d : Int)).toNat = d := by rw [zN_of (by omega) (by omega), Int.toNat_natCast]
  rw [zr_83_4, zr_83_5, zr_83_7, zN_of (x := (d : Int)) (by omega) (by omega), show zN 7 = 7 by decide, if_neg (by omega), zr_83_10, zr_83_11 (by exact kb), p42, zr_83_14, zr_83_15 ⟨by show zNC + 2 < zk w (b + 1); rw [kp]; decide, by show zk w (b + 1) < 1000; rw [kp]; decide, by rw [zN_of (x := (d : Int)) (by omega) (by omega)]; omega, by rw [zN_of (x := (d : Int)) (by omega) (by omega)]; show _ < ((zl w (b + 1) : Nat) : Int); rw [lp]; omega⟩, td, hbd, zr_83_16, zr_83_17, zr_83_18s, zr_83_21, zr_83_22 (by exact kpp), f20, zr_83_25, show zN 0 = 0 by decide, if_neg (by omega), zr_83_28, zr_83_29, zr_83_30, zN_of (x := x) (by omega) (by omega), show zN (-1) = (-1) by decide, if_neg (by omega), zr_83_33, zr_83_34 (by exact kpp), f18, zr_83_37, zr_83_38, zN_of (x := y) (by omega) (by omega), zN_of (x := x) (by omega) (by omega), if_neg (by omega), zr_83_41, zr_83_42 (by exact kpp), f18, zr_83_45, zr_83_46, zr_83_49]
  rfl
theorem m_83_ge {w : zW} {Q : Option zV → zW → Prop} {b d : Nat} (kb : zk w b = 5) (p42 : zp w 42 b = some (b + 1)) (kp : zk w (b + 1) = 21) (lp : zl w (b + 1) = 7) (hd : d < 7) {x : Int} {l3 : Option zV} {p : Nat} (kpp : zk w p = 2) (hbd : zb w (b + 1) d = some p) {y : Int} (f20 : zf w 20 p = 0) (f18 : zf w 18 p = y) (ry : 0 ≤ y ∧ y ≤ 65535) (rx : 0 ≤ x ∧ x ≤ 65535) (hl : x ≤ y) : zR 83 4 [some (.inr (some b)), some (.inl x), some (.inl (d : Int)), l3] [] w Q = zR 83 4 [some (.inr (some b)), some (.inl x), some (.inl ((d + 1 : Nat) : Int)), some (.inr (some p))] [] w Q := by
  have td : (zN (d : Int)).toNat = d := by rw [zN_of (by omega) (by omega), Int.toNat_natCast]
  rw [zr_83_4, zr_83_5, zr_83_7, zN_of (x := (d : Int)) (by omega) (by omega), show zN 7 = 7 by decide, if_neg (by omega), zr_83_10, zr_83_11 (by exact kb), p42, zr_83_14, zr_83_15 ⟨by show zNC + 2 < zk w (b + 1); rw [kp]; decide, by show zk w (b + 1) < 1000; rw [kp]; decide, by rw [zN_of (x := (d : Int)) (by omega) (by omega)]; omega, by rw [zN_of (x := (d : Int)) (by omega) (by omega)]; show _ < ((zl w (b + 1) : Nat) : Int); rw [lp]; omega⟩, td, hbd, zr_83_16, zr_83_17, zr_83_18s, zr_83_21, zr_83_22 (by exact kpp), f20, zr_83_25, show zN 0 = 0 by decide, if_neg (by omega), zr_83_28, zr_83_29, zr_83_30, zN_of (x := x) (by omega) (by omega), show zN (-1) = (-1) by decide, if_neg (by omega), zr_83_33, zr_83_34 (by exact kpp), f18, zr_83_37, zr_83_38, zN_of (x := y) (by omega) (by omega), zN_of (x := x) (by omega) (by omega), if_pos (by omega), zr_83_46, zr_83_49]
  rfl
theorem m_83_end {w : zW} {Q : Option zV → zW → Prop} {b : Nat} {x : Int} {l3 : Option zV} : zR 83 4 [some (.inr (some b)), some (.inl x), some (.inl 7), l3] [] w Q = Q (some (.inl x)) w := by
  rw [zr_83_4, zr_83_5, zr_83_7, show zN 7 = 7 by decide, if_pos (by omega), zr_83_52, zr_83_53]
theorem m_84_null {w : zW} {Q : Option zV → zW → Prop} {b d : Nat} (kb : zk w b = 5) (p42 : zp w 42 b = some (b + 1)) (kp : zk w (b + 1) = 21) (lp : zl w (b + 1) = 7) (hd : d < 7) (hbd : zb w (b + 1) d = none) : zR 84 2 [some (.inr (some b)), some (.inl (d : Int))] [] w Q = zR 84 2 [some (.inr (some b)), some (.inl ((d + 1 : Nat) : Int))] [] w Q := by
  have td : (zN (d : Int)).toNat = d := by rw [zN_of (by omega) (by omega), Int.toNat_natCast]
  rw [zr_84_2, zr_84_3, zr_84_5, zN_of (x := (d : Int)) (by omega) (by omega), show zN 7 = 7 by decide, if_neg (by omega), zr_84_8, zr_84_9 (by exact kb), p42, zr_84_12, zr_84_13 ⟨by show zNC + 2 < zk w (b + 1); rw [kp]; decide, by show zk w (b + 1) < 1000; rw [kp]; decide, by rw [zN_of (x := (d : Int)) (by omega) (by omega)]; omega, by rw [zN_of (x := (d : Int)) (by omega) (by omega)]; show _ < ((zl w (b + 1) : Nat) : Int); rw [lp]; omega⟩, td, hbd, zr_84_14n, zr_84_39, zr_84_42]
  rfl
theorem m_84_own {w : zW} {Q : Option zV → zW → Prop} {b d : Nat} (kb : zk w b = 5) (p42 : zp w 42 b = some (b + 1)) (kp : zk w (b + 1) = 21) (lp : zl w (b + 1) = 7) (hd : d < 7) {p : Nat} (kpp : zk w p = 2) (hbd : zb w (b + 1) d = some p) (f17 : zf w 17 p = 1) : zR 84 2 [some (.inr (some b)), some (.inl (d : Int))] [] w Q = zR 84 2 [some (.inr (some b)), some (.inl ((d + 1 : Nat) : Int))] [] w Q := by
  have td : (zN (d : Int)).toNat = d := by rw [zN_of (by omega) (by omega), Int.toNat_natCast]
  rw [zr_84_2, zr_84_3, zr_84_5, zN_of (x := (d : Int)) (by omega) (by omega), show zN 7 = 7 by decide, if_neg (by omega), zr_84_8, zr_84_9 (by exact kb), p42, zr_84_12, zr_84_13 ⟨by show zNC + 2 < zk w (b + 1); rw [kp]; decide, by show zk w (b + 1) < 1000; rw [kp]; decide, by rw [zN_of (x := (d : Int)) (by omega) (by omega)]; omega, by rw [zN_of (x := (d : Int)) (by omega) (by omega)]; show _ < ((zl w (b + 1) : Nat) : Int); rw [lp]; omega⟩, td, hbd, zr_84_14s, zr_84_17, zr_84_18 (by exact kb), p42, zr_84_21, zr_84_22 ⟨by show zNC + 2 < zk w (b + 1); rw [kp]; decide, by show zk w (b + 1) < 1000; rw [kp]; decide, by rw [zN_of (x := (d : Int)) (by omega) (by omega)]; omega, by rw [zN_of (x := (d : Int)) (by omega) (by omega)]; show _ < ((zl w (b + 1) : Nat) : Int); rw [lp]; omega⟩, td, hbd, zr_84_23 (by exact kpp), f17, zr_84_26, show zN 1 = 1 by decide, if_pos (by omega), zr_84_39, zr_84_42]
  rfl
theorem m_84_go {w : zW} {Q : Option zV → zW → Prop} {b d : Nat} (kb : zk w b = 5) (p42 : zp w 42 b = some (b + 1)) (kp : zk w (b + 1) = 21) (lp : zl w (b + 1) = 7) (hd : d < 7) {p : Nat} (kpp : zk w p = 2) (hbd : zb w (b + 1) d = some p) (f17 : zf w 17 p = 0) : zR 84 2 [some (.inr (some b)), some (.inl (d : Int))] [] w Q = zR 84 2 [some (.inr (some b)), some (.inl ((d + 1 : Nat) : Int))] [] (zsf w 20 p 0) Q := by
  have td : (zN (d : Int)).toNat = d := by rw [zN_of (by omega) (by omega), Int.toNat_natCast]
  rw [zr_84_2, zr_84_3, zr_84_5, zN_of (x := (d : Int)) (by omega) (by omega), show zN 7 = 7 by decide, if_neg (by omega), zr_84_8, zr_84_9 (by exact kb), p42, zr_84_12, zr_84_13 ⟨by show zNC + 2 < zk w (b + 1); rw [kp]; decide, by show zk w (b + 1) < 1000; rw [kp]; decide, by rw [zN_of (x := (d : Int)) (by omega) (by omega)]; omega, by rw [zN_of (x := (d : Int)) (by omega) (by omega)]; show _ < ((zl w (b + 1) : Nat) : Int); rw [lp]; omega⟩, td, hbd, zr_84_14s, zr_84_17, zr_84_18 (by exact kb), p42, zr_84_21, zr_84_22 ⟨by show zNC + 2 < zk w (b + 1); rw [kp]; decide, by show zk w (b + 1) < 1000; rw [kp]; decide, by rw [zN_of (x := (d : Int)) (by omega) (by omega)]; omega, by rw [zN_of (x := (d : Int)) (by omega) (by omega)]; show _ < ((zl w (b + 1) : Nat) : Int); rw [lp]; omega⟩, td, hbd, zr_84_23 (by exact kpp), f17, zr_84_26, show zN 0 = 0 by decide, if_neg (by omega), zr_84_29, zr_84_30 (by exact kb), p42, zr_84_33, zr_84_34 ⟨by show zNC + 2 < zk w (b + 1); rw [kp]; decide, by show zk w (b + 1) < 1000; rw [kp]; decide, by rw [zN_of (x := (d : Int)) (by omega) (by omega)]; omega, by rw [zN_of (x := (d : Int)) (by omega) (by omega)]; show _ < ((zl w (b + 1) : Nat) : Int); rw [lp]; omega⟩, td, hbd, zr_84_35, zr_84_36 (by exact kpp) (Or.inl (by decide)), zr_84_39, zr_84_42]
  rfl
theorem m_84_end {w : zW} {Q : Option zV → zW → Prop} {b : Nat} : zR 84 2 [some (.inr (some b)), some (.inl 7)] [] w Q = Q none w := by
  rw [zr_84_2, zr_84_3, zr_84_5, show zN 7 = 7 by decide, if_pos (by omega), zr_84_45]
theorem m_85_null {w : zW} {Q : Option zV → zW → Prop} {b d : Nat} (kb : zk w b = 5) (p42 : zp w 42 b = some (b + 1)) (kp : zk w (b + 1) = 21) (lp : zl w (b + 1) = 7) (hd : d < 7) {x y : Int} {l4 : Option zV} (hbd : zb w (b + 1) d = none) : zR 85 2 [some (.inr (some b)), some (.inl x), some (.inl y), some (.inl (d : Int)), l4] [] w Q = zR 85 2 [some (.inr (some b)), some (.inl x), some (.inl y), some (.inl ((d + 1 : Nat) : Int)), some (.inr none)] [] w Q := by
  have td : (zN (d : Int)).toNat = d := by rw [zN_of (by omega) (by omega), Int.toNat_natCast]
  rw [zr_85_2, zr_85_3, zr_85_5, zN_of (x := (d : Int)) (by omega) (by omega), show zN 7 = 7 by decide, if_neg (by omega), zr_85_8, zr_85_9 (by exact kb), p42, zr_85_12, zr_85_13 ⟨by show zNC + 2 < zk w (b + 1); rw [kp]; decide, by show zk w (b + 1) < 1000; rw [kp]; decide, by rw [zN_of (x := (d : Int)) (by omega) (by omega)]; omega, by rw [zN_of (x := (d : Int)) (by omega) (by omega)]; show _ < ((zl w (b + 1) : Nat) : Int); rw [lp]; omega⟩, td, hbd, zr_85_14, zr_85_16, zr_85_18n, zr_85_50, zr_85_53]
  rfl
theorem m_85_res {w : zW} {Q : Option zV → zW → Prop} {b d : Nat} (kb : zk w b = 5) (p42 : zp w 42 b = some (b + 1)) (kp : zk w (b + 1) = 21) (lp : zl w (b + 1) = 7) (hd : d < 7) {x y : Int} {l4 : Option zV} {p : Nat} (kpp : zk w p = 2) (hbd : zb w (b + 1) d = some p) (f20 : zf w 20 p = 1) : zR 85 2 [some (.inr (some b)), some (.inl x), some (.inl y), some (.inl (d : Int)), l4] [] w Q = zR 85 2 [some (.inr (some b)), some (.inl x), some (.inl y), some (.inl ((d + 1 : Nat) : Int)), some (.inr (some p))] [] w Q := by
  have td : (zN (d : Int)).toNat = d := by rw [zN_of (by omega) (by omega), Int.toNat_natCast]
  rw [zr_85_2, zr_85_3, zr_85_5, zN_of (x := (d : Int)) (by omega) (by omega), show zN 7 = 7 by decide, if_neg (by omega), zr_85_8, zr_85_9 (by exact kb), p42, zr_85_12, zr_85_13 ⟨by show zNC + 2 < zk w (b + 1); rw [kp]; decide, by show zk w (b + 1) < 1000; rw [kp]; decide, by rw [zN_of (x := (d : Int)) (by omega) (by omega)]; omega, by rw [zN_of (x := (d : Int)) (by omega) (by omega)]; show _ < ((zl w (b + 1) : Nat) : Int); rw [lp]; omega⟩, td, hbd, zr_85_14, zr_85_16, zr_85_18s, zr_85_21, zr_85_23 (by exact kpp), f20, zr_85_26, show zN 1 = 1 by decide, if_pos (by omega), zr_85_50, zr_85_53]
  rfl
theorem m_85_ne {w : zW} {Q : Option zV → zW → Prop} {b d : Nat} (kb : zk w b = 5) (p42 : zp w 42 b = some (b + 1)) (kp : zk w (b + 1) = 21) (lp : zl w (b + 1) = 7) (hd : d < 7) {x y : Int} {l4 : Option zV} {p : Nat} (kpp : zk w p = 2) (hbd : zb w (b + 1) d = some p) {z : Int} (f20 : zf w 20 p = 0) (f18 : zf w 18 p = z) (rz : 0 ≤ z ∧ z ≤ 65535) (rx : 0 ≤ x ∧ x ≤ 65535) (hl : z ≠ x) : zR 85 2 [some (.inr (some b)), some (.inl x), some (.inl y), some (.inl (d : Int)), l4] [] w Q = zR 85 2 [some (.inr (some b)), some (.inl x), some (.inl y), some (.inl ((d + 1 : Nat) : Int)), some (.inr (some p))] [] w Q := by
  have td : (zN (d : Int)).toNat = d := by rw [zN_of (by omega) (by omega), Int.toNat_natCast]
  rw [zr_85_2, zr_85_3, zr_85_5, zN_of (x := (d : Int)) (by omega) (by omega), show zN 7 = 7 by decide, if_neg (by omega), zr_85_8, zr_85_9 (by exact kb), p42, zr_85_12, zr_85_13 ⟨by show zNC + 2 < zk w (b + 1); rw [kp]; decide, by show zk w (b + 1) < 1000; rw [kp]; decide, by rw [zN_of (x := (d : Int)) (by omega) (by omega)]; omega, by rw [zN_of (x := (d : Int)) (by omega) (by omega)]; show _ < ((zl w (b + 1) : Nat) : Int); rw [lp]; omega⟩, td, hbd, zr_85_14, zr_85_16, zr_85_18s, zr_85_21, zr_85_23 (by exact kpp), f20, zr_85_26, show zN 0 = 0 by decide, if_neg (by omega), zr_85_29, zr_85_31 (by exact kpp), f18, zr_85_34, zr_85_35, zN_of (x := z) (by omega) (by omega), zN_of (x := x) (by omega) (by omega), if_pos (by omega), zr_85_50, zr_85_53]
  rfl
theorem m_85_go {w : zW} {Q : Option zV → zW → Prop} {b d : Nat} (kb : zk w b = 5) (p42 : zp w 42 b = some (b + 1)) (kp : zk w (b + 1) = 21) (lp : zl w (b + 1) = 7) (hd : d < 7) {x y : Int} {l4 : Option zV} {p : Nat} (kpp : zk w p = 2) (hbd : zb w (b + 1) d = some p) {z : Int} (f20 : zf w 20 p = 0) (f18 : zf w 18 p = z) (rz : 0 ≤ z ∧ z ≤ 65535) (rx : 0 ≤ x ∧ x ≤ 65535) (hl : z = x) : zR 85 2 [some (.inr (some b)), some (.inl x), some (.inl y), some (.inl (d : Int)), l4] [] w Q = zR 85 2 [some (.inr (some b)), some (.inl x), some (.inl y), some (.inl ((d + 1 : Nat) : Int)), some (.inr (some p))] [] (zsf (zsf w 19 p y) 20 p 1) Q := by
  have td : (zN (d : Int)).toNat = d := by rw [zN_of (by omega) (by omega), Int.toNat_natCast]
  rw [zr_85_2, zr_85_3, zr_85_5, zN_of (x := (d : Int)) (by omega) (by omega), show zN 7 = 7 by decide, if_neg (by omega), zr_85_8, zr_85_9 (by exact kb), p42, zr_85_12, zr_85_13 ⟨by show zNC + 2 < zk w (b + 1); rw [kp]; decide, by show zk w (b + 1) < 1000; rw [kp]; decide, by rw [zN_of (x := (d : Int)) (by omega) (by omega)]; omega, by rw [zN_of (x := (d : Int)) (by omega) (by omega)]; show _ < ((zl w (b + 1) : Nat) : Int); rw [lp]; omega⟩, td, hbd, zr_85_14, zr_85_16, zr_85_18s, zr_85_21, zr_85_23 (by exact kpp), f20, zr_85_26, show zN 0 = 0 by decide, if_neg (by omega), zr_85_29, zr_85_31 (by exact kpp), f18, zr_85_34, zr_85_35, zN_of (x := z) (by omega) (by omega), zN_of (x := x) (by omega) (by omega), if_neg (by omega), zr_85_38, zr_85_40, zr_85_41 (by exact kpp), zr_85_44, zr_85_46, zr_85_47 (by exact kpp) (Or.inr (by decide)), zr_85_50, zr_85_53]
  rfl
theorem m_85_end {w : zW} {Q : Option zV → zW → Prop} {b : Nat} {x y : Int} {l4 : Option zV} : zR 85 2 [some (.inr (some b)), some (.inl x), some (.inl y), some (.inl 7), l4] [] w Q = Q none w := by
  rw [zr_85_2, zr_85_3, zr_85_5, show zN 7 = 7 by decide, if_pos (by omega), zr_85_56]
theorem m_86_null {w : zW} {Q : Option zV → zW → Prop} {b d : Nat} (kb : zk w b = 5) (p42 : zp w 42 b = some (b + 1)) (kp : zk w (b + 1) = 21) (lp : zl w (b + 1) = 7) (hd : d < 7) {x y : Int} {l4 : Option zV} (hbd : zb w (b + 1) d = none) : zR 86 2 [some (.inr (some b)), some (.inl x), some (.inl y), some (.inl (d : Int)), l4] [] w Q = zR 86 2 [some (.inr (some b)), some (.inl x), some (.inl y), some (.inl ((d + 1 : Nat) : Int)), some (.inr none)] [] w Q := by
  have td : (zN (d : Int)).toNat = d := by rw [zN_of (by omega) (by omega), Int.toNat_natCast]
  rw [zr_86_2, zr_86_3, zr_86_5, zN_of (x := (d : Int)) (by omega) (by omega), show zN 7 = 7 by decide, if_neg (by omega), zr_86_8, zr_86_9 (by exact kb), p42, zr_86_12, zr_86_13 ⟨by show zNC + 2 < zk w (b + 1); rw [kp]; decide, by show zk w (b + 1) < 1000; rw [kp]; decide, by rw [zN_of (x := (d : Int)) (by omega) (by omega)]; omega, by rw [zN_of (x := (d : Int)) (by omega) (by omega)]; show _ < ((zl w (b + 1) : Nat) : Int); rw [lp]; omega⟩, td, hbd, zr_86_14, zr_86_16, zr_86_18n, zr_86_44, zr_86_47]
  rfl
theorem m_86_own {w : zW} {Q : Option zV → zW → Prop} {b d : Nat} (kb : zk w b = 5) (p42 : zp w 42 b = some (b + 1)) (kp : zk w (b + 1) = 21) (lp : zl w (b + 1) = 7) (hd : d < 7) {x y : Int} {l4 : Option zV} {p : Nat} (kpp : zk w p = 2) (hbd : zb w (b + 1) d = some p) (f17 : zf w 17 p = 1) : zR 86 2 [some (.inr (some b)), some (.inl x), some (.inl y), some (.inl (d : Int)), l4] [] w Q = zR 86 2 [some (.inr (some b)), some (.inl x), some (.inl y), some (.inl ((d + 1 : Nat) : Int)), some (.inr (some p))] [] w Q := by
  have td : (zN (d : Int)).toNat = d := by rw [zN_of (by omega) (by omega), Int.toNat_natCast]
  rw [zr_86_2, zr_86_3, zr_86_5, zN_of (x := (d : Int)) (by omega) (by omega), show zN 7 = 7 by decide, if_neg (by omega), zr_86_8, zr_86_9 (by exact kb), p42, zr_86_12, zr_86_13 ⟨by show zNC + 2 < zk w (b + 1); rw [kp]; decide, by show zk w (b + 1) < 1000; rw [kp]; decide, by rw [zN_of (x := (d : Int)) (by omega) (by omega)]; omega, by rw [zN_of (x := (d : Int)) (by omega) (by omega)]; show _ < ((zl w (b + 1) : Nat) : Int); rw [lp]; omega⟩, td, hbd, zr_86_14, zr_86_16, zr_86_18s, zr_86_21, zr_86_23 (by exact kpp), f17, zr_86_26, show zN 1 = 1 by decide, if_pos (by omega), zr_86_44, zr_86_47]
  rfl
theorem m_86_ne {w : zW} {Q : Option zV → zW → Prop} {b d : Nat} (kb : zk w b = 5) (p42 : zp w 42 b = some (b + 1)) (kp : zk w (b + 1) = 21) (lp : zl w (b + 1) = 7) (hd : d < 7) {x y : Int} {l4 : Option zV} {p : Nat} (kpp : zk w p = 2) (hbd : zb w (b + 1) d = some p) {z : Int} (f17 : zf w 17 p = 0) (f19 : zf w 19 p = z) (rz : 0 ≤ z ∧ z ≤ 65535) (rx : 0 ≤ x ∧ x ≤ 65535) (hl : z ≠ x) : zR 86 2 [some (.inr (some b)), some (.inl x), some (.inl y), some (.inl (d : Int)), l4] [] w Q = zR 86 2 [some (.inr (some b)), some (.inl x), some (.inl y), some (.inl ((d + 1 : Nat) : Int)), some (.inr (some p))] [] w Q := by
  have td : (zN (d : Int)).toNat = d := by rw [zN_of (by omega) (by omega), Int.toNat_natCast]
  rw [zr_86_2, zr_86_3, zr_86_5, zN_of (x := (d : Int)) (by omega) (by omega), show zN 7 = 7 by decide, if_neg (by omega), zr_86_8, zr_86_9 (by exact kb), p42, zr_86_12, zr_86_13 ⟨by show zNC + 2 < zk w (b + 1); rw [kp]; decide, by show zk w (b + 1) < 1000; rw [kp]; decide, by rw [zN_of (x := (d : Int)) (by omega) (by omega)]; omega, by rw [zN_of (x := (d : Int)) (by omega) (by omega)]; show _ < ((zl w (b + 1) : Nat) : Int); rw [lp]; omega⟩, td, hbd, zr_86_14, zr_86_16, zr_86_18s, zr_86_21, zr_86_23 (by exact kpp), f17, zr_86_26, show zN 0 = 0 by decide, if_neg (by omega), zr_86_29, zr_86_31 (by exact kpp), f19, zr_86_34, zr_86_35, zN_of (x := z) (by omega) (by omega), zN_of (x := x) (by omega) (by omega), if_pos (by omega), zr_86_44, zr_86_47]
  rfl
theorem m_86_go {w : zW} {Q : Option zV → zW → Prop} {b d : Nat} (kb : zk w b = 5) (p42 : zp w 42 b = some (b + 1)) (kp : zk w (b + 1) = 21) (lp : zl w (b + 1) = 7) (hd : d < 7) {x y : Int} {l4 : Option zV} {p : Nat} (kpp : zk w p = 2) (hbd : zb w (b + 1) d = some p) {z : Int} (f17 : zf w 17 p = 0) (f19 : zf w 19 p = z) (rz : 0 ≤ z ∧ z ≤ 65535) (rx : 0 ≤ x ∧ x ≤ 65535) (hl : z = x) : zR 86 2 [some (.inr (some b)), some (.inl x), some (.inl y), some (.inl (d : Int)), l4] [] w Q = zR 86 2 [some (.inr (some b)), some (.inl x), some (.inl y), some (.inl ((d + 1 : Nat) : Int)), some (.inr (some p))] [] (zsf w 21 p y) Q := by
  have td : (zN (d : Int)).toNat = d := by rw [zN_of (by omega) (by omega), Int.toNat_natCast]
  rw [zr_86_2, zr_86_3, zr_86_5, zN_of (x := (d : Int)) (by omega) (by omega), show zN 7 = 7 by decide, if_neg (by omega), zr_86_8, zr_86_9 (by exact kb), p42, zr_86_12, zr_86_13 ⟨by show zNC + 2 < zk w (b + 1); rw [kp]; decide, by show zk w (b + 1) < 1000; rw [kp]; decide, by rw [zN_of (x := (d : Int)) (by omega) (by omega)]; omega, by rw [zN_of (x := (d : Int)) (by omega) (by omega)]; show _ < ((zl w (b + 1) : Nat) : Int); rw [lp]; omega⟩, td, hbd, zr_86_14, zr_86_16, zr_86_18s, zr_86_21, zr_86_23 (by exact kpp), f17, zr_86_26, show zN 0 = 0 by decide, if_neg (by omega), zr_86_29, zr_86_31 (by exact kpp), f19, zr_86_34, zr_86_35, zN_of (x := z) (by omega) (by omega), zN_of (x := x) (by omega) (by omega), if_neg (by omega), zr_86_38, zr_86_40, zr_86_41 (by exact kpp), zr_86_44, zr_86_47]
  rfl
theorem m_86_end {w : zW} {Q : Option zV → zW → Prop} {b : Nat} {x y : Int} {l4 : Option zV} : zR 86 2 [some (.inr (some b)), some (.inl x), some (.inl y), some (.inl 7), l4] [] w Q = Q none w := by
  rw [zr_86_2, zr_86_3, zr_86_5, show zN 7 = 7 by decide, if_pos (by omega), zr_86_50]
theorem zpd_8 {b d : Nat} (hd : d < 7) : zpd b d < 8 := by
  unfold zpd
  split <;> omega
theorem zpd_ne {b d d2 : Nat} (hd : d < 7) (hd2 : d2 < 7) (h : d ≠ d2) : zpd b d ≠ zpd b d2 := by
  unfold zpd
  split <;> split <;> omega
theorem zpd_of {s : zSt} (hi : iN s) {b : Nat} (hb2 : b < 2) {q : Int} (q0 : 0 ≤ q) (q8 : q < 8) (h : zmi s (b : Int) q) : ∃ d : Nat, d < 7 ∧ ((zpd b d : Nat) : Int) = q := by
  obtain ⟨h1, h2, h3⟩ := h
  refine ⟨q.toNat, by omega, ?_⟩
  have : ¬ (b = 1 ∧ q.toNat = 1) := fun z => by
    have e : q = 1 := by omega
    rw [e] at h1
    have := hi.2.1
    omega
  rw [show zpd b q.toNat = q.toNat from if_neg this]
  omega
def zLeD (s : zSt) (b n : Nat) (x : Int) : Prop := (x = -1 ∧ ∀ d, d < n → ¬ zUn s (b : Int) ((zpd b d : Nat) : Int)) ∨ ∃ d, d < n ∧ zUn s (b : Int) ((zpd b d : Nat) : Int) ∧ x = s 196 ((zpd b d : Nat) : Int) ∧ ∀ d2, d2 < n → zUn s (b : Int) ((zpd b d2 : Nat) : Int) → s 196 ((zpd b d : Nat) : Int) ≤ s 196 ((zpd b d2 : Nat) : Int)
theorem f20_of {B : Int} {e : Nat} {own : Nat → Nat} {s : zSt} {w : zW} (h : zJ0 B e own s w) {b p : Nat} (hp : p < 8) (h5 : s 195 (p : Int) = (b : Int)) : (zUn s (b : Int) (p : Int) ∧ zf w 20 (zPt p) = 0) ∨ (¬ zUn s (b : Int) (p : Int) ∧ zf w 20 (zPt p) = 1) := by
  have f := (h.2.2.1.1 p hp).2.2.1
  by_cases c : p = 0 ∨ p = 7
  · rw [if_pos c] at f
    exact Or.inr ⟨fun z => by have := z.1.2; omega, f⟩
  · rw [if_neg c] at f
    rcases h.2.2.1.2.2.2.1 (p : Int) (by omega) (by omega) with q | q
    · exact Or.inl ⟨⟨⟨h5, by omega, by omega⟩, q⟩, f.trans q⟩
    · exact Or.inr ⟨fun z => by have := z.2; omega, f.trans q⟩
theorem C83_n {L : Nat} {xs : Nat → Int} {B : Int} {e : Nat} {own : Nat → Nat} {s : zSt} {w : zW} (hb : zBase L xs w) (h : zJ0 B e own s w) {b : Nat} (hb2 : b < 2) : ∀ n, n ≤ 7 → ∃ x l3, zLeD s b n x ∧ ∀ Q, zR 83 4 [some (.inr (some (70 + 7 * b))), some (.inl (-1)), some (.inl ((0 : Nat) : Int)), none] [] w Q = zR 83 4 [some (.inr (some (70 + 7 * b))), some (.inl x), some (.inl (n : Int)), l3] [] w Q := by
  obtain ⟨k5, f41⟩ := zBus_any hb h.1 hb2
  obtain ⟨b1, b2, b3, -⟩ := zBus_all hb h.1 hb2
  intro n
  induction n with
  | zero =>
    intro _
    exact ⟨-1, none, Or.inl ⟨rfl, fun d hd => by omega⟩, fun _ => rfl⟩
  | succ n ih =>
    intro hn
    obtain ⟨x, l3, a1, a2⟩ := ih (by omega)
    have hp8 := zpd_8 (b := b) (show n < 7 by omega)
    have hpt := hport_of h hb2 (show n < 7 by omega)
    have r6 := h.2.2.1.2.1 ((zpd b n : Nat) : Int) (by omega) (by omega)
    have f18 := (h.2.2.1.1 _ hp8).1
    have kpp := (zPO_at hb h.1 hp8).1
    have keep : ¬ zUn s (b : Int) ((zpd b n : Nat) : Int) → zLeD s b (n + 1) x := fun z => by
      rcases a1 with ⟨q1, q2⟩ | ⟨d, q1, q2, q3, q4⟩
      · exact Or.inl ⟨q1, fun d hd => by
          by_cases e : d = n
          · rw [e]
            exact z
          · exact q2 d (by omega)⟩
      · exact Or.inr ⟨d, by omega, q2, q3, fun d2 hd2 z2 => by
          by_cases e : d2 = n
          · rw [e] at z2
            exact absurd z2 z
          · exact q4 d2 (by omega) z2⟩
    by_cases c : s 195 ((zpd b n : Nat) : Int) = (b : Int)
    · rw [if_pos c] at hpt
      rcases f20_of h hp8 c with ⟨u, f20⟩ | ⟨u, f20⟩
      · rcases a1 with ⟨q1, q2⟩ | ⟨d, q1, q2, q3, q4⟩
        · subst q1
          exact ⟨_, _, Or.inr ⟨n, by omega, u, rfl, fun d2 hd2 z2 => by
            by_cases e : d2 = n
            · rw [e]
              omega
            · exact absurd z2 (q2 d2 (by omega))⟩, fun Q => (a2 Q).trans (m_83_new k5 b1 b2 b3 (by omega) kpp hpt f20 f18)⟩
        · have rx : 0 ≤ x ∧ x ≤ 65535 := by
            rw [q3]
            exact h.2.2.1.2.1 _ (by omega) (by have := zpd_8 (b := b) (show d < 7 by omega); omega)
          by_cases hl : s 196 ((zpd b n : Nat) : Int) < x
          · exact ⟨_, _, Or.inr ⟨n, by omega, u, rfl, fun d2 hd2 z2 => by
              by_cases e : d2 = n
              · rw [e]
                omega
              · have := q4 d2 (by omega) z2
                omega⟩, fun Q => (a2 Q).trans (m_83_lt k5 b1 b2 b3 (by omega) kpp hpt f20 f18 r6 rx hl)⟩
          · exact ⟨_, _, Or.inr ⟨d, by omega, q2, q3, fun d2 hd2 z2 => by
              by_cases e : d2 = n
              · rw [e]
                omega
              · exact q4 d2 (by omega) z2⟩, fun Q => (a2 Q).trans (m_83_ge k5 b1 b2 b3 (by omega) kpp hpt f20 f18 r6 rx (by omega))⟩
      · exact ⟨_, _, keep u, fun Q => (a2 Q).trans (m_83_res k5 b1 b2 b3 (by omega) kpp hpt f20)⟩
    · rw [if_neg c] at hpt
      exact ⟨_, _, keep (fun z => c z.1.1), fun Q => (a2 Q).trans (m_83_null k5 b1 b2 b3 (by omega) hpt)⟩
theorem C83 {L : Nat} {xs : Nat → Int} {B : Int} {e : Nat} {own : Nat → Nat} {s : zSt} {w : zW} (hb : zBase L xs w) (h : zJ0 B e own s w) {b : Nat} (hb2 : b < 2) : ∃ x, zLeast s (b : Int) 8 x (-1) ∧ ∀ Q, zR 83 0 [some (.inr (some (70 + 7 * b))), none, none, none] [] w Q = Q (some (.inl x)) w := by
  obtain ⟨x, l3, a1, a2⟩ := C83_n hb h hb2 7 (by omega)
  have hi := h.2.1.2
  refine ⟨x, ?_, fun Q => ?_⟩
  · rcases a1 with ⟨q1, q2⟩ | ⟨d, q1, q2, q3, q4⟩
    · refine Or.inl ⟨q1, fun q r1 r2 z => ?_⟩
      obtain ⟨d, hd, hq⟩ := zpd_of hi hb2 r1 r2 z.1
      rw [← hq] at z
      exact q2 d hd z
    · have := zpd_8 (b := b) q1
      refine Or.inr ⟨((zpd b d : Nat) : Int), by omega, by omega, q2, q3, fun r r1 r2 z => ?_⟩
      obtain ⟨d2, hd2, hq⟩ := zpd_of hi hb2 r1 r2 z.1
      rw [← hq] at z ⊢
      exact q4 d2 hd2 z
  · rw [zr_83_0, zr_83_1, zr_83_2, zr_83_3]
    exact (a2 Q).trans m_83_end
-- fields of the ports of bus b that C holds of, changed as S says; all else as in w
def zUpd (b : Nat) (C : Nat → Prop) (S : Nat → Option Int) (w v : zW) (n : Nat) : Prop := zSF w v ∧ (∀ k j, za v k j = za w k j) ∧ (∀ f k, S f = none → zf v f k = zf w f k) ∧ (∀ f k, (∀ d, d < n → C (zpd b d) → k ≠ zPt (zpd b d)) → zf v f k = zf w f k) ∧ ∀ d f x, d < n → C (zpd b d) → S f = some x → zf v f (zPt (zpd b d)) = x
theorem zUpd_0 {b : Nat} {C : Nat → Prop} {S : Nat → Option Int} {w : zW} : zUpd b C S w w 0 := ⟨zSF.rf, fun _ _ => rfl, fun _ _ _ => rfl, fun _ _ _ => rfl, fun d f x hd => by omega⟩
theorem zUpd_n {b n : Nat} {C : Nat → Prop} {S : Nat → Option Int} {w v : zW} (h : zUpd b C S w v n) (hn : ¬ C (zpd b n)) : zUpd b C S w v (n + 1) := by
  obtain ⟨a1, a2, a3, a4, a5⟩ := h
  refine ⟨a1, a2, a3, fun f k hk => a4 f k (fun d hd => hk d (by omega)), fun d f x hd hc hs => ?_⟩
  by_cases e : d = n
  · rw [e] at hc
    exact absurd hc hn
  · exact a5 d f x (by omega) hc hs
theorem zUpd_y {b n : Nat} {C : Nat → Prop} {S : Nat → Option Int} {w v u : zW} (h : zUpd b C S w v n) (hn7 : n < 7) (hn : C (zpd b n)) (uS : zSF v u) (ua : ∀ k j, za u k j = za v k j) (un : ∀ f k, S f = none → zf u f k = zf v f k) (uo : ∀ f k, k ≠ zPt (zpd b n) → zf u f k = zf v f k) (ux : ∀ f x, S f = some x → zf u f (zPt (zpd b n)) = x) : zUpd b C S w u (n + 1) := by
  obtain ⟨a1, a2, a3, a4, a5⟩ := h
  refine ⟨zSF.tr a1 uS, fun k j => (ua k j).trans (a2 k j), fun f k hs => (un f k hs).trans (a3 f k hs), fun f k hk => (uo f k (hk n (by omega) hn)).trans (a4 f k (fun d hd => hk d (by omega))), fun d f x hd hc hs => ?_⟩
  by_cases e : d = n
  · rw [e]
    exact ux f x hs
  · have h1 := zPt_dis (zpd_8 (b := b) (show d < 7 by omega)) (zpd_8 (b := b) hn7) (zpd_ne (by omega) hn7 e)
    rw [uo f _ (by omega)]
    exact a5 d f x (by omega) hc hs
theorem zUpd.at {b n : Nat} {C : Nat → Prop} {S : Nat → Option Int} {w v : zW} (h : zUpd b C S w v n) (hn7 : n < 7) (f : Nat) : zf v f (zPt (zpd b n)) = zf w f (zPt (zpd b n)) := h.2.2.2.1 f _ (fun d hd _ => by
  have h1 := zPt_dis (zpd_8 (b := b) (show d < 7 by omega)) (zpd_8 (b := b) hn7) (zpd_ne (by omega) hn7 (by omega))
  omega)
def zS84 : Nat → Option Int := fun f => if f = 20 then some 0 else none
theorem C84_n {L : Nat} {xs : Nat → Int} {B : Int} {e : Nat} {own : Nat → Nat} {s : zSt} {w : zW} (hb : zBase L xs w) (h : zJ0 B e own s w) {b : Nat} (hb2 : b < 2) : ∀ n, n ≤ 7 → ∃ (v : zW) (l4 : Option zV), zUpd b (fun p => zmi s (b : Int) (p : Int) ∧ True) zS84 w v n ∧ ∀ Q, zR 84 2 [some (.inr (some (70 + 7 * b))), some (.inl ((0 : Nat) : Int))] [] w Q = zR 84 2 [some (.inr (some (70 + 7 * b))), some (.inl (n : Int))] [] v Q := by
  obtain ⟨k5, f41⟩ := zBus_any hb h.1 hb2
  obtain ⟨b1, b2, b3, -⟩ := zBus_all hb h.1 hb2
  intro n
  induction n with
  | zero =>
    intro _
    exact ⟨w, none, zUpd_0, fun _ => rfl⟩
  | succ n ih =>
    intro hn
    obtain ⟨v, l4, hI, a2⟩ := ih (by omega)
    have hp8 := zpd_8 (b := b) (show n < 7 by omega)
    have hpt := hport_of h hb2 (show n < 7 by omega)
    have kpp := (zPO_at hb h.1 hp8).1
    have vS := hI.1
    have at7 := hI.at (show n < 7 by omega)
    have k5v : zk v (70 + 7 * b) = 5 := by rw [vS.k]; exact k5
    have b1v : zp v 42 (70 + 7 * b) = some (70 + 7 * b + 1) := by rw [vS.p]; exact b1
    have b2v : zk v (70 + 7 * b + 1) = 21 := by rw [vS.k]; exact b2
    have b3v : zl v (70 + 7 * b + 1) = 7 := by rw [vS.l]; exact b3
    have kpv : zk v (zPt (zpd b n)) = 2 := by rw [vS.k]; exact kpp
    rw [← vS.b] at hpt
    by_cases c : s 195 ((zpd b n : Nat) : Int) = (b : Int)
    · rw [if_pos c] at hpt
      have own : zf v 17 (zPt (zpd b n)) = if zpd b n = 0 ∨ zpd b n = 7 then 1 else 0 := (at7 17).trans (zOwn h.1 hp8)
      by_cases o : zpd b n = 0 ∨ zpd b n = 7
      · rw [if_pos o] at own
        exact ⟨v, none, zUpd_n hI (fun z => by have := z.1.2; omega), fun Q => (a2 Q).trans (m_84_own k5v b1v b2v b3v (by omega) kpv hpt own)⟩
      · rw [if_neg o] at own
        refine ⟨zsf v 20 (zPt (zpd b n)) 0, none, zUpd_y hI (by omega) ⟨⟨c, by omega, by omega⟩, trivial⟩ ⟨rfl, rfl, rfl⟩ (fun _ _ => rfl) (fun f k hs => u_f_ne (fun q => by rw [q] at hs; cases hs)) (fun f k hk => u_f_nh hk) (fun f x hs => ?_), fun Q => (a2 Q).trans (m_84_go k5v b1v b2v b3v (by omega) kpv hpt own)⟩
        by_cases q : f = 20
        · subst q
          rw [u_f_eq]
          exact Option.some.inj hs
        · rw [zS84, if_neg q] at hs
          cases hs
    · rw [if_neg c] at hpt
      exact ⟨v, none, zUpd_n hI (fun z => c z.1.1), fun Q => (a2 Q).trans (m_84_null k5v b1v b2v b3v (by omega) hpt)⟩
def zS85 (y : Int) : Nat → Option Int := fun f => if f = 19 then some y else if f = 20 then some 1 else none
theorem C85_n {L : Nat} {xs : Nat → Int} {B : Int} {e : Nat} {own : Nat → Nat} {s : zSt} {w : zW} (hb : zBase L xs w) (h : zJ0 B e own s w) {b : Nat} (hb2 : b < 2) {x y : Int} (rx : 0 ≤ x ∧ x ≤ 65535) : ∀ n, n ≤ 7 → ∃ (v : zW) (l4 : Option zV), zUpd b (fun p => zmi s (b : Int) (p : Int) ∧ s 198 (p : Int) = 0 ∧ s 196 (p : Int) = x) (zS85 y) w v n ∧ ∀ Q, zR 85 2 [some (.inr (some (70 + 7 * b))), some (.inl x), some (.inl y), some (.inl ((0 : Nat) : Int)), none] [] w Q = zR 85 2 [some (.inr (some (70 + 7 * b))), some (.inl x), some (.inl y), some (.inl (n : Int)), l4] [] v Q := by
  obtain ⟨k5, f41⟩ := zBus_any hb h.1 hb2
  obtain ⟨b1, b2, b3, -⟩ := zBus_all hb h.1 hb2
  intro n
  induction n with
  | zero =>
    intro _
    exact ⟨w, none, zUpd_0, fun _ => rfl⟩
  | succ n ih =>
    intro hn
    obtain ⟨v, l4, hI, a2⟩ := ih (by omega)
    have hp8 := zpd_8 (b := b) (show n < 7 by omega)
    have hpt := hport_of h hb2 (show n < 7 by omega)
    have kpp := (zPO_at hb h.1 hp8).1
    have vS := hI.1
    have at7 := hI.at (show n < 7 by omega)
    have k5v : zk v (70 + 7 * b) = 5 := by rw [vS.k]; exact k5
    have b1v : zp v 42 (70 + 7 * b) = some (70 + 7 * b + 1) := by rw [vS.p]; exact b1
    have b2v : zk v (70 + 7 * b + 1) = 21 := by rw [vS.k]; exact b2
    have b3v : zl v (70 + 7 * b + 1) = 7 := by rw [vS.l]; exact b3
    have kpv : zk v (zPt (zpd b n)) = 2 := by rw [vS.k]; exact kpp
    rw [← vS.b] at hpt
    by_cases c : s 195 ((zpd b n : Nat) : Int) = (b : Int)
    · rw [if_pos c] at hpt
      have r6 := h.2.2.1.2.1 ((zpd b n : Nat) : Int) (by omega) (by omega)
      have f18 : zf v 18 (zPt (zpd b n)) = s 196 ((zpd b n : Nat) : Int) := (at7 18).trans (h.2.2.1.1 _ hp8).1
      rcases f20_of h hp8 c with ⟨u, f20⟩ | ⟨u, f20⟩
      · rw [← at7] at f20
        by_cases q : s 196 ((zpd b n : Nat) : Int) = x
        · refine ⟨zsf (zsf v 19 (zPt (zpd b n)) y) 20 (zPt (zpd b n)) 1, _, zUpd_y hI (by omega) ⟨u.1, u.2, q⟩ ⟨rfl, rfl, rfl⟩ (fun _ _ => rfl) (fun f k hs => ?_) (fun f k hk => ?_) (fun f z hs => ?_), fun Q => (a2 Q).trans (m_85_go k5v b1v b2v b3v (by omega) kpv hpt f20 f18 r6 rx q)⟩
          · rw [u_f_ne (fun q => by rw [q] at hs; cases hs), u_f_ne (fun q => by rw [q] at hs; cases hs)]
          · rw [u_f_nh hk, u_f_nh hk]
          · by_cases q1 : f = 20
            · subst q1
              rw [u_f_eq]
              exact Option.some.inj hs
            · by_cases q2 : f = 19
              · subst q2
                rw [u_f_ne (by decide), u_f_eq]
                exact Option.some.inj hs
              · rw [zS85, if_neg q2, if_neg q1] at hs
                cases hs
        · exact ⟨v, _, zUpd_n hI (fun z => q z.2.2), fun Q => (a2 Q).trans (m_85_ne k5v b1v b2v b3v (by omega) kpv hpt f20 f18 r6 rx q)⟩
      · rw [← at7] at f20
        exact ⟨v, _, zUpd_n hI (fun z => u ⟨z.1, z.2.1⟩), fun Q => (a2 Q).trans (m_85_res k5v b1v b2v b3v (by omega) kpv hpt f20)⟩
    · rw [if_neg c] at hpt
      exact ⟨v, some (.inr none), zUpd_n hI (fun z => c z.1.1), fun Q => (a2 Q).trans (m_85_null k5v b1v b2v b3v (by omega) hpt)⟩
def zS86 (y : Int) : Nat → Option Int := fun f => if f = 21 then some y else none
theorem C86_n {L : Nat} {xs : Nat → Int} {B : Int} {e : Nat} {own : Nat → Nat} {s : zSt} {w : zW} (hb : zBase L xs w) (h : zJ0 B e own s w) {b : Nat} (hb2 : b < 2) {x y : Int} (rx : 0 ≤ x ∧ x ≤ 65535) : ∀ n, n ≤ 7 → ∃ (v : zW) (l4 : Option zV), zUpd b (fun p => zmi s (b : Int) (p : Int) ∧ s 197 (p : Int) = x) (zS86 y) w v n ∧ ∀ Q, zR 86 2 [some (.inr (some (70 + 7 * b))), some (.inl x), some (.inl y), some (.inl ((0 : Nat) : Int)), none] [] w Q = zR 86 2 [some (.inr (some (70 + 7 * b))), some (.inl x), some (.inl y), some (.inl (n : Int)), l4] [] v Q := by
  obtain ⟨k5, f41⟩ := zBus_any hb h.1 hb2
  obtain ⟨b1, b2, b3, -⟩ := zBus_all hb h.1 hb2
  intro n
  induction n with
  | zero =>
    intro _
    exact ⟨w, none, zUpd_0, fun _ => rfl⟩
  | succ n ih =>
    intro hn
    obtain ⟨v, l4, hI, a2⟩ := ih (by omega)
    have hp8 := zpd_8 (b := b) (show n < 7 by omega)
    have hpt := hport_of h hb2 (show n < 7 by omega)
    have kpp := (zPO_at hb h.1 hp8).1
    have vS := hI.1
    have at7 := hI.at (show n < 7 by omega)
    have k5v : zk v (70 + 7 * b) = 5 := by rw [vS.k]; exact k5
    have b1v : zp v 42 (70 + 7 * b) = some (70 + 7 * b + 1) := by rw [vS.p]; exact b1
    have b2v : zk v (70 + 7 * b + 1) = 21 := by rw [vS.k]; exact b2
    have b3v : zl v (70 + 7 * b + 1) = 7 := by rw [vS.l]; exact b3
    have kpv : zk v (zPt (zpd b n)) = 2 := by rw [vS.k]; exact kpp
    rw [← vS.b] at hpt
    by_cases c : s 195 ((zpd b n : Nat) : Int) = (b : Int)
    · rw [if_pos c] at hpt
      have own : zf v 17 (zPt (zpd b n)) = if zpd b n = 0 ∨ zpd b n = 7 then 1 else 0 := (at7 17).trans (zOwn h.1 hp8)
      have f19 : zf v 19 (zPt (zpd b n)) = s 197 ((zpd b n : Nat) : Int) := (at7 19).trans (h.2.2.1.1 _ hp8).2.1
      by_cases o : zpd b n = 0 ∨ zpd b n = 7
      · rw [if_pos o] at own
        exact ⟨v, _, zUpd_n hI (fun z => by have := z.1.2; omega), fun Q => (a2 Q).trans (m_86_own k5v b1v b2v b3v (by omega) kpv hpt own)⟩
      · rw [if_neg o] at own
        have r7 := h.2.2.1.2.2.1.2.2 ((zpd b n : Nat) : Int) (by omega) (by omega)
        by_cases q : s 197 ((zpd b n : Nat) : Int) = x
        · refine ⟨zsf v 21 (zPt (zpd b n)) y, _, zUpd_y hI (by omega) ⟨⟨c, by omega, by omega⟩, q⟩ ⟨rfl, rfl, rfl⟩ (fun _ _ => rfl) (fun f k hs => u_f_ne (fun q => by rw [q] at hs; cases hs)) (fun f k hk => u_f_nh hk) (fun f x hs => ?_), fun Q => (a2 Q).trans (m_86_go k5v b1v b2v b3v (by omega) kpv hpt own f19 (by omega) rx q)⟩
          by_cases q : f = 21
          · subst q
            rw [u_f_eq]
            exact Option.some.inj hs
          · rw [zS86, if_neg q] at hs
            cases hs
        · exact ⟨v, _, zUpd_n hI (fun z => q z.2), fun Q => (a2 Q).trans (m_86_ne k5v b1v b2v b3v (by omega) kpv hpt own f19 (by omega) rx q)⟩
    · rw [if_neg c] at hpt
      exact ⟨v, some (.inr none), zUpd_n hI (fun z => c z.1.1), fun Q => (a2 Q).trans (m_86_null k5v b1v b2v b3v (by omega) hpt)⟩
theorem C84 {L : Nat} {xs : Nat → Int} {B : Int} {e : Nat} {own : Nat → Nat} {s : zSt} {w : zW} (hb : zBase L xs w) (h : zJ0 B e own s w) {b : Nat} (hb2 : b < 2) : ∃ v, zUpd b (fun p => zmi s (b : Int) (p : Int) ∧ True) zS84 w v 7 ∧ ∀ Q, zR 84 0 [some (.inr (some (70 + 7 * b))), none] [] w Q = Q none v := by
  obtain ⟨v, l4, a1, a2⟩ := C84_n hb h hb2 7 (by omega)
  refine ⟨v, a1, fun Q => ?_⟩
  rw [zr_84_0, zr_84_1]
  exact (a2 Q).trans m_84_end
theorem C85 {L : Nat} {xs : Nat → Int} {B : Int} {e : Nat} {own : Nat → Nat} {s : zSt} {w : zW} (hb : zBase L xs w) (h : zJ0 B e own s w) {b : Nat} (hb2 : b < 2) {x y : Int} (rx : 0 ≤ x ∧ x ≤ 65535) : ∃ v, zUpd b (fun p => zmi s (b : Int) (p : Int) ∧ s 198 (p : Int) = 0 ∧ s 196 (p : Int) = x) (zS85 y) w v 7 ∧ ∀ Q, zR 85 0 [some (.inr (some (70 + 7 * b))), some (.inl x), some (.inl y), none, none] [] w Q = Q none v := by
  obtain ⟨v, l4, a1, a2⟩ := C85_n (y := y) hb h hb2 rx 7 (by omega)
  refine ⟨v, a1, fun Q => ?_⟩
  rw [zr_85_0, zr_85_1]
  exact (a2 Q).trans m_85_end
theorem C86 {L : Nat} {xs : Nat → Int} {B : Int} {e : Nat} {own : Nat → Nat} {s : zSt} {w : zW} (hb : zBase L xs w) (h : zJ0 B e own s w) {b : Nat} (hb2 : b < 2) {x y : Int} (rx : 0 ≤ x ∧ x ≤ 65535) : ∃ v, zUpd b (fun p => zmi s (b : Int) (p : Int) ∧ s 197 (p : Int) = x) (zS86 y) w v 7 ∧ ∀ Q, zR 86 0 [some (.inr (some (70 + 7 * b))), some (.inl x), some (.inl y), none, none] [] w Q = Q none v := by
  obtain ⟨v, l4, a1, a2⟩ := C86_n (y := y) hb h hb2 rx 7 (by omega)
  refine ⟨v, a1, fun Q => ?_⟩
  rw [zr_86_0, zr_86_1]
  exact (a2 Q).trans m_86_end
theorem m_90_prep {w : zW} {Q : Option zV → zW → Prop} {e b : Nat} (ke : zk w e = 6) (kb : zk w b = 5) (f52 : zf w 52 e = 0) {u : zW} (keu : zk u e = 6) (h84 : ∀ Q, zR 84 0 [some (.inr (some b)), none] [] w Q = Q none u) : zR 90 0 [some (.inr (some e)), some (.inr (some b))] [] w Q = Q none (zsf (zsf (zsf (zsf u 49 e 0) 55 e 0) 52 e 1) 50 e 0) := by
  rw [zr_90_0, zr_90_1 (by exact ke), f52, zr_90_4, show zN 0 = 0 by decide, if_neg (by omega), zr_90_7, zr_90_8, zr_90_9 (by exact Nat.le_of_ble_eq_true rfl) (by exact ke), zr_91_0, zr_91_1 (by exact Nat.le_of_ble_eq_true rfl) (by exact kb), h84, Option.toList_none, List.nil_append, zr_91_4, zr_91_5, zr_91_6 (by exact keu), zr_91_9, zr_91_10, zr_91_11 (by exact keu), zr_91_14, zr_91_15, zr_91_16 (by exact Nat.le_of_ble_eq_true rfl) (by exact keu), zr_98_0, zr_98_1, zr_98_2 (by exact keu), zr_98_5, zr_98_6, zr_98_7 (by exact keu), zr_98_10, Option.toList_none, List.nil_append, zr_91_19, Option.toList_none, List.nil_append, zr_90_12]
theorem m_90_a0 {w : zW} {Q : Option zV → zW → Prop} {e b : Nat} (ke : zk w e = 6) (kb : zk w b = 5) (f52 : zf w 52 e = 1) (f48 : zf w 48 e = 1) (f49 : zf w 49 e = 0) (h83 : ∀ Q, zR 83 0 [some (.inr (some b)), none, none, none] [] w Q = Q (some (.inl (-1))) w) : zR 90 0 [some (.inr (some e)), some (.inr (some b))] [] w Q = Q none (zsf (zsf (zsf (zsf w 53 e (-1)) 51 e (zf w 55 e)) 48 e 2) 50 e 0) := by
  rw [zr_90_0, zr_90_1 (by exact ke), f52, zr_90_4, show zN 1 = 1 by decide, if_pos (by omega), zr_90_13, zr_90_14 (by exact ke), f52, zr_90_17, zr_90_18, show zN 1 = 1 by decide, if_neg (by omega), zr_90_21, zr_90_22, zr_90_23 (by exact Nat.le_of_ble_eq_true rfl) (by exact ke), zr_92_0, zr_92_1, zr_92_2 (by exact Nat.le_of_ble_eq_true rfl) (by exact kb), h83, Option.toList_some, List.cons_append, List.nil_append, zr_92_5 (by exact ke), zr_92_8, zr_92_9 (by exact ke), u_f_eq, zr_92_12, zr_92_13, show zN (-1) = (-1) by decide, if_neg (by omega), zr_92_16, zr_92_17 (by exact Nat.le_of_ble_eq_true rfl) (by exact ke), zr_93_0, zr_93_1 (by exact ke), u_f_ne (by decide), f49, zr_93_4, show zN 0 = 0 by decide, if_neg (by omega), zr_93_7, zr_93_8 (by exact Nat.le_of_ble_eq_true rfl) (by exact ke), zr_100_0, zr_100_1, zr_100_2 (by exact ke), u_f_ne (by decide), zr_100_5 (by exact ke), zr_100_8, zr_100_9, zr_100_10 (by exact Nat.le_of_ble_eq_true rfl) (by exact ke), zr_101_0, zr_101_1, zr_101_2 (by exact ke), zr_101_5, zr_101_6, zr_101_7 (by exact ke), zr_101_10, Option.toList_none, List.nil_append, zr_100_13, Option.toList_none, List.nil_append, zr_93_11, zr_93_24, Option.toList_none, List.nil_append, zr_92_20, zr_92_37, Option.toList_none, List.nil_append, zr_90_26, zr_90_27 (by exact Nat.le_of_ble_eq_true rfl) (by exact ke), zr_88_0, zr_88_1 (by exact ke), u_f_ne (by decide), u_f_eq, zr_88_4, zr_88_5, show zN 2 = 2 by decide, show zN 1 = 1 by decide, if_pos (by omega), zr_88_12, zr_88_13 (Or.inl (by decide)), Option.toList_some, List.cons_append, List.nil_append, zr_90_30, show zN 0 = 0 by decide, if_neg (by omega), zr_90_33]
theorem m_90_a1 {w : zW} {Q : Option zV → zW → Prop} {e b : Nat} (ke : zk w e = 6) (kb : zk w b = 5) (f52 : zf w 52 e = 1) (f48 : zf w 48 e = 1) {a : Int} (f49 : zf w 49 e = a) (ra2 : 0 < a ∧ a ≤ 16) (h83 : ∀ Q, zR 83 0 [some (.inr (some b)), none, none, none] [] w Q = Q (some (.inl (-1))) w) : zR 90 0 [some (.inr (some e)), some (.inr (some b))] [] w Q = zR 90 34 [some (.inr (some e)), some (.inr (some b))] [] (zsf (zsf (zsf (zsf w 53 e (-1)) 54 e 0) 52 e 3) 50 e 0) Q := by
  rw [zr_90_0, zr_90_1 (by exact ke), f52, zr_90_4, show zN 1 = 1 by decide, if_pos (by omega), zr_90_13, zr_90_14 (by exact ke), f52, zr_90_17, zr_90_18, show zN 1 = 1 by decide, if_neg (by omega), zr_90_21, zr_90_22, zr_90_23 (by exact Nat.le_of_ble_eq_true rfl) (by exact ke), zr_92_0, zr_92_1, zr_92_2 (by exact Nat.le_of_ble_eq_true rfl) (by exact kb), h83, Option.toList_some, List.cons_append, List.nil_append, zr_92_5 (by exact ke), zr_92_8, zr_92_9 (by exact ke), u_f_eq, zr_92_12, zr_92_13, show zN (-1) = (-1) by decide, if_neg (by omega), zr_92_16, zr_92_17 (by exact Nat.le_of_ble_eq_true rfl) (by exact ke), zr_93_0, zr_93_1 (by exact ke), u_f_ne (by decide), f49, zr_93_4, zN_of (x := a) (by omega) (by omega), if_pos (by omega), zr_93_14, zr_93_15, zr_93_16 (by exact ke), zr_93_19, zr_93_20, zr_93_21 (by exact Nat.le_of_ble_eq_true rfl) (by exact ke), zr_98_0, zr_98_1, zr_98_2 (by exact ke), zr_98_5, zr_98_6, zr_98_7 (by exact ke), zr_98_10, Option.toList_none, List.nil_append, zr_93_24, Option.toList_none, List.nil_append, zr_92_20, zr_92_37, Option.toList_none, List.nil_append, zr_90_26, zr_90_27 (by exact Nat.le_of_ble_eq_true rfl) (by exact ke), zr_88_0, zr_88_1 (by exact ke), u_f_ne (by decide), u_f_ne (by decide), u_f_ne (by decide), u_f_ne (by decide), f48, zr_88_4, zr_88_5, show zN 1 = 1 by decide, if_neg (by omega), zr_88_8, zr_88_9, zr_88_13 (Or.inr (by decide)), Option.toList_some, List.cons_append, List.nil_append, zr_90_30, show zN 1 = 1 by decide, if_pos (by omega)]
theorem m_90_a2 {w : zW} {Q : Option zV → zW → Prop} {e b : Nat} (ke : zk w e = 6) (kb : zk w b = 5) (f52 : zf w 52 e = 1) (f48 : zf w 48 e = 1) {x : Int} (rx : 0 ≤ x ∧ x ≤ 65535) (f49 : zf w 49 e = 16) (h83 : ∀ Q, zR 83 0 [some (.inr (some b)), none, none, none] [] w Q = Q (some (.inl x)) w) : zR 90 0 [some (.inr (some e)), some (.inr (some b))] [] w Q = Q none (zsf (zsf (zsf w 53 e x) 48 e 3) 50 e 0) := by
  rw [zr_90_0, zr_90_1 (by exact ke), f52, zr_90_4, show zN 1 = 1 by decide, if_pos (by omega), zr_90_13, zr_90_14 (by exact ke), f52, zr_90_17, zr_90_18, show zN 1 = 1 by decide, if_neg (by omega), zr_90_21, zr_90_22, zr_90_23 (by exact Nat.le_of_ble_eq_true rfl) (by exact ke), zr_92_0, zr_92_1, zr_92_2 (by exact Nat.le_of_ble_eq_true rfl) (by exact kb), h83, Option.toList_some, List.cons_append, List.nil_append, zr_92_5 (by exact ke), zr_92_8, zr_92_9 (by exact ke), u_f_eq, zr_92_12, zr_92_13, zN_of (x := x) (by omega) (by omega), show zN (-1) = (-1) by decide, if_pos (by omega), zr_92_23, zr_92_24 (by exact ke), u_f_ne (by decide), f49, zr_92_27, zr_92_29, show zN 16 = 16 by decide, if_neg (by omega), zr_92_32, zr_92_33, zr_92_34 (by exact Nat.le_of_ble_eq_true rfl) (by exact ke), zr_101_0, zr_101_1, zr_101_2 (by exact ke), zr_101_5, zr_101_6, zr_101_7 (by exact ke), zr_101_10, Option.toList_none, List.nil_append, zr_92_37, Option.toList_none, List.nil_append, zr_90_26, zr_90_27 (by exact Nat.le_of_ble_eq_true rfl) (by exact ke), zr_88_0, zr_88_1 (by exact ke), u_f_ne (by decide), u_f_eq, zr_88_4, zr_88_5, show zN 3 = 3 by decide, show zN 1 = 1 by decide, if_pos (by omega), zr_88_12, zr_88_13 (Or.inl (by decide)), Option.toList_some, List.cons_append, List.nil_append, zr_90_30, show zN 0 = 0 by decide, if_neg (by omega), zr_90_33]
theorem m_90_a3 {w : zW} {Q : Option zV → zW → Prop} {e b : Nat} (ke : zk w e = 6) (kb : zk w b = 5) (f52 : zf w 52 e = 1) (f48 : zf w 48 e = 1) {x a : Int} (rx : 0 ≤ x ∧ x ≤ 65535) (f49 : zf w 49 e = a) (ra2 : 0 ≤ a ∧ a ≤ 15) (h83 : ∀ Q, zR 83 0 [some (.inr (some b)), none, none, none] [] w Q = Q (some (.inl x)) w) : zR 90 0 [some (.inr (some e)), some (.inr (some b))] [] w Q = zR 90 34 [some (.inr (some e)), some (.inr (some b))] [] (zsf w 53 e x) Q := by
  rw [zr_90_0, zr_90_1 (by exact ke), f52, zr_90_4, show zN 1 = 1 by decide, if_pos (by omega), zr_90_13, zr_90_14 (by exact ke), f52, zr_90_17, zr_90_18, show zN 1 = 1 by decide, if_neg (by omega), zr_90_21, zr_90_22, zr_90_23 (by exact Nat.le_of_ble_eq_true rfl) (by exact ke), zr_92_0, zr_92_1, zr_92_2 (by exact Nat.le_of_ble_eq_true rfl) (by exact kb), h83, Option.toList_some, List.cons_append, List.nil_append, zr_92_5 (by exact ke), zr_92_8, zr_92_9 (by exact ke), u_f_eq, zr_92_12, zr_92_13, zN_of (x := x) (by omega) (by omega), show zN (-1) = (-1) by decide, if_pos (by omega), zr_92_23, zr_92_24 (by exact ke), u_f_ne (by decide), f49, zr_92_27, zr_92_29, zN_of (x := a) (by omega) (by omega), show zN 16 = 16 by decide, if_pos (by omega), zr_92_37, Option.toList_none, List.nil_append, zr_90_26, zr_90_27 (by exact Nat.le_of_ble_eq_true rfl) (by exact ke), zr_88_0, zr_88_1 (by exact ke), u_f_ne (by decide), f48, zr_88_4, zr_88_5, show zN 1 = 1 by decide, if_neg (by omega), zr_88_8, zr_88_9, zr_88_13 (Or.inr (by decide)), Option.toList_some, List.cons_append, List.nil_append, zr_90_30, show zN 1 = 1 by decide, if_pos (by omega)]
theorem m_90_g {w : zW} {Q : Option zV → zW → Prop} {e b : Nat} (ke : zk w e = 6) {st : Int} (f52 : zf w 52 e = st) (rst : st = 2 ∨ st = 3) (f48 : zf w 48 e = 1) : zR 90 0 [some (.inr (some e)), some (.inr (some b))] [] w Q = zR 90 34 [some (.inr (some e)), some (.inr (some b))] [] w Q := by
  rw [zr_90_0, zr_90_1 (by exact ke), f52, zr_90_4, zN_of (x := st) (by omega) (by omega), if_pos (by omega), zr_90_13, zr_90_14 (by exact ke), f52, zr_90_17, zr_90_18, zN_of (x := st) (by omega) (by omega), show zN 1 = 1 by decide, if_pos (by omega), zr_90_26, zr_90_27 (by exact Nat.le_of_ble_eq_true rfl) (by exact ke), zr_88_0, zr_88_1 (by exact ke), f48, zr_88_4, zr_88_5, show zN 1 = 1 by decide, if_neg (by omega), zr_88_8, zr_88_9, zr_88_13 (Or.inr (by decide)), Option.toList_some, List.cons_append, List.nil_append, zr_90_30, show zN 1 = 1 by decide, if_pos (by omega)]
theorem m_90_34n {w : zW} {Q : Option zV → zW → Prop} {e b : Nat} (ke : zk w e = 6) {v u : zW} (h94 : ∀ Q, zR 94 0 [some (.inr (some e)), some (.inr (some b)), none] [] w Q = Q none v) (kbv : zk v b = 5) (h77 : ∀ Q, zR 77 0 [some (.inr (some b))] [] v Q = Q (some (.inl 0)) u) (keu : zk u e = 6) {y : zW} (h99 : ∀ Q, zR 99 0 [some (.inr (some e))] [] u Q = Q none y) : zR 90 34 [some (.inr (some e)), some (.inr (some b))] [] w Q = Q none y := by
  rw [zr_90_34, zr_90_35, zr_90_36 (by exact Nat.le_of_ble_eq_true rfl) (by exact ke), h94, Option.toList_none, List.nil_append, zr_90_39, zr_90_40 (by exact Nat.le_of_ble_eq_true rfl) (by exact kbv), h77, Option.toList_some, List.cons_append, List.nil_append, zr_90_43, show zN 0 = 0 by decide, if_pos (by omega), zr_90_54, zr_90_55 (by exact Nat.le_of_ble_eq_true rfl) (by exact keu), h99, Option.toList_none, List.nil_append, zr_90_58]
theorem m_90_34y {w : zW} {Q : Option zV → zW → Prop} {e b : Nat} (ke : zk w e = 6) {v u : zW} (h94 : ∀ Q, zR 94 0 [some (.inr (some e)), some (.inr (some b)), none] [] w Q = Q none v) (kbv : zk v b = 5) (h77 : ∀ Q, zR 77 0 [some (.inr (some b))] [] v Q = Q (some (.inl 1)) u) (keu : zk u e = 6) {y : zW} (h95 : ∀ Q, zR 95 0 [some (.inr (some e)), some (.inr (some b))] [] u Q = Q none y) : zR 90 34 [some (.inr (some e)), some (.inr (some b))] [] w Q = Q none y := by
  rw [zr_90_34, zr_90_35, zr_90_36 (by exact Nat.le_of_ble_eq_true rfl) (by exact ke), h94, Option.toList_none, List.nil_append, zr_90_39, zr_90_40 (by exact Nat.le_of_ble_eq_true rfl) (by exact kbv), h77, Option.toList_some, List.cons_append, List.nil_append, zr_90_43, show zN 1 = 1 by decide, if_neg (by omega), zr_90_46, zr_90_47, zr_90_48 (by exact Nat.le_of_ble_eq_true rfl) (by exact keu), h95, Option.toList_none, List.nil_append, zr_90_51, zr_90_58]
theorem m_99_n {w : zW} {Q : Option zV → zW → Prop} {e : Nat} (ke : zk w e = 6) {f : Int} (f50 : zf w 50 e = f) (rf : 0 ≤ f ∧ f ≤ 1) : zR 99 0 [some (.inr (some e))] [] w Q = Q none (zsf w 50 e (f + 1)) := by
  rw [zr_99_0, zr_99_1, zr_99_2 (by exact ke), f50, zr_99_5, zr_99_6, zr_99_7 (by exact ke), zr_99_10, zr_99_11 (by exact ke), u_f_eq, zr_99_14, zr_99_15, zN_of (x := (f + 1)) (by omega) (by omega), show zN 3 = 3 by decide, if_pos (by omega), zr_99_23]
theorem m_99_y {w : zW} {Q : Option zV → zW → Prop} {e : Nat} (ke : zk w e = 6) {f : Int} (f50 : zf w 50 e = f) (rf : f = 2) : zR 99 0 [some (.inr (some e))] [] w Q = Q none (zsf (zsf (zsf w 50 e (f + 1)) 48 e 3) 50 e 0) := by
  rw [zr_99_0, zr_99_1, zr_99_2 (by exact ke), f50, zr_99_5, zr_99_6, zr_99_7 (by exact ke), zr_99_10, zr_99_11 (by exact ke), u_f_eq, zr_99_14, zr_99_15, zN_of (x := (f + 1)) (by omega) (by omega), show zN 3 = 3 by decide, if_neg (by omega), zr_99_18, zr_99_19, zr_99_20 (by exact Nat.le_of_ble_eq_true rfl) (by exact ke), zr_101_0, zr_101_1, zr_101_2 (by exact ke), zr_101_5, zr_101_6, zr_101_7 (by exact ke), zr_101_10, Option.toList_none, List.nil_append, zr_99_23]
theorem m_95_1 {w : zW} {Q : Option zV → zW → Prop} {e b : Nat} (ke : zk w e = 6) (f52 : zf w 52 e = 1) : zR 95 0 [some (.inr (some e)), some (.inr (some b))] [] w Q = Q none (zsf (zsf w 52 e 2) 50 e 0) := by
  rw [zr_95_0, zr_95_1 (by exact ke), f52, zr_95_4k1 (by decide), zr_95_32, zr_95_33, zr_95_34 (by exact Nat.le_of_ble_eq_true rfl) (by exact ke), zr_98_0, zr_98_1, zr_98_2 (by exact ke), zr_98_5, zr_98_6, zr_98_7 (by exact ke), zr_98_10, Option.toList_none, List.nil_append, zr_95_37, zr_95_53]
theorem m_95_2y {w : zW} {Q : Option zV → zW → Prop} {e b : Nat} (ke : zk w e = 6) (kb : zk w b = 5) {a x : Int} (f52 : zf w 52 e = 2) (f49 : zf w 49 e = a) (f53 : zf w 53 e = x) {u : zW} (keu : zk u e = 6) (g49 : zf u 49 e = a) (g53 : zf u 53 e = x) (h85 : ∀ Q, zR 85 0 [some (.inr (some b)), some (.inl x), some (.inl (16 + a)), none, none] [] w Q = Q none u) (rx : 0 ≤ x ∧ x ≤ 65535) (hx : x = 1000) : zR 95 0 [some (.inr (some e)), some (.inr (some b))] [] w Q = Q none (zsf (zsf (zsf (zsf u 49 e (a + 1)) 55 e (16 + a)) 52 e 1) 50 e 0) := by
  rw [zr_95_0, zr_95_1 (by exact ke), f52, zr_95_4k2 (by decide), zr_95_40, zr_95_41, zr_95_42 (by exact Nat.le_of_ble_eq_true rfl) (by exact ke), zr_96_0, zr_96_2, zr_96_3 (by exact ke), f49, zr_96_6, zr_96_7, zr_96_8, zr_96_9, zr_96_10 (by exact ke), f53, zr_96_13, zr_96_14 (by exact Nat.le_of_ble_eq_true rfl) (by exact kb), h85, Option.toList_none, List.nil_append, zr_96_17, zr_96_18, zr_96_19 (by exact keu), g49, zr_96_22, zr_96_23, zr_96_24 (by exact keu), zr_96_27, zr_96_28 (by exact keu), u_f_ne (by decide), g53, zr_96_31, zr_96_34, zN_of (x := x) (by omega) (by omega), show zN 1000 = 1000 by decide, if_neg (by omega), zr_96_37, zr_96_38, zr_96_39 (by exact keu), zr_96_42, zr_96_43, zr_96_44 (by exact Nat.le_of_ble_eq_true rfl) (by exact keu), zr_98_0, zr_98_1, zr_98_2 (by exact keu), zr_98_5, zr_98_6, zr_98_7 (by exact keu), zr_98_10, Option.toList_none, List.nil_append, zr_96_47, Option.toList_none, List.nil_append, zr_95_45, zr_95_53]
theorem m_95_2n {w : zW} {Q : Option zV → zW → Prop} {e b : Nat} (ke : zk w e = 6) (kb : zk w b = 5) {a x : Int} (f52 : zf w 52 e = 2) (f49 : zf w 49 e = a) (f53 : zf w 53 e = x) {u : zW} (keu : zk u e = 6) (g49 : zf u 49 e = a) (g53 : zf u 53 e = x) (h85 : ∀ Q, zR 85 0 [some (.inr (some b)), some (.inl x), some (.inl (16 + a)), none, none] [] w Q = Q none u) (rx : 0 ≤ x ∧ x ≤ 65535) (hx : x ≠ 1000) : zR 95 0 [some (.inr (some e)), some (.inr (some b))] [] w Q = Q none (zsf (zsf (zsf u 49 e (a + 1)) 52 e 1) 50 e 0) := by
  rw [zr_95_0, zr_95_1 (by exact ke), f52, zr_95_4k2 (by decide), zr_95_40, zr_95_41, zr_95_42 (by exact Nat.le_of_ble_eq_true rfl) (by exact ke), zr_96_0, zr_96_2, zr_96_3 (by exact ke), f49, zr_96_6, zr_96_7, zr_96_8, zr_96_9, zr_96_10 (by exact ke), f53, zr_96_13, zr_96_14 (by exact Nat.le_of_ble_eq_true rfl) (by exact kb), h85, Option.toList_none, List.nil_append, zr_96_17, zr_96_18, zr_96_19 (by exact keu), g49, zr_96_22, zr_96_23, zr_96_24 (by exact keu), zr_96_27, zr_96_28 (by exact keu), u_f_ne (by decide), g53, zr_96_31, zr_96_34, zN_of (x := x) (by omega) (by omega), show zN 1000 = 1000 by decide, if_pos (by omega), zr_96_42, zr_96_43, zr_96_44 (by exact Nat.le_of_ble_eq_true rfl) (by exact keu), zr_98_0, zr_98_1, zr_98_2 (by exact keu), zr_98_5, zr_98_6, zr_98_7 (by exact keu), zr_98_10, Option.toList_none, List.nil_append, zr_96_47, Option.toList_none, List.nil_append, zr_95_45, zr_95_53]
theorem m_82 {w : zW} {Q : Option zV → zW → Prop} {b : Nat} (kb : zk w b = 5) {nb fe : Int} (f41 : zf w 41 b = nb) (hfe : (nb = 0 ∧ fe = 9) ∨ (nb = 1 ∧ fe = 32)) : zR 82 0 [some (.inr (some b))] [] w Q = Q (some (.inl fe)) w := by
  rcases hfe with ⟨q1, q2⟩ | ⟨q1, q2⟩
  · subst q2
    rw [zr_82_0, zr_82_1 (by exact kb), f41, zr_82_4, zN_of (x := nb) (by omega) (by omega), if_neg (by omega), zr_82_7, zr_82_9, zr_82_14]
  · subst q2
    rw [zr_82_0, zr_82_1 (by exact kb), f41, zr_82_4, zN_of (x := nb) (by omega) (by omega), if_pos (by omega), zr_82_12, zr_82_14]
theorem m_95_3y {w : zW} {Q : Option zV → zW → Prop} {e b : Nat} (ke : zk w e = 6) (kb : zk w b = 5) {a st fe nb : Int} (f52 : zf w 52 e = 3) (f54 : zf w 54 e = st) (f41 : zf w 41 b = nb) (hfe : (nb = 0 ∧ fe = 9) ∨ (nb = 1 ∧ fe = 32)) {u : zW} (keu : zk u e = 6) (g54 : zf u 54 e = st) (g49 : zf u 49 e = a) (h86 : ∀ Q, zR 86 0 [some (.inr (some b)), some (.inl (16 + st)), some (.inl (fe + st)), none, none] [] w Q = Q none u) (rst : 0 ≤ st ∧ st ≤ 16) (rga : 0 ≤ a ∧ a ≤ 16) (hq : st + 1 = a) : zR 95 0 [some (.inr (some e)), some (.inr (some b))] [] w Q = Q none (zsf (zsf (zsf (zsf u 54 e (st + 1)) 51 e (zf u 55 e)) 48 e 2) 50 e 0) := by
  rw [zr_95_0, zr_95_1 (by exact ke), f52, zr_95_4d (by decide) (by decide), zr_95_48, zr_95_49, zr_95_50 (by exact Nat.le_of_ble_eq_true rfl) (by exact ke), zr_97_0, zr_97_1, zr_97_3, zr_97_4 (by exact ke), f54, zr_97_7, zr_97_8, zr_97_9 (by exact Nat.le_of_ble_eq_true rfl) (by exact kb), m_82 (fe := fe) kb f41 hfe, Option.toList_some, List.cons_append, List.nil_append, zr_97_12, zr_97_13 (by exact ke), f54, zr_97_16, zr_97_17 (by exact Nat.le_of_ble_eq_true rfl) (by exact kb), h86, Option.toList_none, List.nil_append, zr_97_20, zr_97_21, zr_97_22 (by exact keu), g54, zr_97_25, zr_97_26, zr_97_27 (by exact keu), zr_97_30, zr_97_31 (by exact keu), u_f_eq, zr_97_34, zr_97_35 (by exact keu), u_f_ne (by decide), g49, zr_97_38, zN_of (x := (st + 1)) (by omega) (by omega), zN_of (x := a) (by omega) (by omega), if_neg (by omega), zr_97_41, zr_97_42 (by exact Nat.le_of_ble_eq_true rfl) (by exact keu), zr_100_0, zr_100_1, zr_100_2 (by exact keu), u_f_ne (by decide), zr_100_5 (by exact keu), zr_100_8, zr_100_9, zr_100_10 (by exact Nat.le_of_ble_eq_true rfl) (by exact keu), zr_101_0, zr_101_1, zr_101_2 (by exact keu), zr_101_5, zr_101_6, zr_101_7 (by exact keu), zr_101_10, Option.toList_none, List.nil_append, zr_100_13, Option.toList_none, List.nil_append, zr_97_45, zr_97_53, Option.toList_none, List.nil_append, zr_95_53]
theorem m_95_3n {w : zW} {Q : Option zV → zW → Prop} {e b : Nat} (ke : zk w e = 6) (kb : zk w b = 5) {a st fe nb : Int} (f52 : zf w 52 e = 3) (f54 : zf w 54 e = st) (f41 : zf w 41 b = nb) (hfe : (nb = 0 ∧ fe = 9) ∨ (nb = 1 ∧ fe = 32)) {u : zW} (keu : zk u e = 6) (g54 : zf u 54 e = st) (g49 : zf u 49 e = a) (h86 : ∀ Q, zR 86 0 [some (.inr (some b)), some (.inl (16 + st)), some (.inl (fe + st)), none, none] [] w Q = Q none u) (rst : 0 ≤ st ∧ st ≤ 16) (rga : 0 ≤ a ∧ a ≤ 16) (hq : st + 1 ≠ a) : zR 95 0 [some (.inr (some e)), some (.inr (some b))] [] w Q = Q none (zsf (zsf (zsf u 54 e (st + 1)) 52 e 3) 50 e 0) := by
  rw [zr_95_0, zr_95_1 (by exact ke), f52, zr_95_4d (by decide) (by decide), zr_95_48, zr_95_49, zr_95_50 (by exact Nat.le_of_ble_eq_true rfl) (by exact ke), zr_97_0, zr_97_1, zr_97_3, zr_97_4 (by exact ke), f54, zr_97_7, zr_97_8, zr_97_9 (by exact Nat.le_of_ble_eq_true rfl) (by exact kb), m_82 (fe := fe) kb f41 hfe, Option.toList_some, List.cons_append, List.nil_append, zr_97_12, zr_97_13 (by exact ke), f54, zr_97_16, zr_97_17 (by exact Nat.le_of_ble_eq_true rfl) (by exact kb), h86, Option.toList_none, List.nil_append, zr_97_20, zr_97_21, zr_97_22 (by exact keu), g54, zr_97_25, zr_97_26, zr_97_27 (by exact keu), zr_97_30, zr_97_31 (by exact keu), u_f_eq, zr_97_34, zr_97_35 (by exact keu), u_f_ne (by decide), g49, zr_97_38, zN_of (x := (st + 1)) (by omega) (by omega), zN_of (x := a) (by omega) (by omega), if_pos (by omega), zr_97_48, zr_97_49, zr_97_50 (by exact Nat.le_of_ble_eq_true rfl) (by exact keu), zr_98_0, zr_98_1, zr_98_2 (by exact keu), zr_98_5, zr_98_6, zr_98_7 (by exact keu), zr_98_10, Option.toList_none, List.nil_append, zr_97_53, Option.toList_none, List.nil_append, zr_95_53]
theorem zRB_crc {w v : zW} {h n : Nat} {g : Int → Int} (hB : zRB w v h n g) (hc : g (n : Int) = zcrc g n) : zcrc (zrc v h) n = g (n : Int) := by
  rw [hc]
  exact zcrc_eq n (fun j j1 j2 => by
    have := hB.2.2.2.2 j.toNat (by omega)
    exact this.trans (by rw [Int.toNat_of_nonneg j1]))
theorem m_94_ask {w : zW} {e b h : Nat} (ke : zk w e = 6) (kb : zk w b = 5) (p44 : zp w 44 b = some h) (hr : zRK w h) {x : Int} (f52 : zf w 52 e = 1) (f53 : zf w 53 e = x) : ∃ v, (∀ Q, zR 94 0 [some (.inr (some e)), some (.inr (some b)), none] [] w Q = Q none v) ∧ zRB w v h 3 (zrw2 (zo_div x 256) (zo_rem x 256)) := by
  have B0 : zRB w (zsf w 57 h 0) h 0 (zrw2 (zo_div x 256) (zo_rem x 256)) := zRB_0
  have B1 := zRB_add B0 (show zo_div x 256 = (zrw2 (zo_div x 256) (zo_rem x 256)) ((0 : Nat) : Int) from (if_pos rfl).symm)
  have B2 := zRB_add B1 (show zo_rem x 256 = (zrw2 (zo_div x 256) (zo_rem x 256)) ((0 + 1 : Nat) : Int) from ((if_neg (by decide)).trans (if_pos rfl)).symm)
  have BC := zRB_add B2 (zRB_crc B2 (by exact zrw2_c))
  refine ⟨_, fun Q => ?_, BC⟩
  rw [zr_94_0, zr_94_1 (by exact kb), p44, zr_94_4, zr_94_5, zr_94_6 (by exact Nat.le_of_ble_eq_true rfl) (by exact hr.1), zr_139_0, zr_139_1, zr_139_2 (by exact hr.1), zr_139_5, Option.toList_none, List.nil_append, zr_94_9, zr_94_10 (by exact ke), u_f_ne (by decide), f52, zr_94_13, zr_94_14, show zN 1 = 1 by decide, show zN 3 = 3 by decide, if_pos (by omega), zr_94_44, zr_94_45, zr_94_46 (by exact ke), u_f_ne (by decide), f53, zr_94_49, zr_94_52 (by decide), zr_94_53 (by exact Nat.le_of_ble_eq_true rfl) (by exact hr.1), m_140 (B0.rw hr) (by omega), Option.toList_none, List.nil_append, zr_94_56, zr_94_57, zr_94_58 (by exact ke), u_f_ne (by decide), u_f_sa, u_f_ne (by decide), f53, zr_94_61, zr_94_64 (by decide), zr_94_65 (by exact Nat.le_of_ble_eq_true rfl) (by exact hr.1), m_140 (B1.rw hr) (by omega), Option.toList_none, List.nil_append, zr_94_68, zr_94_69 (by exact ke), u_f_ne (by decide), u_f_sa, u_f_ne (by decide), u_f_sa, u_f_ne (by decide), f52, zr_94_72, zr_94_73, show zN 1 = 1 by decide, show zN 2 = 2 by decide, if_pos (by omega), zr_94_87, zr_94_88 (by exact Nat.le_of_ble_eq_true rfl) (by exact hr.1), m_141 (B2.rw hr) (by omega), Option.toList_none, List.nil_append, zr_94_91]
theorem m_94_give {w : zW} {e b h : Nat} (ke : zk w e = 6) (kb : zk w b = 5) (p44 : zp w 44 b = some h) (hr : zRK w h) {x a : Int} (f52 : zf w 52 e = 2) (f53 : zf w 53 e = x) (f49 : zf w 49 e = a) : ∃ v, (∀ Q, zR 94 0 [some (.inr (some e)), some (.inr (some b)), none] [] w Q = Q none v) ∧ zRB w v h 4 (zrw3 (zo_div x 256) (zo_rem x 256) (16 + a)) := by
  have B0 : zRB w (zsf w 57 h 0) h 0 (zrw3 (zo_div x 256) (zo_rem x 256) (16 + a)) := zRB_0
  have B1 := zRB_add B0 (show zo_div x 256 = (zrw3 (zo_div x 256) (zo_rem x 256) (16 + a)) ((0 : Nat) : Int) from (if_pos rfl).symm)
  have B2 := zRB_add B1 (show zo_rem x 256 = (zrw3 (zo_div x 256) (zo_rem x 256) (16 + a)) ((0 + 1 : Nat) : Int) from ((if_neg (by decide)).trans (if_pos rfl)).symm)
  have B3 := zRB_add B2 (show 16 + a = (zrw3 (zo_div x 256) (zo_rem x 256) (16 + a)) ((0 + 1 + 1 : Nat) : Int) from ((if_neg (by decide)).trans ((if_neg (by decide)).trans (if_pos rfl))).symm)
  have BC := zRB_add B3 (zRB_crc B3 (by exact zrw3_c))
  refine ⟨_, fun Q => ?_, BC⟩
  rw [zr_94_0, zr_94_1 (by exact kb), p44, zr_94_4, zr_94_5, zr_94_6 (by exact Nat.le_of_ble_eq_true rfl) (by exact hr.1), zr_139_0, zr_139_1, zr_139_2 (by exact hr.1), zr_139_5, Option.toList_none, List.nil_append, zr_94_9, zr_94_10 (by exact ke), u_f_ne (by decide), f52, zr_94_13, zr_94_14, show zN 2 = 2 by decide, show zN 3 = 3 by decide, if_pos (by omega), zr_94_44, zr_94_45, zr_94_46 (by exact ke), u_f_ne (by decide), f53, zr_94_49, zr_94_52 (by decide), zr_94_53 (by exact Nat.le_of_ble_eq_true rfl) (by exact hr.1), m_140 (B0.rw hr) (by omega), Option.toList_none, List.nil_append, zr_94_56, zr_94_57, zr_94_58 (by exact ke), u_f_ne (by decide), u_f_sa, u_f_ne (by decide), f53, zr_94_61, zr_94_64 (by decide), zr_94_65 (by exact Nat.le_of_ble_eq_true rfl) (by exact hr.1), m_140 (B1.rw hr) (by omega), Option.toList_none, List.nil_append, zr_94_68, zr_94_69 (by exact ke), u_f_ne (by decide), u_f_sa, u_f_ne (by decide), u_f_sa, u_f_ne (by decide), f52, zr_94_72, zr_94_73, show zN 2 = 2 by decide, if_neg (by omega), zr_94_76, zr_94_77, zr_94_79, zr_94_80 (by exact ke), u_f_ne (by decide), u_f_sa, u_f_ne (by decide), u_f_sa, u_f_ne (by decide), f49, zr_94_83, zr_94_84 (by exact Nat.le_of_ble_eq_true rfl) (by exact hr.1), m_140 (B2.rw hr) (by omega), Option.toList_none, List.nil_append, zr_94_87, zr_94_88 (by exact Nat.le_of_ble_eq_true rfl) (by exact hr.1), m_141 (B3.rw hr) (by omega), Option.toList_none, List.nil_append, zr_94_91]
theorem m_94_set {w : zW} {e b h : Nat} (ke : zk w e = 6) (kb : zk w b = 5) (p44 : zp w 44 b = some h) (hr : zRK w h) {st fe nb : Int} (f52 : zf w 52 e = 3) (f54 : zf w 54 e = st) (f41 : zf w 41 b = nb) (hfe : (nb = 0 ∧ fe = 9) ∨ (nb = 1 ∧ fe = 32)) : ∃ v, (∀ Q, zR 94 0 [some (.inr (some e)), some (.inr (some b)), none] [] w Q = Q none v) ∧ zRB w v h 3 (zrw2 (16 + st) (fe + st)) := by
  have B0 : zRB w (zsf w 57 h 0) h 0 (zrw2 (16 + st) (fe + st)) := zRB_0
  have B1 := zRB_add B0 (show 16 + st = (zrw2 (16 + st) (fe + st)) ((0 : Nat) : Int) from (if_pos rfl).symm)
  have B2 := zRB_add B1 (show fe + st = (zrw2 (16 + st) (fe + st)) ((0 + 1 : Nat) : Int) from ((if_neg (by decide)).trans (if_pos rfl)).symm)
  have BC := zRB_add B2 (zRB_crc B2 (by exact zrw2_c))
  refine ⟨_, fun Q => ?_, BC⟩
  rw [zr_94_0, zr_94_1 (by exact kb), p44, zr_94_4, zr_94_5, zr_94_6 (by exact Nat.le_of_ble_eq_true rfl) (by exact hr.1), zr_139_0, zr_139_1, zr_139_2 (by exact hr.1), zr_139_5, Option.toList_none, List.nil_append, zr_94_9, zr_94_10 (by exact ke), u_f_ne (by decide), f52, zr_94_13, zr_94_14, show zN 3 = 3 by decide, if_neg (by omega), zr_94_17, zr_94_18, zr_94_20, zr_94_21 (by exact ke), u_f_ne (by decide), f54, zr_94_24, zr_94_25 (by exact Nat.le_of_ble_eq_true rfl) (by exact hr.1), m_140 (B0.rw hr) (by omega), Option.toList_none, List.nil_append, zr_94_28, zr_94_29, zr_94_30 (by exact Nat.le_of_ble_eq_true rfl) (by exact kb), m_82 (fe := fe) (by exact kb) (show zf _ 41 b = nb by rw [u_f_ne (by decide), u_f_sa, u_f_ne (by decide)]; exact f41) hfe, Option.toList_some, List.cons_append, List.nil_append, zr_94_33, zr_94_34 (by exact ke), u_f_ne (by decide), u_f_sa, u_f_ne (by decide), f54, zr_94_37, zr_94_38 (by exact Nat.le_of_ble_eq_true rfl) (by exact hr.1), m_140 (B1.rw hr) (by omega), Option.toList_none, List.nil_append, zr_94_41, zr_94_68, zr_94_69 (by exact ke), u_f_ne (by decide), u_f_sa, u_f_ne (by decide), u_f_sa, u_f_ne (by decide), f52, zr_94_72, zr_94_73, show zN 3 = 3 by decide, show zN 2 = 2 by decide, if_pos (by omega), zr_94_87, zr_94_88 (by exact Nat.le_of_ble_eq_true rfl) (by exact hr.1), m_141 (B2.rw hr) (by omega), Option.toList_none, List.nil_append, zr_94_91]
