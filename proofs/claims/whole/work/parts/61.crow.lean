-- the class: rows on a wire
-- a row at h: its bytes at h + 1, n of them in use
def zRW (w : zW) (h n : Nat) : Prop := zk w h = 7 ∧ zp w 56 h = some (h + 1) ∧ zk w (h + 1) = 12 ∧ zl w (h + 1) = 13 ∧ zf w 57 h = (n : Int)
def zrc (w : zW) (h : Nat) : Int → Int := fun i => za w (h + 1) i.toNat
theorem m_145_21 {w : zW} {Q : Option zV → zW → Prop} {l0 l1 l3 : Option zV} : ∀ (m i : Nat) (x : Int), m + i = 8 → zR 145 21 [l0, l1, some (.inl x), l3, some (.inl (i : Int))] [] w Q = zR 145 51 [l0, l1, some (.inl (zshn m x)), l3, some (.inl 8)] [] w Q := by
  intro m
  induction m with
  | zero =>
    intro i x hm
    have hi : i = 8 := by omega
    subst hi
    rw [zr_145_21, zr_145_23, zr_145_25, if_pos (by decide)]
    rfl
  | succ m ih =>
    intro i x hm
    have e2 : x * 2 = 2 * x := Int.mul_comm x 2
    by_cases hx : zN (2 * x) ≤ 255
    · rw [zr_145_21, zr_145_23, zr_145_25, zN_of (x := (i : Int)) (by omega) (by omega), show zN 8 = 8 by decide, if_neg (by omega), zr_145_28, zr_145_29, zr_145_30, zr_145_31, zr_145_32, zr_145_33, zr_145_36, e2, show zN 255 = 255 by decide, if_pos hx, zr_145_45, zr_145_48]
      have hz : zsh x = 2 * x := if_pos hx
      rw [← hz]
      exact ih (i + 1) (zsh x) (by omega)
    · rw [zr_145_21, zr_145_23, zr_145_25, zN_of (x := (i : Int)) (by omega) (by omega), show zN 8 = 8 by decide, if_neg (by omega), zr_145_28, zr_145_29, zr_145_30, zr_145_31, zr_145_32, zr_145_33, zr_145_36, e2, show zN 255 = 255 by decide, if_neg hx, zr_145_39, zr_145_40, zr_145_43, zr_145_44, zr_145_45, zr_145_48]
      have hz : zsh x = zo_xor (2 * x) 263 := if_neg hx
      rw [← hz]
      exact ih (i + 1) (zsh x) (by omega)
theorem m_145 {w : zW} {Q : Option zV → zW → Prop} {h n n0 : Nat} (hr : zRW w h n0) (hn : n ≤ 13) : zR 145 0 [some (.inr (some h)), some (.inl (n : Int)), none, none, none] [] w Q = Q (some (.inl (zcrc (zrc w h) n))) w := by
  have key : ∀ (m k : Nat) (l4 : Option zV), m + k = n → zR 145 4 [some (.inr (some h)), some (.inl (n : Int)), some (.inl (zcrc (zrc w h) k)), some (.inl (k : Int)), l4] [] w Q = Q (some (.inl (zcrc (zrc w h) n))) w := by
    intro m
    induction m with
    | zero =>
      intro k l4 hm
      have hk : k = n := by omega
      subst hk
      rw [zr_145_4, zr_145_5, zr_145_6, if_pos (Int.le_refl _), zr_145_57, zr_145_58]
    | succ m ih =>
      intro k l4 hm
      have tk : (zN (k : Int)).toNat = k := by rw [zN_of (by omega) (by omega), Int.toNat_natCast]
      rw [zr_145_4, zr_145_5, zr_145_6, zN_of (x := (k : Int)) (by omega) (by omega), zN_of (x := (n : Int)) (by omega) (by omega), if_neg (by omega), zr_145_9, zr_145_10, zr_145_11 (by exact hr.1), hr.2.1, zr_145_14, zr_145_15 ⟨Or.inl (by exact hr.2.2.1), by rw [zN_of (x := (k : Int)) (by omega) (by omega)]; omega, by rw [zN_of (x := (k : Int)) (by omega) (by omega)]; show _ < ((zl w (h + 1) : Nat) : Int); rw [hr.2.2.2.1]; omega⟩, tk, zr_145_16, zr_145_17, zr_145_18, zr_145_19]
      rw [show (0 : Int) = ((0 : Nat) : Int) from rfl, m_145_21 8 0 _ (by omega), zr_145_51, zr_145_54]
      exact ih (k + 1) _ (by omega)
  rw [zr_145_0, zr_145_1, zr_145_2, zr_145_3]
  exact key n 0 _ (by omega)
theorem m_140 {w : zW} {Q : Option zV → zW → Prop} {h n : Nat} {x : Int} (hr : zRW w h n) (hn : n < 13) : zR 140 0 [some (.inr (some h)), some (.inl x)] [] w Q = Q none (zsf (zsa w (h + 1) n x) 57 h ((n : Int) + 1)) := by
  have tk : (zN (n : Int)).toNat = n := by rw [zN_of (by omega) (by omega), Int.toNat_natCast]
  rw [zr_140_0, zr_140_1 (by exact hr.1), hr.2.2.2.2, zr_140_4, zr_140_6, zN_of (x := (n : Int)) (by omega) (by omega), show zN 13 = 13 by decide, if_neg (by omega), zr_140_9, zr_140_10 (by exact hr.1), hr.2.1, zr_140_13, zr_140_14 (by exact hr.1), hr.2.2.2.2, zr_140_17, zr_140_18 ⟨by exact hr.2.2.1, by rw [zN_of (x := (n : Int)) (by omega) (by omega)]; omega, by rw [zN_of (x := (n : Int)) (by omega) (by omega)]; show _ < ((zl w (h + 1) : Nat) : Int); rw [hr.2.2.2.1]; omega⟩, tk, zr_140_19, zr_140_20, zr_140_21 (by exact hr.1), u_f_sa, hr.2.2.2.2, zr_140_24, zr_140_25, zr_140_26 (by exact hr.1), zr_140_29]
theorem m_141 {w : zW} {Q : Option zV → zW → Prop} {h n : Nat} (hr : zRW w h n) (hn2 : n < 13) : zR 141 0 [some (.inr (some h))] [] w Q = Q none (zsf (zsa w (h + 1) n (zcrc (zrc w h) n)) 57 h ((n : Int) + 1)) := by
  have hn : n ≤ 13 := by omega
  rw [zr_141_0, zr_141_1, zr_141_2, zr_141_3 (by exact hr.1), hr.2.2.2.2, zr_141_6 (by exact Nat.le_of_ble_eq_true rfl) (by exact hr.1), m_145 hr hn, Option.toList_some, List.cons_append, List.nil_append, zr_141_9 (by exact Nat.le_of_ble_eq_true rfl) (by exact hr.1), m_140 hr hn2, Option.toList_none, List.nil_append, zr_141_12]
theorem m_142 {w : zW} {Q : Option zV → zW → Prop} {h n : Nat} (hr : zRW w h (n + 1)) (hn : n < 13) : zR 142 0 [some (.inr (some h))] [] w Q = Q (some (.inl (if zN (za w (h + 1) n) = zN (zcrc (zrc w h) n) then 1 else 0))) w := by
  have tk : (zN (n : Int)).toNat = n := by rw [zN_of (by omega) (by omega), Int.toNat_natCast]
  by_cases hx : zN (za w (h + 1) n) ≠ zN (zcrc (zrc w h) n)
  · rw [if_neg hx]
    rw [zr_142_0, zr_142_1 (by exact hr.1), hr.2.2.2.2, zr_142_4, zN_of (x := ((n + 1 : Nat) : Int)) (by omega) (by omega), if_neg (by omega), zr_142_7, zr_142_8 (by exact hr.1), hr.2.1, zr_142_11, zr_142_12 (by exact hr.1), hr.2.2.2.2, zr_142_15, zr_142_16, show ((n + 1 : Nat) : Int) - 1 = (n : Int) by omega, zr_142_17 ⟨Or.inl (by exact hr.2.2.1), by rw [zN_of (x := (n : Int)) (by omega) (by omega)]; omega, by rw [zN_of (x := (n : Int)) (by omega) (by omega)]; show _ < ((zl w (h + 1) : Nat) : Int); rw [hr.2.2.2.1]; omega⟩, tk, zr_142_18, zr_142_19, zr_142_20 (by exact hr.1), hr.2.2.2.2, zr_142_23, zr_142_24, show ((n + 1 : Nat) : Int) - 1 = (n : Int) by omega, zr_142_25 (by exact Nat.le_of_ble_eq_true rfl) (by exact hr.1), m_145 hr (n := n) (by omega), Option.toList_some, List.cons_append, List.nil_append, zr_142_28, if_pos hx, zr_142_35, zr_142_36 (Or.inl (by decide))]
  · rw [if_pos (Decidable.not_not.mp hx)]
    rw [zr_142_0, zr_142_1 (by exact hr.1), hr.2.2.2.2, zr_142_4, zN_of (x := ((n + 1 : Nat) : Int)) (by omega) (by omega), if_neg (by omega), zr_142_7, zr_142_8 (by exact hr.1), hr.2.1, zr_142_11, zr_142_12 (by exact hr.1), hr.2.2.2.2, zr_142_15, zr_142_16, show ((n + 1 : Nat) : Int) - 1 = (n : Int) by omega, zr_142_17 ⟨Or.inl (by exact hr.2.2.1), by rw [zN_of (x := (n : Int)) (by omega) (by omega)]; omega, by rw [zN_of (x := (n : Int)) (by omega) (by omega)]; show _ < ((zl w (h + 1) : Nat) : Int); rw [hr.2.2.2.1]; omega⟩, tk, zr_142_18, zr_142_19, zr_142_20 (by exact hr.1), hr.2.2.2.2, zr_142_23, zr_142_24, show ((n + 1 : Nat) : Int) - 1 = (n : Int) by omega, zr_142_25 (by exact Nat.le_of_ble_eq_true rfl) (by exact hr.1), m_145 hr (n := n) (by omega), Option.toList_some, List.cons_append, List.nil_append, zr_142_28, if_neg hx, zr_142_31, zr_142_32, zr_142_36 (Or.inr (by decide))]
theorem m_144 {w : zW} {Q : Option zV → zW → Prop} {h g n m : Nat} (hr : zRW w h m) (hr2 : zRW w g n) (hn : n ≤ 13) : zR 144 0 [some (.inr (some h)), some (.inr (some g))] [] w Q = Q none (zcp (zsf w 57 h (n : Int)) (g + 1) 0 (h + 1) 0 n) := by
  have en : zN (n : Int) = n := zN_of (by omega) (by omega)
  have tk : (zN (n : Int)).toNat = n := by rw [en, Int.toNat_natCast]
  rw [zr_144_0, zr_144_1, zr_144_2 (by exact hr2.1), hr2.2.2.2.2, zr_144_5 (by exact hr.1), zr_144_8, zr_144_9 (by exact hr2.1), u_p_sf, hr2.2.1, zr_144_12, zr_144_13, zr_144_14 (by exact hr.1), u_p_sf, hr.2.1, zr_144_17, zr_144_18, zr_144_19 (by exact hr.1), u_f_eq, zr_144_22 ⟨by exact hr2.2.2.1, by exact hr.2.2.1, by decide, by decide, by rw [en]; omega, by rw [en, show zN 0 = 0 by decide]; show _ ≤ ((zl w (g + 1) : Nat) : Int); rw [hr2.2.2.2.1]; omega, by rw [en, show zN 0 = 0 by decide]; show _ ≤ ((zl w (h + 1) : Nat) : Int); rw [hr.2.2.2.1]; omega, Nat.le_of_ble_eq_true rfl⟩, show (zN 0).toNat = 0 by decide, tk, zr_144_25]
