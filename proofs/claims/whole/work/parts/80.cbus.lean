-- the class: comparing rows, where a packet is aimed at, rows written
theorem m_143_14 {w : zW} {Q : Option zV → zW → Prop} {h g n m : Nat} (hr : zRW w h n) (hs : zRW w g m) (hn : n ≤ 13) (hm : m ≤ 13) : ∀ (jj k : Nat), k + jj = min n m → zR 143 14 [some (.inr (some h)), some (.inr (some g)), some (.inl ((min n m : Nat) : Int)), some (.inl (k : Int))] [] w Q = Q (some (.inl (zlt (zrc w h) (zrc w g) (n : Int) (m : Int) jj (k : Int)))) w := by
  intro jj
  induction jj with
  | zero =>
    intro k hk
    have hk : k = min n m := by omega
    subst hk
    rw [zr_143_14, zr_143_15, zr_143_16, zN_of (x := ((min n m : Nat) : Int)) (by omega) (by omega), if_pos (by omega)]
    rw [zlt]
    by_cases hc : (n : Int) < (m : Int)
    · rw [if_pos hc]
      rw [zr_143_61, zr_143_62 (by exact hr.1), hr.2.2.2.2, zr_143_65, zr_143_66 (by exact hs.1), hs.2.2.2.2, zr_143_69, zN_of (x := (n : Int)) (by omega) (by omega), zN_of (x := (m : Int)) (by omega) (by omega), if_neg (by omega), zr_143_72, zr_143_73, zr_143_77 (Or.inr (by decide))]
    · rw [if_neg hc]
      rw [zr_143_61, zr_143_62 (by exact hr.1), hr.2.2.2.2, zr_143_65, zr_143_66 (by exact hs.1), hs.2.2.2.2, zr_143_69, zN_of (x := (n : Int)) (by omega) (by omega), zN_of (x := (m : Int)) (by omega) (by omega), if_pos (by omega), zr_143_76, zr_143_77 (Or.inl (by decide))]
  | succ jj ih =>
    intro k hk
    have tk : (zN (k : Int)).toNat = k := by rw [zN_of (by omega) (by omega), Int.toNat_natCast]
    have e1 : zrc w h (k : Int) = za w (h + 1) k := rfl
    have e2 : zrc w g (k : Int) = za w (g + 1) k := rfl
    rw [zlt, e1, e2]
    by_cases h1 : zN (za w (h + 1) k) = zN (za w (g + 1) k)
    · rw [if_pos h1]
      rw [zr_143_14, zr_143_15, zr_143_16, zN_of (x := (k : Int)) (by omega) (by omega), zN_of (x := ((min n m : Nat) : Int)) (by omega) (by omega), if_neg (by omega), zr_143_19, zr_143_20 (by exact hr.1), hr.2.1, zr_143_23, zr_143_24 ⟨Or.inl (by exact hr.2.2.1), by rw [zN_of (x := (k : Int)) (by omega) (by omega)]; omega, by rw [zN_of (x := (k : Int)) (by omega) (by omega)]; show _ < ((zl w (h + 1) : Nat) : Int); rw [hr.2.2.2.1]; omega⟩, tk, zr_143_25, zr_143_26 (by exact hs.1), hs.2.1, zr_143_29, zr_143_30 ⟨Or.inl (by exact hs.2.2.1), by rw [zN_of (x := (k : Int)) (by omega) (by omega)]; omega, by rw [zN_of (x := (k : Int)) (by omega) (by omega)]; show _ < ((zl w (g + 1) : Nat) : Int); rw [hs.2.2.2.1]; omega⟩, tk, zr_143_31, if_pos h1, zr_143_55, zr_143_58]
      exact ih (k + 1) (by omega)
    · rw [if_neg h1]
      by_cases h2 : zN (za w (h + 1) k) < zN (za w (g + 1) k)
      · rw [if_pos h2]
        rw [zr_143_14, zr_143_15, zr_143_16, zN_of (x := (k : Int)) (by omega) (by omega), zN_of (x := ((min n m : Nat) : Int)) (by omega) (by omega), if_neg (by omega), zr_143_19, zr_143_20 (by exact hr.1), hr.2.1, zr_143_23, zr_143_24 ⟨Or.inl (by exact hr.2.2.1), by rw [zN_of (x := (k : Int)) (by omega) (by omega)]; omega, by rw [zN_of (x := (k : Int)) (by omega) (by omega)]; show _ < ((zl w (h + 1) : Nat) : Int); rw [hr.2.2.2.1]; omega⟩, tk, zr_143_25, zr_143_26 (by exact hs.1), hs.2.1, zr_143_29, zr_143_30 ⟨Or.inl (by exact hs.2.2.1), by rw [zN_of (x := (k : Int)) (by omega) (by omega)]; omega, by rw [zN_of (x := (k : Int)) (by omega) (by omega)]; show _ < ((zl w (g + 1) : Nat) : Int); rw [hs.2.2.2.1]; omega⟩, tk, zr_143_31, if_neg h1, zr_143_34, zr_143_35 (by exact hr.1), hr.2.1, zr_143_38, zr_143_39 ⟨Or.inl (by exact hr.2.2.1), by rw [zN_of (x := (k : Int)) (by omega) (by omega)]; omega, by rw [zN_of (x := (k : Int)) (by omega) (by omega)]; show _ < ((zl w (h + 1) : Nat) : Int); rw [hr.2.2.2.1]; omega⟩, tk, zr_143_40, zr_143_41 (by exact hs.1), hs.2.1, zr_143_44, zr_143_45 ⟨Or.inl (by exact hs.2.2.1), by rw [zN_of (x := (k : Int)) (by omega) (by omega)]; omega, by rw [zN_of (x := (k : Int)) (by omega) (by omega)]; show _ < ((zl w (g + 1) : Nat) : Int); rw [hs.2.2.2.1]; omega⟩, tk, zr_143_46, if_neg (by omega), zr_143_49, zr_143_50, zr_143_54 (Or.inr (by decide))]
      · rw [if_neg h2]
        rw [zr_143_14, zr_143_15, zr_143_16, zN_of (x := (k : Int)) (by omega) (by omega), zN_of (x := ((min n m : Nat) : Int)) (by omega) (by omega), if_neg (by omega), zr_143_19, zr_143_20 (by exact hr.1), hr.2.1, zr_143_23, zr_143_24 ⟨Or.inl (by exact hr.2.2.1), by rw [zN_of (x := (k : Int)) (by omega) (by omega)]; omega, by rw [zN_of (x := (k : Int)) (by omega) (by omega)]; show _ < ((zl w (h + 1) : Nat) : Int); rw [hr.2.2.2.1]; omega⟩, tk, zr_143_25, zr_143_26 (by exact hs.1), hs.2.1, zr_143_29, zr_143_30 ⟨Or.inl (by exact hs.2.2.1), by rw [zN_of (x := (k : Int)) (by omega) (by omega)]; omega, by rw [zN_of (x := (k : Int)) (by omega) (by omega)]; show _ < ((zl w (g + 1) : Nat) : Int); rw [hs.2.2.2.1]; omega⟩, tk, zr_143_31, if_neg h1, zr_143_34, zr_143_35 (by exact hr.1), hr.2.1, zr_143_38, zr_143_39 ⟨Or.inl (by exact hr.2.2.1), by rw [zN_of (x := (k : Int)) (by omega) (by omega)]; omega, by rw [zN_of (x := (k : Int)) (by omega) (by omega)]; show _ < ((zl w (h + 1) : Nat) : Int); rw [hr.2.2.2.1]; omega⟩, tk, zr_143_40, zr_143_41 (by exact hs.1), hs.2.1, zr_143_44, zr_143_45 ⟨Or.inl (by exact hs.2.2.1), by rw [zN_of (x := (k : Int)) (by omega) (by omega)]; omega, by rw [zN_of (x := (k : Int)) (by omega) (by omega)]; show _ < ((zl w (g + 1) : Nat) : Int); rw [hs.2.2.2.1]; omega⟩, tk, zr_143_46, if_pos (by omega), zr_143_53, zr_143_54 (Or.inl (by decide))]
theorem m_143 {w : zW} {Q : Option zV → zW → Prop} {h g n m : Nat} (hr : zRW w h n) (hs : zRW w g m) (hn : n ≤ 13) (hm : m ≤ 13) : zR 143 0 [some (.inr (some h)), some (.inr (some g)), none, none] [] w Q = Q (some (.inl (zlt (zrc w h) (zrc w g) (n : Int) (m : Int) (min n m) 0))) w := by
  have hmin : (if zN (m : Int) < zN (n : Int) then (m : Int) else (n : Int)) = ((min n m : Nat) : Int) := by
    rw [zN_of (x := (m : Int)) (by omega) (by omega), zN_of (x := (n : Int)) (by omega) (by omega)]
    split <;> omega
  rw [zr_143_0, zr_143_1 (by exact hr.1), hr.2.2.2.2, zr_143_4, zr_143_5 (by exact hs.1), hs.2.2.2.2, zr_143_8 (by exact Nat.le_of_ble_eq_true rfl), hmin, zr_143_11, zr_143_12, zr_143_13]
  exact m_143_14 hr hs hn hm (min n m) 0 (by omega)
theorem zlt_eq {g h g2 h2 : Int → Int} {n m : Int} : ∀ (k : Nat) (i : Int), (∀ j, i ≤ j → j < i + (k : Int) → g j = g2 j ∧ h j = h2 j) → zlt g h n m k i = zlt g2 h2 n m k i
  | 0, _, _ => rfl
  | k + 1, i, e => by
    have e0 := e i (by omega) (by omega)
    rw [zlt, zlt, e0.1, e0.2, zlt_eq k (i + 1) (fun j j1 j2 => e j (by omega) (by omega))]
theorem m_80_dev {w : zW} {Q : Option zV → zW → Prop} {b p : Nat} (kp : zk w p = 2) (f17 : zf w 17 p = 0) : zR 80 0 [some (.inr (some b)), some (.inr (some p)), none] [] w Q = Q (some (.inl 8)) w := by
  rw [zr_80_0, zr_80_1 (by exact kp), f17, zr_80_4, show zN 0 = 0 by decide, if_neg (by omega), zr_80_7, zr_80_9]
theorem m_80_near {w : zW} {Q : Option zV → zW → Prop} {b p a : Nat} {to : Int} (kb : zk w b = 5) (hp : zPO w p) (f17 : zf w 17 p = 1) (ha : zf w 25 p = (a : Int)) (h1 : a < 8) (f26 : zf w 26 (p + 2 + 2 * a) = to) (rt : 0 ≤ to ∧ to ≤ 255) (f41 : zf w 41 b = 0) (hc : to < 32) : zR 80 0 [some (.inr (some b)), some (.inr (some p)), none] [] w Q = Q (some (.inl (to + 7))) w := by
  rw [zr_80_0, zr_80_1 (by exact hp.1), f17, zr_80_4, show zN 1 = 1 by decide, if_pos (by omega), zr_80_10, zr_80_11 (by exact Nat.le_of_ble_eq_true rfl) (by exact hp.1), m_130 hp ha h1, Option.toList_some, List.cons_append, List.nil_append, zr_80_14 (by exact (hp.2.2.2.2 a h1).2.1), f26, zr_80_17, zr_80_18, zr_80_19, zr_80_21, zN_of (x := to) (by omega) (by omega), show zN 32 = 32 by decide, if_pos (by omega), zr_80_47, zr_80_48 (by exact kb), f41, zr_80_51, zr_80_52, show zN 0 = 0 by decide, show zN 1 = 1 by decide, if_pos (by omega), zr_80_59, zr_80_60, zr_80_62, zr_80_63]
theorem m_80_brg {w : zW} {Q : Option zV → zW → Prop} {b p a : Nat} {to : Int} (kb : zk w b = 5) (hp : zPO w p) (f17 : zf w 17 p = 1) (ha : zf w 25 p = (a : Int)) (h1 : a < 8) (f26 : zf w 26 (p + 2 + 2 * a) = to) (rt : 0 ≤ to ∧ to ≤ 255) {e : Nat} {br : Int} (f41 : zf w 41 b = 0) (hc : 32 ≤ to) (p43 : zp w 43 b = some e) (ke : zk w e = 6) (f51 : zf w 51 e = br) : zR 80 0 [some (.inr (some b)), some (.inr (some p)), none] [] w Q = Q (some (.inl br)) w := by
  rw [zr_80_0, zr_80_1 (by exact hp.1), f17, zr_80_4, show zN 1 = 1 by decide, if_pos (by omega), zr_80_10, zr_80_11 (by exact Nat.le_of_ble_eq_true rfl) (by exact hp.1), m_130 hp ha h1, Option.toList_some, List.cons_append, List.nil_append, zr_80_14 (by exact (hp.2.2.2.2 a h1).2.1), f26, zr_80_17, zr_80_18, zr_80_19, zr_80_21, zN_of (x := to) (by omega) (by omega), show zN 32 = 32 by decide, if_neg (by omega), zr_80_24, zr_80_25 (by exact kb), f41, zr_80_28, zr_80_29, show zN 0 = 0 by decide, show zN 1 = 1 by decide, if_pos (by omega), zr_80_39, zr_80_40 (by exact kb), p43, zr_80_43 (by exact ke), f51, zr_80_46]
theorem m_80_far {w : zW} {Q : Option zV → zW → Prop} {b p a : Nat} {to : Int} (kb : zk w b = 5) (hp : zPO w p) (f17 : zf w 17 p = 1) (ha : zf w 25 p = (a : Int)) (h1 : a < 8) (f26 : zf w 26 (p + 2 + 2 * a) = to) (rt : 0 ≤ to ∧ to ≤ 255) (f41 : zf w 41 b = 1) (hc : 32 ≤ to) : zR 80 0 [some (.inr (some b)), some (.inr (some p)), none] [] w Q = Q (some (.inl (to - 16))) w := by
  rw [zr_80_0, zr_80_1 (by exact hp.1), f17, zr_80_4, show zN 1 = 1 by decide, if_pos (by omega), zr_80_10, zr_80_11 (by exact Nat.le_of_ble_eq_true rfl) (by exact hp.1), m_130 hp ha h1, Option.toList_some, List.cons_append, List.nil_append, zr_80_14 (by exact (hp.2.2.2.2 a h1).2.1), f26, zr_80_17, zr_80_18, zr_80_19, zr_80_21, zN_of (x := to) (by omega) (by omega), show zN 32 = 32 by decide, if_neg (by omega), zr_80_24, zr_80_25 (by exact kb), f41, zr_80_28, zr_80_29, show zN 1 = 1 by decide, if_neg (by omega), zr_80_32, zr_80_33, zr_80_35, zr_80_36, zr_80_46]
theorem m_79_y {w : zW} {Q : Option zV → zW → Prop} {b p : Nat} {wt ad aim : Int} (kb : zk w b = 5) (kp : zk w p = 2) (f23 : zf w 23 p = wt) (f19 : zf w 19 p = ad) (r1 : 0 ≤ wt ∧ wt ≤ 8) (r2 : 0 ≤ ad ∧ ad ≤ 255) (haim : ∀ Q, zR 80 0 [some (.inr (some b)), some (.inr (some p)), none] [] w Q = Q (some (.inl aim)) w) (r3 : 0 ≤ aim ∧ aim ≤ 300) (hy : 0 < wt ∧ ad ≠ 0 ∧ aim ≠ 0) : zR 79 0 [some (.inr (some b)), some (.inr (some p))] [] w Q = Q (some (.inl 1)) w := by
  rw [zr_79_0, zr_79_1 (by exact kp), f23, zr_79_4, zN_of (x := wt) (by omega) (by omega), if_neg (by omega), zr_79_7, zr_79_8 (by exact kp), f19, zr_79_11, zN_of (x := ad) (by omega) (by omega), if_neg (by omega), zr_79_14, zr_79_15, zr_79_16 (by exact Nat.le_of_ble_eq_true rfl) (by exact kb), haim, Option.toList_some, List.cons_append, List.nil_append, zr_79_19, zN_of (x := aim) (by omega) (by omega), if_neg (by omega), zr_79_22, zr_79_23, zr_79_27 (Or.inr (by decide))]
theorem m_79_n1 {w : zW} {Q : Option zV → zW → Prop} {b p : Nat} {wt ad : Int} (kb : zk w b = 5) (kp : zk w p = 2) (f23 : zf w 23 p = wt) (f19 : zf w 19 p = ad) (r1 : 0 ≤ wt ∧ wt ≤ 8) (r2 : 0 ≤ ad ∧ ad ≤ 255) (hn : wt = 0 ∨ ad = 0) : zR 79 0 [some (.inr (some b)), some (.inr (some p))] [] w Q = Q (some (.inl 0)) w := by
  by_cases h0 : wt = 0
  · rw [zr_79_0, zr_79_1 (by exact kp), f23, zr_79_4, zN_of (x := wt) (by omega) (by omega), if_pos (by omega), zr_79_26, zr_79_27 (Or.inl (by decide))]
  · rw [zr_79_0, zr_79_1 (by exact kp), f23, zr_79_4, zN_of (x := wt) (by omega) (by omega), if_neg (by omega), zr_79_7, zr_79_8 (by exact kp), f19, zr_79_11, zN_of (x := ad) (by omega) (by omega), if_pos (by omega), zr_79_26, zr_79_27 (Or.inl (by decide))]
theorem m_79_n2 {w : zW} {Q : Option zV → zW → Prop} {b p : Nat} {wt ad aim : Int} (kb : zk w b = 5) (kp : zk w p = 2) (f23 : zf w 23 p = wt) (f19 : zf w 19 p = ad) (r1 : 0 ≤ wt ∧ wt ≤ 8) (r2 : 0 ≤ ad ∧ ad ≤ 255) (haim : ∀ Q, zR 80 0 [some (.inr (some b)), some (.inr (some p)), none] [] w Q = Q (some (.inl aim)) w) (r3 : 0 ≤ aim ∧ aim ≤ 300) (hn : 0 < wt ∧ ad ≠ 0 ∧ aim = 0) : zR 79 0 [some (.inr (some b)), some (.inr (some p))] [] w Q = Q (some (.inl 0)) w := by
  rw [zr_79_0, zr_79_1 (by exact kp), f23, zr_79_4, zN_of (x := wt) (by omega) (by omega), if_neg (by omega), zr_79_7, zr_79_8 (by exact kp), f19, zr_79_11, zN_of (x := ad) (by omega) (by omega), if_neg (by omega), zr_79_14, zr_79_15, zr_79_16 (by exact Nat.le_of_ble_eq_true rfl) (by exact kb), haim, Option.toList_some, List.cons_append, List.nil_append, zr_79_19, zN_of (x := aim) (by omega) (by omega), if_pos (by omega), zr_79_26, zr_79_27 (Or.inl (by decide))]
-- a row at h that is being written: n bytes so far, as g says; all else as in w
def zRB (w v : zW) (h n : Nat) (g : Int → Int) : Prop := zSF w v ∧ (∀ f k, ¬ (f = 57 ∧ k = h) → zf v f k = zf w f k) ∧ (∀ k, k ≠ h + 1 → ∀ j, za v k j = za w k j) ∧ zf v 57 h = (n : Int) ∧ ∀ j : Nat, j < n → za v (h + 1) j = g (j : Int)
theorem zRB_0 {w : zW} {h : Nat} {g : Int → Int} : zRB w (zsf w 57 h 0) h 0 g := ⟨⟨rfl, rfl, rfl⟩, fun f k hk => by
    by_cases e : f = 57
    · exact u_f_nh (fun q => hk ⟨e, q⟩)
    · exact u_f_ne e, fun _ _ _ => rfl, u_f_eq, fun j hj => by omega⟩
theorem zRB_add {w v : zW} {h n : Nat} {g : Int → Int} {x : Int} (hB : zRB w v h n g) (hx : x = g (n : Int)) : zRB w (zsf (zsa v (h + 1) n x) 57 h ((n : Int) + 1)) h (n + 1) g := by
  obtain ⟨a1, a2, a3, a4, a5⟩ := hB
  refine ⟨⟨a1.1, a1.2.1, a1.2.2⟩, fun f k hk => ?_, fun k hk j => ?_, ?_, fun j hj => ?_⟩
  · rw [← a2 f k hk]
    by_cases e : f = 57
    · rw [u_f_nh (fun q => hk ⟨e, q⟩), u_f_sa]
    · rw [u_f_ne e, u_f_sa]
  · rw [u_a_sf, u_a_ne hk]
    exact a3 k hk j
  · rw [u_f_eq]
    omega
  · rw [u_a_sf]
    by_cases e : j = n
    · subst e
      rw [u_a_eq]
      exact hx
    · rw [u_a_nj e]
      exact a5 j (by omega)
def zRK (w : zW) (h : Nat) : Prop := zk w h = 7 ∧ zp w 56 h = some (h + 1) ∧ zk w (h + 1) = 12 ∧ zl w (h + 1) = 13
theorem zRB.rw {w v : zW} {h n : Nat} {g : Int → Int} (hB : zRB w v h n g) (hr : zRK w h) : zRW v h n := ⟨by rw [hB.1.k]; exact hr.1, by rw [hB.1.p]; exact hr.2.1, by rw [hB.1.k]; exact hr.2.2.1, by rw [hB.1.l]; exact hr.2.2.2, hB.2.2.2.1⟩
