-- small methods of packets and ports, in general
theorem m_117 {w : zW} {Q : Option zV → zW → Prop} {h : Nat} {t s f : Int} (hk : zk w h = 3) : zR 117 0 [some (.inr (some h)), some (.inl t), some (.inl s), some (.inl f)] [] w Q = Q none (zsf (zsf (zsf w 26 h t) 27 h s) 28 h f) := by
  rw [zr_117_0, zr_117_1, zr_117_2 (by exact hk), zr_117_5, zr_117_6, zr_117_7 (by exact hk), zr_117_10, zr_117_11, zr_117_12 (by exact hk), zr_117_15]
theorem m_118 {w : zW} {Q : Option zV → zW → Prop} {h src dst : Nat} {sp n : Int} (hk : zk w h = 3) (hp : zp w 30 h = some dst) (k1 : zk w src = zNC) (k2 : zk w dst = zNC) (h1 : 0 ≤ zN sp) (h2 : 0 ≤ zN n) (h3 : zN sp + zN n ≤ zl w src) (h4 : zN n ≤ zl w dst) :
    zR 118 0 [some (.inr (some h)), some (.inr (some src)), some (.inl sp), some (.inl n)] [] w Q = Q none (zcp (zsf w 29 h n) src (zN sp).toNat dst (zN 0).toNat (zN n).toNat) := by
  have z0 : zN 0 = 0 := by decide
  rw [zr_118_0, zr_118_1, zr_118_2 (by exact hk), zr_118_5, zr_118_6, zr_118_7, zr_118_8 (by exact hk), show zp (zsf w 29 h n) 30 h = some dst from hp, zr_118_11, zr_118_12, zr_118_13 (w := zsf w 29 h n) ⟨k1, k2, h1, by rw [z0]; decide, h2, h3, by rw [z0, Int.zero_add]; exact h4, Nat.le_of_ble_eq_true rfl⟩, zr_118_16]
theorem m_129 {w : zW} {Q : Option zV → zW → Prop} {h : Nat} {n : Int} (hk : zk w h = 2) : zR 129 0 [some (.inr (some h)), some (.inl n)] [] w Q = Q (some (.inl (if 8 < zN (zf w 23 h + n) then 0 else 1))) w := by
  rw [zr_129_0, zr_129_1 hk, zr_129_4, zr_129_5, zr_129_6, zr_129_8, show zN 8 = 8 by decide]
  by_cases h8 : 8 < zN (zf w 23 h + n)
  · rw [if_pos h8, if_pos h8, zr_129_15, zr_129_16 (Or.inl (by decide))]
  · rw [if_neg h8, if_neg h8, zr_129_11, zr_129_12, zr_129_16 (Or.inr (by decide))]
theorem m_131 {w : zW} {Q : Option zV → zW → Prop} {h s : Nat} (hk : zk w h = 2) (hp : zp w 24 h = some s) (ks : zNC + 2 < zk w s ∧ zk w s < 1000) (hi : 0 ≤ zN (zo_rem (zf w 25 h + zf w 23 h) 8) ∧ zN (zo_rem (zf w 25 h + zf w 23 h) 8) < zl w s) :
    zR 131 0 [some (.inr (some h)), none] [] w Q = Q (some (.inr (zb w s (zN (zo_rem (zf w 25 h + zf w 23 h) 8)).toNat))) (zsf w 23 h (zf w 23 h + 1)) := by
  rw [zr_131_0, zr_131_1 hk, hp, zr_131_4, zr_131_5 hk, zr_131_8, zr_131_9 hk, zr_131_12, zr_131_13, zr_131_15 (by decide), zr_131_16 ⟨ks.1, ks.2, hi.1, hi.2⟩, zr_131_17, zr_131_18, zr_131_19, zr_131_20 hk, zr_131_23, zr_131_24, zr_131_25 hk, zr_131_28, zr_131_29]
