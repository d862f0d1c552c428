-- pointers by name, in every world that the relation holds of
theorem zcq_0_1 {w : zW} (h : zCon w) : zp w 0 1 = some 2 := by
  obtain ⟨w0, h1, h2, -⟩ := h
  exact (h2 0 1 (by omega)).trans (zfp_0_1 h1)
theorem zcq_1_1 {w : zW} (h : zCon w) : zp w 1 1 = some 3 := by
  obtain ⟨w0, h1, h2, -⟩ := h
  exact (h2 1 1 (by omega)).trans (zfp_1_1 h1)
theorem zcq_2_1 {w : zW} (h : zCon w) : zp w 2 1 = some 4 := by
  obtain ⟨w0, h1, h2, -⟩ := h
  exact (h2 2 1 (by omega)).trans (zfp_2_1 h1)
theorem zcq_3_1 {w : zW} (h : zCon w) : zp w 3 1 = some 5 := by
  obtain ⟨w0, h1, h2, -⟩ := h
  exact (h2 3 1 (by omega)).trans (zfp_3_1 h1)
theorem zcq_4_1 {w : zW} (h : zCon w) : zp w 4 1 = some 30 := by
  obtain ⟨w0, h1, h2, -⟩ := h
  exact (h2 4 1 (by omega)).trans (zfp_4_1 h1)
theorem zcq_6_5 {w : zW} (h : zCon w) : zp w 6 5 = some 25 := by
  obtain ⟨w0, h1, h2, -⟩ := h
  exact (h2 6 5 (by omega)).trans (zfp_6_5 h1)
theorem zcq_7_5 {w : zW} (h : zCon w) : zp w 7 5 = some 26 := by
  obtain ⟨w0, h1, h2, -⟩ := h
  exact (h2 7 5 (by omega)).trans (zfp_7_5 h1)
theorem zcq_8_5 {w : zW} (h : zCon w) : zp w 8 5 = some 27 := by
  obtain ⟨w0, h1, h2, -⟩ := h
  exact (h2 8 5 (by omega)).trans (zfp_8_5 h1)
theorem zcq_9_5 {w : zW} (h : zCon w) : zp w 9 5 = some 28 := by
  obtain ⟨w0, h1, h2, -⟩ := h
  exact (h2 9 5 (by omega)).trans (zfp_9_5 h1)
theorem zcq_12_5 {w : zW} (h : zCon w) : zp w 12 5 = some 29 := by
  obtain ⟨w0, h1, h2, -⟩ := h
  exact (h2 12 5 (by omega)).trans (zfp_12_5 h1)
theorem zcq_14_5 {w : zW} (h : zCon w) : zp w 14 5 = some 7 := by
  obtain ⟨w0, h1, h2, -⟩ := h
  exact (h2 14 5 (by omega)).trans (zfp_14_5 h1)
theorem zcq_16_5 {w : zW} (h : zCon w) : zp w 16 5 = some 6 := by
  obtain ⟨w0, h1, h2, -⟩ := h
  exact (h2 16 5 (by omega)).trans (zfp_16_5 h1)
theorem zcq_24_7 {w : zW} (h : zCon w) : zp w 24 7 = some 8 := by
  obtain ⟨w0, h1, h2, -⟩ := h
  exact (h2 24 7 (by omega)).trans (zfp_24_7 h1)
theorem zcq_31_30 {w : zW} (h : zCon w) : zp w 31 30 = some 52 := by
  obtain ⟨w0, h1, h2, -⟩ := h
  exact (h2 31 30 (by omega)).trans (zfp_31_30 h1)
theorem zcq_37_30 {w : zW} (h : zCon w) : zp w 37 30 = some 50 := by
  obtain ⟨w0, h1, h2, -⟩ := h
  exact (h2 37 30 (by omega)).trans (zfp_37_30 h1)
theorem zcq_40_30 {w : zW} (h : zCon w) : zp w 40 30 = some 51 := by
  obtain ⟨w0, h1, h2, -⟩ := h
  exact (h2 40 30 (by omega)).trans (zfp_40_30 h1)
theorem zcq_14_30 {w : zW} (h : zCon w) : zp w 14 30 = some 32 := by
  obtain ⟨w0, h1, h2, -⟩ := h
  exact (h2 14 30 (by omega)).trans (zfp_14_30 h1)
theorem zcq_16_30 {w : zW} (h : zCon w) : zp w 16 30 = some 31 := by
  obtain ⟨w0, h1, h2, -⟩ := h
  exact (h2 16 30 (by omega)).trans (zfp_16_30 h1)
theorem zcq_24_32 {w : zW} (h : zCon w) : zp w 24 32 = some 33 := by
  obtain ⟨w0, h1, h2, -⟩ := h
  exact (h2 24 32 (by omega)).trans (zfp_24_32 h1)
theorem zcq_24_52 {w : zW} (h : zCon w) : zp w 24 52 = some 53 := by
  obtain ⟨w0, h1, h2, -⟩ := h
  exact (h2 24 52 (by omega)).trans (zfp_24_52 h1)
theorem zcq_42_70 {w : zW} (h : zCon w) : zp w 42 70 = some 71 := by
  obtain ⟨w0, h1, h2, -⟩ := h
  exact (h2 42 70 (by omega)).trans (zfp_42_70 h1)
theorem zcq_43_70 {w : zW} (h : zCon w) : zp w 43 70 = some 72 := by
  obtain ⟨w0, h1, h2, -⟩ := h
  exact (h2 43 70 (by omega)).trans (zfp_43_70 h1)
theorem zcq_44_70 {w : zW} (h : zCon w) : zp w 44 70 = some 73 := by
  obtain ⟨w0, h1, h2, -⟩ := h
  exact (h2 44 70 (by omega)).trans (zfp_44_70 h1)
theorem zcq_47_70 {w : zW} (h : zCon w) : zp w 47 70 = some 75 := by
  obtain ⟨w0, h1, h2, -⟩ := h
  exact (h2 47 70 (by omega)).trans (zfp_47_70 h1)
theorem zcq_56_73 {w : zW} (h : zCon w) : zp w 56 73 = some 74 := by
  obtain ⟨w0, h1, h2, -⟩ := h
  exact (h2 56 73 (by omega)).trans (zfp_56_73 h1)
theorem zcq_56_75 {w : zW} (h : zCon w) : zp w 56 75 = some 76 := by
  obtain ⟨w0, h1, h2, -⟩ := h
  exact (h2 56 75 (by omega)).trans (zfp_56_75 h1)
theorem zcq_42_77 {w : zW} (h : zCon w) : zp w 42 77 = some 78 := by
  obtain ⟨w0, h1, h2, -⟩ := h
  exact (h2 42 77 (by omega)).trans (zfp_42_77 h1)
theorem zcq_43_77 {w : zW} (h : zCon w) : zp w 43 77 = some 79 := by
  obtain ⟨w0, h1, h2, -⟩ := h
  exact (h2 43 77 (by omega)).trans (zfp_43_77 h1)
theorem zcq_44_77 {w : zW} (h : zCon w) : zp w 44 77 = some 80 := by
  obtain ⟨w0, h1, h2, -⟩ := h
  exact (h2 44 77 (by omega)).trans (zfp_44_77 h1)
theorem zcq_47_77 {w : zW} (h : zCon w) : zp w 47 77 = some 82 := by
  obtain ⟨w0, h1, h2, -⟩ := h
  exact (h2 47 77 (by omega)).trans (zfp_47_77 h1)
theorem zcq_56_80 {w : zW} (h : zCon w) : zp w 56 80 = some 81 := by
  obtain ⟨w0, h1, h2, -⟩ := h
  exact (h2 56 80 (by omega)).trans (zfp_56_80 h1)
theorem zcq_56_82 {w : zW} (h : zCon w) : zp w 56 82 = some 83 := by
  obtain ⟨w0, h1, h2, -⟩ := h
  exact (h2 56 82 (by omega)).trans (zfp_56_82 h1)
theorem zcq_37_84 {w : zW} (h : zCon w) : zp w 37 84 = some 104 := by
  obtain ⟨w0, h1, h2, -⟩ := h
  exact (h2 37 84 (by omega)).trans (zfp_37_84 h1)
theorem zcq_40_84 {w : zW} (h : zCon w) : zp w 40 84 = some 105 := by
  obtain ⟨w0, h1, h2, -⟩ := h
  exact (h2 40 84 (by omega)).trans (zfp_40_84 h1)
theorem zcq_14_84 {w : zW} (h : zCon w) : zp w 14 84 = some 86 := by
  obtain ⟨w0, h1, h2, -⟩ := h
  exact (h2 14 84 (by omega)).trans (zfp_14_84 h1)
theorem zcq_16_84 {w : zW} (h : zCon w) : zp w 16 84 = some 85 := by
  obtain ⟨w0, h1, h2, -⟩ := h
  exact (h2 16 84 (by omega)).trans (zfp_16_84 h1)
theorem zcq_24_86 {w : zW} (h : zCon w) : zp w 24 86 = some 87 := by
  obtain ⟨w0, h1, h2, -⟩ := h
  exact (h2 24 86 (by omega)).trans (zfp_24_86 h1)
theorem zcq_37_106 {w : zW} (h : zCon w) : zp w 37 106 = some 126 := by
  obtain ⟨w0, h1, h2, -⟩ := h
  exact (h2 37 106 (by omega)).trans (zfp_37_106 h1)
theorem zcq_40_106 {w : zW} (h : zCon w) : zp w 40 106 = some 127 := by
  obtain ⟨w0, h1, h2, -⟩ := h
  exact (h2 40 106 (by omega)).trans (zfp_40_106 h1)
theorem zcq_14_106 {w : zW} (h : zCon w) : zp w 14 106 = some 108 := by
  obtain ⟨w0, h1, h2, -⟩ := h
  exact (h2 14 106 (by omega)).trans (zfp_14_106 h1)
theorem zcq_16_106 {w : zW} (h : zCon w) : zp w 16 106 = some 107 := by
  obtain ⟨w0, h1, h2, -⟩ := h
  exact (h2 16 106 (by omega)).trans (zfp_16_106 h1)
theorem zcq_24_108 {w : zW} (h : zCon w) : zp w 24 108 = some 109 := by
  obtain ⟨w0, h1, h2, -⟩ := h
  exact (h2 24 108 (by omega)).trans (zfp_24_108 h1)
theorem zcq_37_128 {w : zW} (h : zCon w) : zp w 37 128 = some 148 := by
  obtain ⟨w0, h1, h2, -⟩ := h
  exact (h2 37 128 (by omega)).trans (zfp_37_128 h1)
theorem zcq_40_128 {w : zW} (h : zCon w) : zp w 40 128 = some 149 := by
  obtain ⟨w0, h1, h2, -⟩ := h
  exact (h2 40 128 (by omega)).trans (zfp_40_128 h1)
theorem zcq_14_128 {w : zW} (h : zCon w) : zp w 14 128 = some 130 := by
  obtain ⟨w0, h1, h2, -⟩ := h
  exact (h2 14 128 (by omega)).trans (zfp_14_128 h1)
theorem zcq_16_128 {w : zW} (h : zCon w) : zp w 16 128 = some 129 := by
  obtain ⟨w0, h1, h2, -⟩ := h
  exact (h2 16 128 (by omega)).trans (zfp_16_128 h1)
theorem zcq_24_130 {w : zW} (h : zCon w) : zp w 24 130 = some 131 := by
  obtain ⟨w0, h1, h2, -⟩ := h
  exact (h2 24 130 (by omega)).trans (zfp_24_130 h1)
theorem zcq_37_150 {w : zW} (h : zCon w) : zp w 37 150 = some 170 := by
  obtain ⟨w0, h1, h2, -⟩ := h
  exact (h2 37 150 (by omega)).trans (zfp_37_150 h1)
theorem zcq_40_150 {w : zW} (h : zCon w) : zp w 40 150 = some 171 := by
  obtain ⟨w0, h1, h2, -⟩ := h
  exact (h2 40 150 (by omega)).trans (zfp_40_150 h1)
theorem zcq_14_150 {w : zW} (h : zCon w) : zp w 14 150 = some 152 := by
  obtain ⟨w0, h1, h2, -⟩ := h
  exact (h2 14 150 (by omega)).trans (zfp_14_150 h1)
theorem zcq_16_150 {w : zW} (h : zCon w) : zp w 16 150 = some 151 := by
  obtain ⟨w0, h1, h2, -⟩ := h
  exact (h2 16 150 (by omega)).trans (zfp_16_150 h1)
theorem zcq_24_152 {w : zW} (h : zCon w) : zp w 24 152 = some 153 := by
  obtain ⟨w0, h1, h2, -⟩ := h
  exact (h2 24 152 (by omega)).trans (zfp_24_152 h1)
theorem zcq_37_172 {w : zW} (h : zCon w) : zp w 37 172 = some 192 := by
  obtain ⟨w0, h1, h2, -⟩ := h
  exact (h2 37 172 (by omega)).trans (zfp_37_172 h1)
theorem zcq_40_172 {w : zW} (h : zCon w) : zp w 40 172 = some 193 := by
  obtain ⟨w0, h1, h2, -⟩ := h
  exact (h2 40 172 (by omega)).trans (zfp_40_172 h1)
theorem zcq_14_172 {w : zW} (h : zCon w) : zp w 14 172 = some 174 := by
  obtain ⟨w0, h1, h2, -⟩ := h
  exact (h2 14 172 (by omega)).trans (zfp_14_172 h1)
theorem zcq_16_172 {w : zW} (h : zCon w) : zp w 16 172 = some 173 := by
  obtain ⟨w0, h1, h2, -⟩ := h
  exact (h2 16 172 (by omega)).trans (zfp_16_172 h1)
theorem zcq_24_174 {w : zW} (h : zCon w) : zp w 24 174 = some 175 := by
  obtain ⟨w0, h1, h2, -⟩ := h
  exact (h2 24 174 (by omega)).trans (zfp_24_174 h1)
theorem zcb_2_0 {L : Nat} {xs : Nat → Int} {w : zW} (hb : zBase L xs w) (h : zCon w) : zb w 2 0 = some 70 := by
  obtain ⟨w0, h1, -, h2, -⟩ := h
  exact (h2 2 0 (by omega) (by rw [zk_at_2 hb]; decide) (by rw [zk_at_2 hb]; decide) (by rw [zk_at_2 hb]; decide)).trans (zfb_2_0 h1)
theorem zcb_2_1 {L : Nat} {xs : Nat → Int} {w : zW} (hb : zBase L xs w) (h : zCon w) : zb w 2 1 = some 77 := by
  obtain ⟨w0, h1, -, h2, -⟩ := h
  exact (h2 2 1 (by omega) (by rw [zk_at_2 hb]; decide) (by rw [zk_at_2 hb]; decide) (by rw [zk_at_2 hb]; decide)).trans (zfb_2_1 h1)
theorem zcb_3_0 {L : Nat} {xs : Nat → Int} {w : zW} (hb : zBase L xs w) (h : zCon w) : zb w 3 0 = some 5 := by
  obtain ⟨w0, h1, -, h2, -⟩ := h
  exact (h2 3 0 (by omega) (by rw [zk_at_3 hb]; decide) (by rw [zk_at_3 hb]; decide) (by rw [zk_at_3 hb]; decide)).trans (zfb_3_0 h1)
theorem zcb_3_1 {L : Nat} {xs : Nat → Int} {w : zW} (hb : zBase L xs w) (h : zCon w) : zb w 3 1 = some 30 := by
  obtain ⟨w0, h1, -, h2, -⟩ := h
  exact (h2 3 1 (by omega) (by rw [zk_at_3 hb]; decide) (by rw [zk_at_3 hb]; decide) (by rw [zk_at_3 hb]; decide)).trans (zfb_3_1 h1)
theorem zcb_3_2 {L : Nat} {xs : Nat → Int} {w : zW} (hb : zBase L xs w) (h : zCon w) : zb w 3 2 = some 84 := by
  obtain ⟨w0, h1, -, h2, -⟩ := h
  exact (h2 3 2 (by omega) (by rw [zk_at_3 hb]; decide) (by rw [zk_at_3 hb]; decide) (by rw [zk_at_3 hb]; decide)).trans (zfb_3_2 h1)
theorem zcb_3_3 {L : Nat} {xs : Nat → Int} {w : zW} (hb : zBase L xs w) (h : zCon w) : zb w 3 3 = some 106 := by
  obtain ⟨w0, h1, -, h2, -⟩ := h
  exact (h2 3 3 (by omega) (by rw [zk_at_3 hb]; decide) (by rw [zk_at_3 hb]; decide) (by rw [zk_at_3 hb]; decide)).trans (zfb_3_3 h1)
theorem zcb_3_4 {L : Nat} {xs : Nat → Int} {w : zW} (hb : zBase L xs w) (h : zCon w) : zb w 3 4 = some 128 := by
  obtain ⟨w0, h1, -, h2, -⟩ := h
  exact (h2 3 4 (by omega) (by rw [zk_at_3 hb]; decide) (by rw [zk_at_3 hb]; decide) (by rw [zk_at_3 hb]; decide)).trans (zfb_3_4 h1)
theorem zcb_3_5 {L : Nat} {xs : Nat → Int} {w : zW} (hb : zBase L xs w) (h : zCon w) : zb w 3 5 = some 150 := by
  obtain ⟨w0, h1, -, h2, -⟩ := h
  exact (h2 3 5 (by omega) (by rw [zk_at_3 hb]; decide) (by rw [zk_at_3 hb]; decide) (by rw [zk_at_3 hb]; decide)).trans (zfb_3_5 h1)
theorem zcb_3_6 {L : Nat} {xs : Nat → Int} {w : zW} (hb : zBase L xs w) (h : zCon w) : zb w 3 6 = some 172 := by
  obtain ⟨w0, h1, -, h2, -⟩ := h
  exact (h2 3 6 (by omega) (by rw [zk_at_3 hb]; decide) (by rw [zk_at_3 hb]; decide) (by rw [zk_at_3 hb]; decide)).trans (zfb_3_6 h1)
theorem zcb_4_0 {L : Nat} {xs : Nat → Int} {w : zW} (hb : zBase L xs w) (h : zCon w) : zb w 4 0 = none := by
  obtain ⟨w0, h1, -, h2, -⟩ := h
  exact (h2 4 0 (by omega) (by rw [zk_at_4 hb]; decide) (by rw [zk_at_4 hb]; decide) (by rw [zk_at_4 hb]; decide)).trans (zfb_4_0 h1)
theorem zcb_4_1 {L : Nat} {xs : Nat → Int} {w : zW} (hb : zBase L xs w) (h : zCon w) : zb w 4 1 = some 30 := by
  obtain ⟨w0, h1, -, h2, -⟩ := h
  exact (h2 4 1 (by omega) (by rw [zk_at_4 hb]; decide) (by rw [zk_at_4 hb]; decide) (by rw [zk_at_4 hb]; decide)).trans (zfb_4_1 h1)
theorem zcb_4_2 {L : Nat} {xs : Nat → Int} {w : zW} (hb : zBase L xs w) (h : zCon w) : zb w 4 2 = some 84 := by
  obtain ⟨w0, h1, -, h2, -⟩ := h
  exact (h2 4 2 (by omega) (by rw [zk_at_4 hb]; decide) (by rw [zk_at_4 hb]; decide) (by rw [zk_at_4 hb]; decide)).trans (zfb_4_2 h1)
theorem zcb_4_3 {L : Nat} {xs : Nat → Int} {w : zW} (hb : zBase L xs w) (h : zCon w) : zb w 4 3 = some 106 := by
  obtain ⟨w0, h1, -, h2, -⟩ := h
  exact (h2 4 3 (by omega) (by rw [zk_at_4 hb]; decide) (by rw [zk_at_4 hb]; decide) (by rw [zk_at_4 hb]; decide)).trans (zfb_4_3 h1)
theorem zcb_4_4 {L : Nat} {xs : Nat → Int} {w : zW} (hb : zBase L xs w) (h : zCon w) : zb w 4 4 = some 128 := by
  obtain ⟨w0, h1, -, h2, -⟩ := h
  exact (h2 4 4 (by omega) (by rw [zk_at_4 hb]; decide) (by rw [zk_at_4 hb]; decide) (by rw [zk_at_4 hb]; decide)).trans (zfb_4_4 h1)
theorem zcb_4_5 {L : Nat} {xs : Nat → Int} {w : zW} (hb : zBase L xs w) (h : zCon w) : zb w 4 5 = some 150 := by
  obtain ⟨w0, h1, -, h2, -⟩ := h
  exact (h2 4 5 (by omega) (by rw [zk_at_4 hb]; decide) (by rw [zk_at_4 hb]; decide) (by rw [zk_at_4 hb]; decide)).trans (zfb_4_5 h1)
theorem zcb_4_6 {L : Nat} {xs : Nat → Int} {w : zW} (hb : zBase L xs w) (h : zCon w) : zb w 4 6 = some 172 := by
  obtain ⟨w0, h1, -, h2, -⟩ := h
  exact (h2 4 6 (by omega) (by rw [zk_at_4 hb]; decide) (by rw [zk_at_4 hb]; decide) (by rw [zk_at_4 hb]; decide)).trans (zfb_4_6 h1)
theorem zcb_8_0 {L : Nat} {xs : Nat → Int} {w : zW} (hb : zBase L xs w) (h : zCon w) : zb w 8 0 = some 9 := by
  obtain ⟨w0, h1, -, h2, -⟩ := h
  exact (h2 8 0 (by omega) (by rw [zk_at_8 hb]; decide) (by rw [zk_at_8 hb]; decide) (by rw [zk_at_8 hb]; decide)).trans (zfb_8_0 h1)
theorem zcb_8_1 {L : Nat} {xs : Nat → Int} {w : zW} (hb : zBase L xs w) (h : zCon w) : zb w 8 1 = some 11 := by
  obtain ⟨w0, h1, -, h2, -⟩ := h
  exact (h2 8 1 (by omega) (by rw [zk_at_8 hb]; decide) (by rw [zk_at_8 hb]; decide) (by rw [zk_at_8 hb]; decide)).trans (zfb_8_1 h1)
theorem zcb_8_2 {L : Nat} {xs : Nat → Int} {w : zW} (hb : zBase L xs w) (h : zCon w) : zb w 8 2 = some 13 := by
  obtain ⟨w0, h1, -, h2, -⟩ := h
  exact (h2 8 2 (by omega) (by rw [zk_at_8 hb]; decide) (by rw [zk_at_8 hb]; decide) (by rw [zk_at_8 hb]; decide)).trans (zfb_8_2 h1)
theorem zcb_8_3 {L : Nat} {xs : Nat → Int} {w : zW} (hb : zBase L xs w) (h : zCon w) : zb w 8 3 = some 15 := by
  obtain ⟨w0, h1, -, h2, -⟩ := h
  exact (h2 8 3 (by omega) (by rw [zk_at_8 hb]; decide) (by rw [zk_at_8 hb]; decide) (by rw [zk_at_8 hb]; decide)).trans (zfb_8_3 h1)
theorem zcb_8_4 {L : Nat} {xs : Nat → Int} {w : zW} (hb : zBase L xs w) (h : zCon w) : zb w 8 4 = some 17 := by
  obtain ⟨w0, h1, -, h2, -⟩ := h
  exact (h2 8 4 (by omega) (by rw [zk_at_8 hb]; decide) (by rw [zk_at_8 hb]; decide) (by rw [zk_at_8 hb]; decide)).trans (zfb_8_4 h1)
theorem zcb_8_5 {L : Nat} {xs : Nat → Int} {w : zW} (hb : zBase L xs w) (h : zCon w) : zb w 8 5 = some 19 := by
  obtain ⟨w0, h1, -, h2, -⟩ := h
  exact (h2 8 5 (by omega) (by rw [zk_at_8 hb]; decide) (by rw [zk_at_8 hb]; decide) (by rw [zk_at_8 hb]; decide)).trans (zfb_8_5 h1)
theorem zcb_8_6 {L : Nat} {xs : Nat → Int} {w : zW} (hb : zBase L xs w) (h : zCon w) : zb w 8 6 = some 21 := by
  obtain ⟨w0, h1, -, h2, -⟩ := h
  exact (h2 8 6 (by omega) (by rw [zk_at_8 hb]; decide) (by rw [zk_at_8 hb]; decide) (by rw [zk_at_8 hb]; decide)).trans (zfb_8_6 h1)
theorem zcb_8_7 {L : Nat} {xs : Nat → Int} {w : zW} (hb : zBase L xs w) (h : zCon w) : zb w 8 7 = some 23 := by
  obtain ⟨w0, h1, -, h2, -⟩ := h
  exact (h2 8 7 (by omega) (by rw [zk_at_8 hb]; decide) (by rw [zk_at_8 hb]; decide) (by rw [zk_at_8 hb]; decide)).trans (zfb_8_7 h1)
theorem zcb_33_0 {L : Nat} {xs : Nat → Int} {w : zW} (hb : zBase L xs w) (h : zCon w) : zb w 33 0 = some 34 := by
  obtain ⟨w0, h1, -, h2, -⟩ := h
  exact (h2 33 0 (by omega) (by rw [zk_at_33 hb]; decide) (by rw [zk_at_33 hb]; decide) (by rw [zk_at_33 hb]; decide)).trans (zfb_33_0 h1)
theorem zcb_33_1 {L : Nat} {xs : Nat → Int} {w : zW} (hb : zBase L xs w) (h : zCon w) : zb w 33 1 = some 36 := by
  obtain ⟨w0, h1, -, h2, -⟩ := h
  exact (h2 33 1 (by omega) (by rw [zk_at_33 hb]; decide) (by rw [zk_at_33 hb]; decide) (by rw [zk_at_33 hb]; decide)).trans (zfb_33_1 h1)
theorem zcb_33_2 {L : Nat} {xs : Nat → Int} {w : zW} (hb : zBase L xs w) (h : zCon w) : zb w 33 2 = some 38 := by
  obtain ⟨w0, h1, -, h2, -⟩ := h
  exact (h2 33 2 (by omega) (by rw [zk_at_33 hb]; decide) (by rw [zk_at_33 hb]; decide) (by rw [zk_at_33 hb]; decide)).trans (zfb_33_2 h1)
theorem zcb_33_3 {L : Nat} {xs : Nat → Int} {w : zW} (hb : zBase L xs w) (h : zCon w) : zb w 33 3 = some 40 := by
  obtain ⟨w0, h1, -, h2, -⟩ := h
  exact (h2 33 3 (by omega) (by rw [zk_at_33 hb]; decide) (by rw [zk_at_33 hb]; decide) (by rw [zk_at_33 hb]; decide)).trans (zfb_33_3 h1)
theorem zcb_33_4 {L : Nat} {xs : Nat → Int} {w : zW} (hb : zBase L xs w) (h : zCon w) : zb w 33 4 = some 42 := by
  obtain ⟨w0, h1, -, h2, -⟩ := h
  exact (h2 33 4 (by omega) (by rw [zk_at_33 hb]; decide) (by rw [zk_at_33 hb]; decide) (by rw [zk_at_33 hb]; decide)).trans (zfb_33_4 h1)
theorem zcb_33_5 {L : Nat} {xs : Nat → Int} {w : zW} (hb : zBase L xs w) (h : zCon w) : zb w 33 5 = some 44 := by
  obtain ⟨w0, h1, -, h2, -⟩ := h
  exact (h2 33 5 (by omega) (by rw [zk_at_33 hb]; decide) (by rw [zk_at_33 hb]; decide) (by rw [zk_at_33 hb]; decide)).trans (zfb_33_5 h1)
theorem zcb_33_6 {L : Nat} {xs : Nat → Int} {w : zW} (hb : zBase L xs w) (h : zCon w) : zb w 33 6 = some 46 := by
  obtain ⟨w0, h1, -, h2, -⟩ := h
  exact (h2 33 6 (by omega) (by rw [zk_at_33 hb]; decide) (by rw [zk_at_33 hb]; decide) (by rw [zk_at_33 hb]; decide)).trans (zfb_33_6 h1)
theorem zcb_33_7 {L : Nat} {xs : Nat → Int} {w : zW} (hb : zBase L xs w) (h : zCon w) : zb w 33 7 = some 48 := by
  obtain ⟨w0, h1, -, h2, -⟩ := h
  exact (h2 33 7 (by omega) (by rw [zk_at_33 hb]; decide) (by rw [zk_at_33 hb]; decide) (by rw [zk_at_33 hb]; decide)).trans (zfb_33_7 h1)
theorem zcb_53_0 {L : Nat} {xs : Nat → Int} {w : zW} (hb : zBase L xs w) (h : zCon w) : zb w 53 0 = some 54 := by
  obtain ⟨w0, h1, -, h2, -⟩ := h
  exact (h2 53 0 (by omega) (by rw [zk_at_53 hb]; decide) (by rw [zk_at_53 hb]; decide) (by rw [zk_at_53 hb]; decide)).trans (zfb_53_0 h1)
theorem zcb_53_1 {L : Nat} {xs : Nat → Int} {w : zW} (hb : zBase L xs w) (h : zCon w) : zb w 53 1 = some 56 := by
  obtain ⟨w0, h1, -, h2, -⟩ := h
  exact (h2 53 1 (by omega) (by rw [zk_at_53 hb]; decide) (by rw [zk_at_53 hb]; decide) (by rw [zk_at_53 hb]; decide)).trans (zfb_53_1 h1)
theorem zcb_53_2 {L : Nat} {xs : Nat → Int} {w : zW} (hb : zBase L xs w) (h : zCon w) : zb w 53 2 = some 58 := by
  obtain ⟨w0, h1, -, h2, -⟩ := h
  exact (h2 53 2 (by omega) (by rw [zk_at_53 hb]; decide) (by rw [zk_at_53 hb]; decide) (by rw [zk_at_53 hb]; decide)).trans (zfb_53_2 h1)
theorem zcb_53_3 {L : Nat} {xs : Nat → Int} {w : zW} (hb : zBase L xs w) (h : zCon w) : zb w 53 3 = some 60 := by
  obtain ⟨w0, h1, -, h2, -⟩ := h
  exact (h2 53 3 (by omega) (by rw [zk_at_53 hb]; decide) (by rw [zk_at_53 hb]; decide) (by rw [zk_at_53 hb]; decide)).trans (zfb_53_3 h1)
theorem zcb_53_4 {L : Nat} {xs : Nat → Int} {w : zW} (hb : zBase L xs w) (h : zCon w) : zb w 53 4 = some 62 := by
  obtain ⟨w0, h1, -, h2, -⟩ := h
  exact (h2 53 4 (by omega) (by rw [zk_at_53 hb]; decide) (by rw [zk_at_53 hb]; decide) (by rw [zk_at_53 hb]; decide)).trans (zfb_53_4 h1)
theorem zcb_53_5 {L : Nat} {xs : Nat → Int} {w : zW} (hb : zBase L xs w) (h : zCon w) : zb w 53 5 = some 64 := by
  obtain ⟨w0, h1, -, h2, -⟩ := h
  exact (h2 53 5 (by omega) (by rw [zk_at_53 hb]; decide) (by rw [zk_at_53 hb]; decide) (by rw [zk_at_53 hb]; decide)).trans (zfb_53_5 h1)
theorem zcb_53_6 {L : Nat} {xs : Nat → Int} {w : zW} (hb : zBase L xs w) (h : zCon w) : zb w 53 6 = some 66 := by
  obtain ⟨w0, h1, -, h2, -⟩ := h
  exact (h2 53 6 (by omega) (by rw [zk_at_53 hb]; decide) (by rw [zk_at_53 hb]; decide) (by rw [zk_at_53 hb]; decide)).trans (zfb_53_6 h1)
theorem zcb_53_7 {L : Nat} {xs : Nat → Int} {w : zW} (hb : zBase L xs w) (h : zCon w) : zb w 53 7 = some 68 := by
  obtain ⟨w0, h1, -, h2, -⟩ := h
  exact (h2 53 7 (by omega) (by rw [zk_at_53 hb]; decide) (by rw [zk_at_53 hb]; decide) (by rw [zk_at_53 hb]; decide)).trans (zfb_53_7 h1)
theorem zcb_87_0 {L : Nat} {xs : Nat → Int} {w : zW} (hb : zBase L xs w) (h : zCon w) : zb w 87 0 = some 88 := by
  obtain ⟨w0, h1, -, h2, -⟩ := h
  exact (h2 87 0 (by omega) (by rw [zk_at_87 hb]; decide) (by rw [zk_at_87 hb]; decide) (by rw [zk_at_87 hb]; decide)).trans (zfb_87_0 h1)
theorem zcb_87_1 {L : Nat} {xs : Nat → Int} {w : zW} (hb : zBase L xs w) (h : zCon w) : zb w 87 1 = some 90 := by
  obtain ⟨w0, h1, -, h2, -⟩ := h
  exact (h2 87 1 (by omega) (by rw [zk_at_87 hb]; decide) (by rw [zk_at_87 hb]; decide) (by rw [zk_at_87 hb]; decide)).trans (zfb_87_1 h1)
theorem zcb_87_2 {L : Nat} {xs : Nat → Int} {w : zW} (hb : zBase L xs w) (h : zCon w) : zb w 87 2 = some 92 := by
  obtain ⟨w0, h1, -, h2, -⟩ := h
  exact (h2 87 2 (by omega) (by rw [zk_at_87 hb]; decide) (by rw [zk_at_87 hb]; decide) (by rw [zk_at_87 hb]; decide)).trans (zfb_87_2 h1)
theorem zcb_87_3 {L : Nat} {xs : Nat → Int} {w : zW} (hb : zBase L xs w) (h : zCon w) : zb w 87 3 = some 94 := by
  obtain ⟨w0, h1, -, h2, -⟩ := h
  exact (h2 87 3 (by omega) (by rw [zk_at_87 hb]; decide) (by rw [zk_at_87 hb]; decide) (by rw [zk_at_87 hb]; decide)).trans (zfb_87_3 h1)
theorem zcb_87_4 {L : Nat} {xs : Nat → Int} {w : zW} (hb : zBase L xs w) (h : zCon w) : zb w 87 4 = some 96 := by
  obtain ⟨w0, h1, -, h2, -⟩ := h
  exact (h2 87 4 (by omega) (by rw [zk_at_87 hb]; decide) (by rw [zk_at_87 hb]; decide) (by rw [zk_at_87 hb]; decide)).trans (zfb_87_4 h1)
theorem zcb_87_5 {L : Nat} {xs : Nat → Int} {w : zW} (hb : zBase L xs w) (h : zCon w) : zb w 87 5 = some 98 := by
  obtain ⟨w0, h1, -, h2, -⟩ := h
  exact (h2 87 5 (by omega) (by rw [zk_at_87 hb]; decide) (by rw [zk_at_87 hb]; decide) (by rw [zk_at_87 hb]; decide)).trans (zfb_87_5 h1)
theorem zcb_87_6 {L : Nat} {xs : Nat → Int} {w : zW} (hb : zBase L xs w) (h : zCon w) : zb w 87 6 = some 100 := by
  obtain ⟨w0, h1, -, h2, -⟩ := h
  exact (h2 87 6 (by omega) (by rw [zk_at_87 hb]; decide) (by rw [zk_at_87 hb]; decide) (by rw [zk_at_87 hb]; decide)).trans (zfb_87_6 h1)
theorem zcb_87_7 {L : Nat} {xs : Nat → Int} {w : zW} (hb : zBase L xs w) (h : zCon w) : zb w 87 7 = some 102 := by
  obtain ⟨w0, h1, -, h2, -⟩ := h
  exact (h2 87 7 (by omega) (by rw [zk_at_87 hb]; decide) (by rw [zk_at_87 hb]; decide) (by rw [zk_at_87 hb]; decide)).trans (zfb_87_7 h1)
theorem zcb_109_0 {L : Nat} {xs : Nat → Int} {w : zW} (hb : zBase L xs w) (h : zCon w) : zb w 109 0 = some 110 := by
  obtain ⟨w0, h1, -, h2, -⟩ := h
  exact (h2 109 0 (by omega) (by rw [zk_at_109 hb]; decide) (by rw [zk_at_109 hb]; decide) (by rw [zk_at_109 hb]; decide)).trans (zfb_109_0 h1)
theorem zcb_109_1 {L : Nat} {xs : Nat → Int} {w : zW} (hb : zBase L xs w) (h : zCon w) : zb w 109 1 = some 112 := by
  obtain ⟨w0, h1, -, h2, -⟩ := h
  exact (h2 109 1 (by omega) (by rw [zk_at_109 hb]; decide) (by rw [zk_at_109 hb]; decide) (by rw [zk_at_109 hb]; decide)).trans (zfb_109_1 h1)
theorem zcb_109_2 {L : Nat} {xs : Nat → Int} {w : zW} (hb : zBase L xs w) (h : zCon w) : zb w 109 2 = some 114 := by
  obtain ⟨w0, h1, -, h2, -⟩ := h
  exact (h2 109 2 (by omega) (by rw [zk_at_109 hb]; decide) (by rw [zk_at_109 hb]; decide) (by rw [zk_at_109 hb]; decide)).trans (zfb_109_2 h1)
theorem zcb_109_3 {L : Nat} {xs : Nat → Int} {w : zW} (hb : zBase L xs w) (h : zCon w) : zb w 109 3 = some 116 := by
  obtain ⟨w0, h1, -, h2, -⟩ := h
  exact (h2 109 3 (by omega) (by rw [zk_at_109 hb]; decide) (by rw [zk_at_109 hb]; decide) (by rw [zk_at_109 hb]; decide)).trans (zfb_109_3 h1)
theorem zcb_109_4 {L : Nat} {xs : Nat → Int} {w : zW} (hb : zBase L xs w) (h : zCon w) : zb w 109 4 = some 118 := by
  obtain ⟨w0, h1, -, h2, -⟩ := h
  exact (h2 109 4 (by omega) (by rw [zk_at_109 hb]; decide) (by rw [zk_at_109 hb]; decide) (by rw [zk_at_109 hb]; decide)).trans (zfb_109_4 h1)
theorem zcb_109_5 {L : Nat} {xs : Nat → Int} {w : zW} (hb : zBase L xs w) (h : zCon w) : zb w 109 5 = some 120 := by
  obtain ⟨w0, h1, -, h2, -⟩ := h
  exact (h2 109 5 (by omega) (by rw [zk_at_109 hb]; decide) (by rw [zk_at_109 hb]; decide) (by rw [zk_at_109 hb]; decide)).trans (zfb_109_5 h1)
theorem zcb_109_6 {L : Nat} {xs : Nat → Int} {w : zW} (hb : zBase L xs w) (h : zCon w) : zb w 109 6 = some 122 := by
  obtain ⟨w0, h1, -, h2, -⟩ := h
  exact (h2 109 6 (by omega) (by rw [zk_at_109 hb]; decide) (by rw [zk_at_109 hb]; decide) (by rw [zk_at_109 hb]; decide)).trans (zfb_109_6 h1)
theorem zcb_109_7 {L : Nat} {xs : Nat → Int} {w : zW} (hb : zBase L xs w) (h : zCon w) : zb w 109 7 = some 124 := by
  obtain ⟨w0, h1, -, h2, -⟩ := h
  exact (h2 109 7 (by omega) (by rw [zk_at_109 hb]; decide) (by rw [zk_at_109 hb]; decide) (by rw [zk_at_109 hb]; decide)).trans (zfb_109_7 h1)
theorem zcb_131_0 {L : Nat} {xs : Nat → Int} {w : zW} (hb : zBase L xs w) (h : zCon w) : zb w 131 0 = some 132 := by
  obtain ⟨w0, h1, -, h2, -⟩ := h
  exact (h2 131 0 (by omega) (by rw [zk_at_131 hb]; decide) (by rw [zk_at_131 hb]; decide) (by rw [zk_at_131 hb]; decide)).trans (zfb_131_0 h1)
theorem zcb_131_1 {L : Nat} {xs : Nat → Int} {w : zW} (hb : zBase L xs w) (h : zCon w) : zb w 131 1 = some 134 := by
  obtain ⟨w0, h1, -, h2, -⟩ := h
  exact (h2 131 1 (by omega) (by rw [zk_at_131 hb]; decide) (by rw [zk_at_131 hb]; decide) (by rw [zk_at_131 hb]; decide)).trans (zfb_131_1 h1)
theorem zcb_131_2 {L : Nat} {xs : Nat → Int} {w : zW} (hb : zBase L xs w) (h : zCon w) : zb w 131 2 = some 136 := by
  obtain ⟨w0, h1, -, h2, -⟩ := h
  exact (h2 131 2 (by omega) (by rw [zk_at_131 hb]; decide) (by rw [zk_at_131 hb]; decide) (by rw [zk_at_131 hb]; decide)).trans (zfb_131_2 h1)
theorem zcb_131_3 {L : Nat} {xs : Nat → Int} {w : zW} (hb : zBase L xs w) (h : zCon w) : zb w 131 3 = some 138 := by
  obtain ⟨w0, h1, -, h2, -⟩ := h
  exact (h2 131 3 (by omega) (by rw [zk_at_131 hb]; decide) (by rw [zk_at_131 hb]; decide) (by rw [zk_at_131 hb]; decide)).trans (zfb_131_3 h1)
theorem zcb_131_4 {L : Nat} {xs : Nat → Int} {w : zW} (hb : zBase L xs w) (h : zCon w) : zb w 131 4 = some 140 := by
  obtain ⟨w0, h1, -, h2, -⟩ := h
  exact (h2 131 4 (by omega) (by rw [zk_at_131 hb]; decide) (by rw [zk_at_131 hb]; decide) (by rw [zk_at_131 hb]; decide)).trans (zfb_131_4 h1)
theorem zcb_131_5 {L : Nat} {xs : Nat → Int} {w : zW} (hb : zBase L xs w) (h : zCon w) : zb w 131 5 = some 142 := by
  obtain ⟨w0, h1, -, h2, -⟩ := h
  exact (h2 131 5 (by omega) (by rw [zk_at_131 hb]; decide) (by rw [zk_at_131 hb]; decide) (by rw [zk_at_131 hb]; decide)).trans (zfb_131_5 h1)
theorem zcb_131_6 {L : Nat} {xs : Nat → Int} {w : zW} (hb : zBase L xs w) (h : zCon w) : zb w 131 6 = some 144 := by
  obtain ⟨w0, h1, -, h2, -⟩ := h
  exact (h2 131 6 (by omega) (by rw [zk_at_131 hb]; decide) (by rw [zk_at_131 hb]; decide) (by rw [zk_at_131 hb]; decide)).trans (zfb_131_6 h1)
theorem zcb_131_7 {L : Nat} {xs : Nat → Int} {w : zW} (hb : zBase L xs w) (h : zCon w) : zb w 131 7 = some 146 := by
  obtain ⟨w0, h1, -, h2, -⟩ := h
  exact (h2 131 7 (by omega) (by rw [zk_at_131 hb]; decide) (by rw [zk_at_131 hb]; decide) (by rw [zk_at_131 hb]; decide)).trans (zfb_131_7 h1)
theorem zcb_153_0 {L : Nat} {xs : Nat → Int} {w : zW} (hb : zBase L xs w) (h : zCon w) : zb w 153 0 = some 154 := by
  obtain ⟨w0, h1, -, h2, -⟩ := h
  exact (h2 153 0 (by omega) (by rw [zk_at_153 hb]; decide) (by rw [zk_at_153 hb]; decide) (by rw [zk_at_153 hb]; decide)).trans (zfb_153_0 h1)
theorem zcb_153_1 {L : Nat} {xs : Nat → Int} {w : zW} (hb : zBase L xs w) (h : zCon w) : zb w 153 1 = some 156 := by
  obtain ⟨w0, h1, -, h2, -⟩ := h
  exact (h2 153 1 (by omega) (by rw [zk_at_153 hb]; decide) (by rw [zk_at_153 hb]; decide) (by rw [zk_at_153 hb]; decide)).trans (zfb_153_1 h1)
theorem zcb_153_2 {L : Nat} {xs : Nat → Int} {w : zW} (hb : zBase L xs w) (h : zCon w) : zb w 153 2 = some 158 := by
  obtain ⟨w0, h1, -, h2, -⟩ := h
  exact (h2 153 2 (by omega) (by rw [zk_at_153 hb]; decide) (by rw [zk_at_153 hb]; decide) (by rw [zk_at_153 hb]; decide)).trans (zfb_153_2 h1)
theorem zcb_153_3 {L : Nat} {xs : Nat → Int} {w : zW} (hb : zBase L xs w) (h : zCon w) : zb w 153 3 = some 160 := by
  obtain ⟨w0, h1, -, h2, -⟩ := h
  exact (h2 153 3 (by omega) (by rw [zk_at_153 hb]; decide) (by rw [zk_at_153 hb]; decide) (by rw [zk_at_153 hb]; decide)).trans (zfb_153_3 h1)
theorem zcb_153_4 {L : Nat} {xs : Nat → Int} {w : zW} (hb : zBase L xs w) (h : zCon w) : zb w 153 4 = some 162 := by
  obtain ⟨w0, h1, -, h2, -⟩ := h
  exact (h2 153 4 (by omega) (by rw [zk_at_153 hb]; decide) (by rw [zk_at_153 hb]; decide) (by rw [zk_at_153 hb]; decide)).trans (zfb_153_4 h1)
theorem zcb_153_5 {L : Nat} {xs : Nat → Int} {w : zW} (hb : zBase L xs w) (h : zCon w) : zb w 153 5 = some 164 := by
  obtain ⟨w0, h1, -, h2, -⟩ := h
  exact (h2 153 5 (by omega) (by rw [zk_at_153 hb]; decide) (by rw [zk_at_153 hb]; decide) (by rw [zk_at_153 hb]; decide)).trans (zfb_153_5 h1)
theorem zcb_153_6 {L : Nat} {xs : Nat → Int} {w : zW} (hb : zBase L xs w) (h : zCon w) : zb w 153 6 = some 166 := by
  obtain ⟨w0, h1, -, h2, -⟩ := h
  exact (h2 153 6 (by omega) (by rw [zk_at_153 hb]; decide) (by rw [zk_at_153 hb]; decide) (by rw [zk_at_153 hb]; decide)).trans (zfb_153_6 h1)
theorem zcb_153_7 {L : Nat} {xs : Nat → Int} {w : zW} (hb : zBase L xs w) (h : zCon w) : zb w 153 7 = some 168 := by
  obtain ⟨w0, h1, -, h2, -⟩ := h
  exact (h2 153 7 (by omega) (by rw [zk_at_153 hb]; decide) (by rw [zk_at_153 hb]; decide) (by rw [zk_at_153 hb]; decide)).trans (zfb_153_7 h1)
theorem zcb_175_0 {L : Nat} {xs : Nat → Int} {w : zW} (hb : zBase L xs w) (h : zCon w) : zb w 175 0 = some 176 := by
  obtain ⟨w0, h1, -, h2, -⟩ := h
  exact (h2 175 0 (by omega) (by rw [zk_at_175 hb]; decide) (by rw [zk_at_175 hb]; decide) (by rw [zk_at_175 hb]; decide)).trans (zfb_175_0 h1)
theorem zcb_175_1 {L : Nat} {xs : Nat → Int} {w : zW} (hb : zBase L xs w) (h : zCon w) : zb w 175 1 = some 178 := by
  obtain ⟨w0, h1, -, h2, -⟩ := h
  exact (h2 175 1 (by omega) (by rw [zk_at_175 hb]; decide) (by rw [zk_at_175 hb]; decide) (by rw [zk_at_175 hb]; decide)).trans (zfb_175_1 h1)
theorem zcb_175_2 {L : Nat} {xs : Nat → Int} {w : zW} (hb : zBase L xs w) (h : zCon w) : zb w 175 2 = some 180 := by
  obtain ⟨w0, h1, -, h2, -⟩ := h
  exact (h2 175 2 (by omega) (by rw [zk_at_175 hb]; decide) (by rw [zk_at_175 hb]; decide) (by rw [zk_at_175 hb]; decide)).trans (zfb_175_2 h1)
theorem zcb_175_3 {L : Nat} {xs : Nat → Int} {w : zW} (hb : zBase L xs w) (h : zCon w) : zb w 175 3 = some 182 := by
  obtain ⟨w0, h1, -, h2, -⟩ := h
  exact (h2 175 3 (by omega) (by rw [zk_at_175 hb]; decide) (by rw [zk_at_175 hb]; decide) (by rw [zk_at_175 hb]; decide)).trans (zfb_175_3 h1)
theorem zcb_175_4 {L : Nat} {xs : Nat → Int} {w : zW} (hb : zBase L xs w) (h : zCon w) : zb w 175 4 = some 184 := by
  obtain ⟨w0, h1, -, h2, -⟩ := h
  exact (h2 175 4 (by omega) (by rw [zk_at_175 hb]; decide) (by rw [zk_at_175 hb]; decide) (by rw [zk_at_175 hb]; decide)).trans (zfb_175_4 h1)
theorem zcb_175_5 {L : Nat} {xs : Nat → Int} {w : zW} (hb : zBase L xs w) (h : zCon w) : zb w 175 5 = some 186 := by
  obtain ⟨w0, h1, -, h2, -⟩ := h
  exact (h2 175 5 (by omega) (by rw [zk_at_175 hb]; decide) (by rw [zk_at_175 hb]; decide) (by rw [zk_at_175 hb]; decide)).trans (zfb_175_5 h1)
theorem zcb_175_6 {L : Nat} {xs : Nat → Int} {w : zW} (hb : zBase L xs w) (h : zCon w) : zb w 175 6 = some 188 := by
  obtain ⟨w0, h1, -, h2, -⟩ := h
  exact (h2 175 6 (by omega) (by rw [zk_at_175 hb]; decide) (by rw [zk_at_175 hb]; decide) (by rw [zk_at_175 hb]; decide)).trans (zfb_175_6 h1)
theorem zcb_175_7 {L : Nat} {xs : Nat → Int} {w : zW} (hb : zBase L xs w) (h : zCon w) : zb w 175 7 = some 190 := by
  obtain ⟨w0, h1, -, h2, -⟩ := h
  exact (h2 175 7 (by omega) (by rw [zk_at_175 hb]; decide) (by rw [zk_at_175 hb]; decide) (by rw [zk_at_175 hb]; decide)).trans (zfb_175_7 h1)
theorem zPO_at_7 {L : Nat} {xs : Nat → Int} {w : zW} (hb : zBase L xs w) (h : zCon w) : zPO w 7 := by
  obtain ⟨w0, h1, h2, -⟩ := id h
  refine ⟨zk_at_7 hb, zcq_24_7 h, ⟨by rw [zk_at_8 hb]; decide, by rw [zk_at_8 hb]; decide⟩, zl_at_8 hb, fun k hk => ?_⟩
  have hk8 : k = 0 ∨ k = 1 ∨ k = 2 ∨ k = 3 ∨ k = 4 ∨ k = 5 ∨ k = 6 ∨ k = 7 := by omega
  rcases hk8 with rfl | rfl | rfl | rfl | rfl | rfl | rfl | rfl
  · exact ⟨zcb_8_0 hb h, zk_at_9 hb, (h2 30 9 (by omega)).trans ((zRowP_of (h1.2.2.1 _ (List.mem_of_getElem? (i := 8) rfl))).2.2.2.1 (30, some 10) (List.mem_of_getElem? (i := 0) rfl)), zk_at_10 hb, zl_at_10 hb⟩
  · exact ⟨zcb_8_1 hb h, zk_at_11 hb, (h2 30 11 (by omega)).trans ((zRowP_of (h1.2.2.1 _ (List.mem_of_getElem? (i := 10) rfl))).2.2.2.1 (30, some 12) (List.mem_of_getElem? (i := 0) rfl)), zk_at_12 hb, zl_at_12 hb⟩
  · exact ⟨zcb_8_2 hb h, zk_at_13 hb, (h2 30 13 (by omega)).trans ((zRowP_of (h1.2.2.1 _ (List.mem_of_getElem? (i := 12) rfl))).2.2.2.1 (30, some 14) (List.mem_of_getElem? (i := 0) rfl)), zk_at_14 hb, zl_at_14 hb⟩
  · exact ⟨zcb_8_3 hb h, zk_at_15 hb, (h2 30 15 (by omega)).trans ((zRowP_of (h1.2.2.1 _ (List.mem_of_getElem? (i := 14) rfl))).2.2.2.1 (30, some 16) (List.mem_of_getElem? (i := 0) rfl)), zk_at_16 hb, zl_at_16 hb⟩
  · exact ⟨zcb_8_4 hb h, zk_at_17 hb, (h2 30 17 (by omega)).trans ((zRowP_of (h1.2.2.1 _ (List.mem_of_getElem? (i := 16) rfl))).2.2.2.1 (30, some 18) (List.mem_of_getElem? (i := 0) rfl)), zk_at_18 hb, zl_at_18 hb⟩
  · exact ⟨zcb_8_5 hb h, zk_at_19 hb, (h2 30 19 (by omega)).trans ((zRowP_of (h1.2.2.1 _ (List.mem_of_getElem? (i := 18) rfl))).2.2.2.1 (30, some 20) (List.mem_of_getElem? (i := 0) rfl)), zk_at_20 hb, zl_at_20 hb⟩
  · exact ⟨zcb_8_6 hb h, zk_at_21 hb, (h2 30 21 (by omega)).trans ((zRowP_of (h1.2.2.1 _ (List.mem_of_getElem? (i := 20) rfl))).2.2.2.1 (30, some 22) (List.mem_of_getElem? (i := 0) rfl)), zk_at_22 hb, zl_at_22 hb⟩
  · exact ⟨zcb_8_7 hb h, zk_at_23 hb, (h2 30 23 (by omega)).trans ((zRowP_of (h1.2.2.1 _ (List.mem_of_getElem? (i := 22) rfl))).2.2.2.1 (30, some 24) (List.mem_of_getElem? (i := 0) rfl)), zk_at_24 hb, zl_at_24 hb⟩
theorem zPO_at_32 {L : Nat} {xs : Nat → Int} {w : zW} (hb : zBase L xs w) (h : zCon w) : zPO w 32 := by
  obtain ⟨w0, h1, h2, -⟩ := id h
  refine ⟨zk_at_32 hb, zcq_24_32 h, ⟨by rw [zk_at_33 hb]; decide, by rw [zk_at_33 hb]; decide⟩, zl_at_33 hb, fun k hk => ?_⟩
  have hk8 : k = 0 ∨ k = 1 ∨ k = 2 ∨ k = 3 ∨ k = 4 ∨ k = 5 ∨ k = 6 ∨ k = 7 := by omega
  rcases hk8 with rfl | rfl | rfl | rfl | rfl | rfl | rfl | rfl
  · exact ⟨zcb_33_0 hb h, zk_at_34 hb, (h2 30 34 (by omega)).trans ((zRowP_of (h1.2.2.1 _ (List.mem_of_getElem? (i := 33) rfl))).2.2.2.1 (30, some 35) (List.mem_of_getElem? (i := 0) rfl)), zk_at_35 hb, zl_at_35 hb⟩
  · exact ⟨zcb_33_1 hb h, zk_at_36 hb, (h2 30 36 (by omega)).trans ((zRowP_of (h1.2.2.1 _ (List.mem_of_getElem? (i := 35) rfl))).2.2.2.1 (30, some 37) (List.mem_of_getElem? (i := 0) rfl)), zk_at_37 hb, zl_at_37 hb⟩
  · exact ⟨zcb_33_2 hb h, zk_at_38 hb, (h2 30 38 (by omega)).trans ((zRowP_of (h1.2.2.1 _ (List.mem_of_getElem? (i := 37) rfl))).2.2.2.1 (30, some 39) (List.mem_of_getElem? (i := 0) rfl)), zk_at_39 hb, zl_at_39 hb⟩
  · exact ⟨zcb_33_3 hb h, zk_at_40 hb, (h2 30 40 (by omega)).trans ((zRowP_of (h1.2.2.1 _ (List.mem_of_getElem? (i := 39) rfl))).2.2.2.1 (30, some 41) (List.mem_of_getElem? (i := 0) rfl)), zk_at_41 hb, zl_at_41 hb⟩
  · exact ⟨zcb_33_4 hb h, zk_at_42 hb, (h2 30 42 (by omega)).trans ((zRowP_of (h1.2.2.2.1 _ (List.mem_of_getElem? (i := 1) rfl))).2.2.2.1 (30, some 43) (List.mem_of_getElem? (i := 0) rfl)), zk_at_43 hb, zl_at_43 hb⟩
  · exact ⟨zcb_33_5 hb h, zk_at_44 hb, (h2 30 44 (by omega)).trans ((zRowP_of (h1.2.2.2.1 _ (List.mem_of_getElem? (i := 3) rfl))).2.2.2.1 (30, some 45) (List.mem_of_getElem? (i := 0) rfl)), zk_at_45 hb, zl_at_45 hb⟩
  · exact ⟨zcb_33_6 hb h, zk_at_46 hb, (h2 30 46 (by omega)).trans ((zRowP_of (h1.2.2.2.1 _ (List.mem_of_getElem? (i := 5) rfl))).2.2.2.1 (30, some 47) (List.mem_of_getElem? (i := 0) rfl)), zk_at_47 hb, zl_at_47 hb⟩
  · exact ⟨zcb_33_7 hb h, zk_at_48 hb, (h2 30 48 (by omega)).trans ((zRowP_of (h1.2.2.2.1 _ (List.mem_of_getElem? (i := 7) rfl))).2.2.2.1 (30, some 49) (List.mem_of_getElem? (i := 0) rfl)), zk_at_49 hb, zl_at_49 hb⟩
theorem zPO_at_86 {L : Nat} {xs : Nat → Int} {w : zW} (hb : zBase L xs w) (h : zCon w) : zPO w 86 := by
  obtain ⟨w0, h1, h2, -⟩ := id h
  refine ⟨zk_at_86 hb, zcq_24_86 h, ⟨by rw [zk_at_87 hb]; decide, by rw [zk_at_87 hb]; decide⟩, zl_at_87 hb, fun k hk => ?_⟩
  have hk8 : k = 0 ∨ k = 1 ∨ k = 2 ∨ k = 3 ∨ k = 4 ∨ k = 5 ∨ k = 6 ∨ k = 7 := by omega
  rcases hk8 with rfl | rfl | rfl | rfl | rfl | rfl | rfl | rfl
  · exact ⟨zcb_87_0 hb h, zk_at_88 hb, (h2 30 88 (by omega)).trans ((zRowP_of (h1.2.2.2.2.1 _ (List.mem_of_getElem? (i := 7) rfl))).2.2.2.1 (30, some 89) (List.mem_of_getElem? (i := 0) rfl)), zk_at_89 hb, zl_at_89 hb⟩
  · exact ⟨zcb_87_1 hb h, zk_at_90 hb, (h2 30 90 (by omega)).trans ((zRowP_of (h1.2.2.2.2.1 _ (List.mem_of_getElem? (i := 9) rfl))).2.2.2.1 (30, some 91) (List.mem_of_getElem? (i := 0) rfl)), zk_at_91 hb, zl_at_91 hb⟩
  · exact ⟨zcb_87_2 hb h, zk_at_92 hb, (h2 30 92 (by omega)).trans ((zRowP_of (h1.2.2.2.2.1 _ (List.mem_of_getElem? (i := 11) rfl))).2.2.2.1 (30, some 93) (List.mem_of_getElem? (i := 0) rfl)), zk_at_93 hb, zl_at_93 hb⟩
  · exact ⟨zcb_87_3 hb h, zk_at_94 hb, (h2 30 94 (by omega)).trans ((zRowP_of (h1.2.2.2.2.1 _ (List.mem_of_getElem? (i := 13) rfl))).2.2.2.1 (30, some 95) (List.mem_of_getElem? (i := 0) rfl)), zk_at_95 hb, zl_at_95 hb⟩
  · exact ⟨zcb_87_4 hb h, zk_at_96 hb, (h2 30 96 (by omega)).trans ((zRowP_of (h1.2.2.2.2.1 _ (List.mem_of_getElem? (i := 15) rfl))).2.2.2.1 (30, some 97) (List.mem_of_getElem? (i := 0) rfl)), zk_at_97 hb, zl_at_97 hb⟩
  · exact ⟨zcb_87_5 hb h, zk_at_98 hb, (h2 30 98 (by omega)).trans ((zRowP_of (h1.2.2.2.2.1 _ (List.mem_of_getElem? (i := 17) rfl))).2.2.2.1 (30, some 99) (List.mem_of_getElem? (i := 0) rfl)), zk_at_99 hb, zl_at_99 hb⟩
  · exact ⟨zcb_87_6 hb h, zk_at_100 hb, (h2 30 100 (by omega)).trans ((zRowP_of (h1.2.2.2.2.1 _ (List.mem_of_getElem? (i := 19) rfl))).2.2.2.1 (30, some 101) (List.mem_of_getElem? (i := 0) rfl)), zk_at_101 hb, zl_at_101 hb⟩
  · exact ⟨zcb_87_7 hb h, zk_at_102 hb, (h2 30 102 (by omega)).trans ((zRowP_of (h1.2.2.2.2.1 _ (List.mem_of_getElem? (i := 21) rfl))).2.2.2.1 (30, some 103) (List.mem_of_getElem? (i := 0) rfl)), zk_at_103 hb, zl_at_103 hb⟩
theorem zPO_at_108 {L : Nat} {xs : Nat → Int} {w : zW} (hb : zBase L xs w) (h : zCon w) : zPO w 108 := by
  obtain ⟨w0, h1, h2, -⟩ := id h
  refine ⟨zk_at_108 hb, zcq_24_108 h, ⟨by rw [zk_at_109 hb]; decide, by rw [zk_at_109 hb]; decide⟩, zl_at_109 hb, fun k hk => ?_⟩
  have hk8 : k = 0 ∨ k = 1 ∨ k = 2 ∨ k = 3 ∨ k = 4 ∨ k = 5 ∨ k = 6 ∨ k = 7 := by omega
  rcases hk8 with rfl | rfl | rfl | rfl | rfl | rfl | rfl | rfl
  · exact ⟨zcb_109_0 hb h, zk_at_110 hb, (h2 30 110 (by omega)).trans ((zRowP_of (h1.2.2.2.2.1 _ (List.mem_of_getElem? (i := 29) rfl))).2.2.2.1 (30, some 111) (List.mem_of_getElem? (i := 0) rfl)), zk_at_111 hb, zl_at_111 hb⟩
  · exact ⟨zcb_109_1 hb h, zk_at_112 hb, (h2 30 112 (by omega)).trans ((zRowP_of (h1.2.2.2.2.1 _ (List.mem_of_getElem? (i := 31) rfl))).2.2.2.1 (30, some 113) (List.mem_of_getElem? (i := 0) rfl)), zk_at_113 hb, zl_at_113 hb⟩
  · exact ⟨zcb_109_2 hb h, zk_at_114 hb, (h2 30 114 (by omega)).trans ((zRowP_of (h1.2.2.2.2.1 _ (List.mem_of_getElem? (i := 33) rfl))).2.2.2.1 (30, some 115) (List.mem_of_getElem? (i := 0) rfl)), zk_at_115 hb, zl_at_115 hb⟩
  · exact ⟨zcb_109_3 hb h, zk_at_116 hb, (h2 30 116 (by omega)).trans ((zRowP_of (h1.2.2.2.2.1 _ (List.mem_of_getElem? (i := 35) rfl))).2.2.2.1 (30, some 117) (List.mem_of_getElem? (i := 0) rfl)), zk_at_117 hb, zl_at_117 hb⟩
  · exact ⟨zcb_109_4 hb h, zk_at_118 hb, (h2 30 118 (by omega)).trans ((zRowP_of (h1.2.2.2.2.1 _ (List.mem_of_getElem? (i := 37) rfl))).2.2.2.1 (30, some 119) (List.mem_of_getElem? (i := 0) rfl)), zk_at_119 hb, zl_at_119 hb⟩
  · exact ⟨zcb_109_5 hb h, zk_at_120 hb, (h2 30 120 (by omega)).trans ((zRowP_of (h1.2.2.2.2.1 _ (List.mem_of_getElem? (i := 39) rfl))).2.2.2.1 (30, some 121) (List.mem_of_getElem? (i := 0) rfl)), zk_at_121 hb, zl_at_121 hb⟩
  · exact ⟨zcb_109_6 hb h, zk_at_122 hb, (h2 30 122 (by omega)).trans ((zRowP_of (h1.2.2.2.2.2.1 _ (List.mem_of_getElem? (i := 1) rfl))).2.2.2.1 (30, some 123) (List.mem_of_getElem? (i := 0) rfl)), zk_at_123 hb, zl_at_123 hb⟩
  · exact ⟨zcb_109_7 hb h, zk_at_124 hb, (h2 30 124 (by omega)).trans ((zRowP_of (h1.2.2.2.2.2.1 _ (List.mem_of_getElem? (i := 3) rfl))).2.2.2.1 (30, some 125) (List.mem_of_getElem? (i := 0) rfl)), zk_at_125 hb, zl_at_125 hb⟩
theorem zPO_at_130 {L : Nat} {xs : Nat → Int} {w : zW} (hb : zBase L xs w) (h : zCon w) : zPO w 130 := by
  obtain ⟨w0, h1, h2, -⟩ := id h
  refine ⟨zk_at_130 hb, zcq_24_130 h, ⟨by rw [zk_at_131 hb]; decide, by rw [zk_at_131 hb]; decide⟩, zl_at_131 hb, fun k hk => ?_⟩
  have hk8 : k = 0 ∨ k = 1 ∨ k = 2 ∨ k = 3 ∨ k = 4 ∨ k = 5 ∨ k = 6 ∨ k = 7 := by omega
  rcases hk8 with rfl | rfl | rfl | rfl | rfl | rfl | rfl | rfl
  · exact ⟨zcb_131_0 hb h, zk_at_132 hb, (h2 30 132 (by omega)).trans ((zRowP_of (h1.2.2.2.2.2.1 _ (List.mem_of_getElem? (i := 11) rfl))).2.2.2.1 (30, some 133) (List.mem_of_getElem? (i := 0) rfl)), zk_at_133 hb, zl_at_133 hb⟩
  · exact ⟨zcb_131_1 hb h, zk_at_134 hb, (h2 30 134 (by omega)).trans ((zRowP_of (h1.2.2.2.2.2.1 _ (List.mem_of_getElem? (i := 13) rfl))).2.2.2.1 (30, some 135) (List.mem_of_getElem? (i := 0) rfl)), zk_at_135 hb, zl_at_135 hb⟩
  · exact ⟨zcb_131_2 hb h, zk_at_136 hb, (h2 30 136 (by omega)).trans ((zRowP_of (h1.2.2.2.2.2.1 _ (List.mem_of_getElem? (i := 15) rfl))).2.2.2.1 (30, some 137) (List.mem_of_getElem? (i := 0) rfl)), zk_at_137 hb, zl_at_137 hb⟩
  · exact ⟨zcb_131_3 hb h, zk_at_138 hb, (h2 30 138 (by omega)).trans ((zRowP_of (h1.2.2.2.2.2.1 _ (List.mem_of_getElem? (i := 17) rfl))).2.2.2.1 (30, some 139) (List.mem_of_getElem? (i := 0) rfl)), zk_at_139 hb, zl_at_139 hb⟩
  · exact ⟨zcb_131_4 hb h, zk_at_140 hb, (h2 30 140 (by omega)).trans ((zRowP_of (h1.2.2.2.2.2.1 _ (List.mem_of_getElem? (i := 19) rfl))).2.2.2.1 (30, some 141) (List.mem_of_getElem? (i := 0) rfl)), zk_at_141 hb, zl_at_141 hb⟩
  · exact ⟨zcb_131_5 hb h, zk_at_142 hb, (h2 30 142 (by omega)).trans ((zRowP_of (h1.2.2.2.2.2.1 _ (List.mem_of_getElem? (i := 21) rfl))).2.2.2.1 (30, some 143) (List.mem_of_getElem? (i := 0) rfl)), zk_at_143 hb, zl_at_143 hb⟩
  · exact ⟨zcb_131_6 hb h, zk_at_144 hb, (h2 30 144 (by omega)).trans ((zRowP_of (h1.2.2.2.2.2.1 _ (List.mem_of_getElem? (i := 23) rfl))).2.2.2.1 (30, some 145) (List.mem_of_getElem? (i := 0) rfl)), zk_at_145 hb, zl_at_145 hb⟩
  · exact ⟨zcb_131_7 hb h, zk_at_146 hb, (h2 30 146 (by omega)).trans ((zRowP_of (h1.2.2.2.2.2.1 _ (List.mem_of_getElem? (i := 25) rfl))).2.2.2.1 (30, some 147) (List.mem_of_getElem? (i := 0) rfl)), zk_at_147 hb, zl_at_147 hb⟩
theorem zPO_at_152 {L : Nat} {xs : Nat → Int} {w : zW} (hb : zBase L xs w) (h : zCon w) : zPO w 152 := by
  obtain ⟨w0, h1, h2, -⟩ := id h
  refine ⟨zk_at_152 hb, zcq_24_152 h, ⟨by rw [zk_at_153 hb]; decide, by rw [zk_at_153 hb]; decide⟩, zl_at_153 hb, fun k hk => ?_⟩
  have hk8 : k = 0 ∨ k = 1 ∨ k = 2 ∨ k = 3 ∨ k = 4 ∨ k = 5 ∨ k = 6 ∨ k = 7 := by omega
  rcases hk8 with rfl | rfl | rfl | rfl | rfl | rfl | rfl | rfl
  · exact ⟨zcb_153_0 hb h, zk_at_154 hb, (h2 30 154 (by omega)).trans ((zRowP_of (h1.2.2.2.2.2.1 _ (List.mem_of_getElem? (i := 33) rfl))).2.2.2.1 (30, some 155) (List.mem_of_getElem? (i := 0) rfl)), zk_at_155 hb, zl_at_155 hb⟩
  · exact ⟨zcb_153_1 hb h, zk_at_156 hb, (h2 30 156 (by omega)).trans ((zRowP_of (h1.2.2.2.2.2.1 _ (List.mem_of_getElem? (i := 35) rfl))).2.2.2.1 (30, some 157) (List.mem_of_getElem? (i := 0) rfl)), zk_at_157 hb, zl_at_157 hb⟩
  · exact ⟨zcb_153_2 hb h, zk_at_158 hb, (h2 30 158 (by omega)).trans ((zRowP_of (h1.2.2.2.2.2.1 _ (List.mem_of_getElem? (i := 37) rfl))).2.2.2.1 (30, some 159) (List.mem_of_getElem? (i := 0) rfl)), zk_at_159 hb, zl_at_159 hb⟩
  · exact ⟨zcb_153_3 hb h, zk_at_160 hb, (h2 30 160 (by omega)).trans ((zRowP_of (h1.2.2.2.2.2.1 _ (List.mem_of_getElem? (i := 39) rfl))).2.2.2.1 (30, some 161) (List.mem_of_getElem? (i := 0) rfl)), zk_at_161 hb, zl_at_161 hb⟩
  · exact ⟨zcb_153_4 hb h, zk_at_162 hb, (h2 30 162 (by omega)).trans ((zRowP_of (h1.2.2.2.2.2.2.1 _ (List.mem_of_getElem? (i := 1) rfl))).2.2.2.1 (30, some 163) (List.mem_of_getElem? (i := 0) rfl)), zk_at_163 hb, zl_at_163 hb⟩
  · exact ⟨zcb_153_5 hb h, zk_at_164 hb, (h2 30 164 (by omega)).trans ((zRowP_of (h1.2.2.2.2.2.2.1 _ (List.mem_of_getElem? (i := 3) rfl))).2.2.2.1 (30, some 165) (List.mem_of_getElem? (i := 0) rfl)), zk_at_165 hb, zl_at_165 hb⟩
  · exact ⟨zcb_153_6 hb h, zk_at_166 hb, (h2 30 166 (by omega)).trans ((zRowP_of (h1.2.2.2.2.2.2.1 _ (List.mem_of_getElem? (i := 5) rfl))).2.2.2.1 (30, some 167) (List.mem_of_getElem? (i := 0) rfl)), zk_at_167 hb, zl_at_167 hb⟩
  · exact ⟨zcb_153_7 hb h, zk_at_168 hb, (h2 30 168 (by omega)).trans ((zRowP_of (h1.2.2.2.2.2.2.1 _ (List.mem_of_getElem? (i := 7) rfl))).2.2.2.1 (30, some 169) (List.mem_of_getElem? (i := 0) rfl)), zk_at_169 hb, zl_at_169 hb⟩
theorem zPO_at_174 {L : Nat} {xs : Nat → Int} {w : zW} (hb : zBase L xs w) (h : zCon w) : zPO w 174 := by
  obtain ⟨w0, h1, h2, -⟩ := id h
  refine ⟨zk_at_174 hb, zcq_24_174 h, ⟨by rw [zk_at_175 hb]; decide, by rw [zk_at_175 hb]; decide⟩, zl_at_175 hb, fun k hk => ?_⟩
  have hk8 : k = 0 ∨ k = 1 ∨ k = 2 ∨ k = 3 ∨ k = 4 ∨ k = 5 ∨ k = 6 ∨ k = 7 := by omega
  rcases hk8 with rfl | rfl | rfl | rfl | rfl | rfl | rfl | rfl
  · exact ⟨zcb_175_0 hb h, zk_at_176 hb, (h2 30 176 (by omega)).trans ((zRowP_of (h1.2.2.2.2.2.2.1 _ (List.mem_of_getElem? (i := 15) rfl))).2.2.2.1 (30, some 177) (List.mem_of_getElem? (i := 0) rfl)), zk_at_177 hb, zl_at_177 hb⟩
  · exact ⟨zcb_175_1 hb h, zk_at_178 hb, (h2 30 178 (by omega)).trans ((zRowP_of (h1.2.2.2.2.2.2.1 _ (List.mem_of_getElem? (i := 17) rfl))).2.2.2.1 (30, some 179) (List.mem_of_getElem? (i := 0) rfl)), zk_at_179 hb, zl_at_179 hb⟩
  · exact ⟨zcb_175_2 hb h, zk_at_180 hb, (h2 30 180 (by omega)).trans ((zRowP_of (h1.2.2.2.2.2.2.1 _ (List.mem_of_getElem? (i := 19) rfl))).2.2.2.1 (30, some 181) (List.mem_of_getElem? (i := 0) rfl)), zk_at_181 hb, zl_at_181 hb⟩
  · exact ⟨zcb_175_3 hb h, zk_at_182 hb, (h2 30 182 (by omega)).trans ((zRowP_of (h1.2.2.2.2.2.2.1 _ (List.mem_of_getElem? (i := 21) rfl))).2.2.2.1 (30, some 183) (List.mem_of_getElem? (i := 0) rfl)), zk_at_183 hb, zl_at_183 hb⟩
  · exact ⟨zcb_175_4 hb h, zk_at_184 hb, (h2 30 184 (by omega)).trans ((zRowP_of (h1.2.2.2.2.2.2.1 _ (List.mem_of_getElem? (i := 23) rfl))).2.2.2.1 (30, some 185) (List.mem_of_getElem? (i := 0) rfl)), zk_at_185 hb, zl_at_185 hb⟩
  · exact ⟨zcb_175_5 hb h, zk_at_186 hb, (h2 30 186 (by omega)).trans ((zRowP_of (h1.2.2.2.2.2.2.1 _ (List.mem_of_getElem? (i := 25) rfl))).2.2.2.1 (30, some 187) (List.mem_of_getElem? (i := 0) rfl)), zk_at_187 hb, zl_at_187 hb⟩
  · exact ⟨zcb_175_6 hb h, zk_at_188 hb, (h2 30 188 (by omega)).trans ((zRowP_of (h1.2.2.2.2.2.2.1 _ (List.mem_of_getElem? (i := 27) rfl))).2.2.2.1 (30, some 189) (List.mem_of_getElem? (i := 0) rfl)), zk_at_189 hb, zl_at_189 hb⟩
  · exact ⟨zcb_175_7 hb h, zk_at_190 hb, (h2 30 190 (by omega)).trans ((zRowP_of (h1.2.2.2.2.2.2.1 _ (List.mem_of_getElem? (i := 29) rfl))).2.2.2.1 (30, some 191) (List.mem_of_getElem? (i := 0) rfl)), zk_at_191 hb, zl_at_191 hb⟩
theorem zPO_at_52 {L : Nat} {xs : Nat → Int} {w : zW} (hb : zBase L xs w) (h : zCon w) : zPO w 52 := by
  obtain ⟨w0, h1, h2, -⟩ := id h
  refine ⟨zk_at_52 hb, zcq_24_52 h, ⟨by rw [zk_at_53 hb]; decide, by rw [zk_at_53 hb]; decide⟩, zl_at_53 hb, fun k hk => ?_⟩
  have hk8 : k = 0 ∨ k = 1 ∨ k = 2 ∨ k = 3 ∨ k = 4 ∨ k = 5 ∨ k = 6 ∨ k = 7 := by omega
  rcases hk8 with rfl | rfl | rfl | rfl | rfl | rfl | rfl | rfl
  · exact ⟨zcb_53_0 hb h, zk_at_54 hb, (h2 30 54 (by omega)).trans ((zRowP_of (h1.2.2.2.1 _ (List.mem_of_getElem? (i := 13) rfl))).2.2.2.1 (30, some 55) (List.mem_of_getElem? (i := 0) rfl)), zk_at_55 hb, zl_at_55 hb⟩
  · exact ⟨zcb_53_1 hb h, zk_at_56 hb, (h2 30 56 (by omega)).trans ((zRowP_of (h1.2.2.2.1 _ (List.mem_of_getElem? (i := 15) rfl))).2.2.2.1 (30, some 57) (List.mem_of_getElem? (i := 0) rfl)), zk_at_57 hb, zl_at_57 hb⟩
  · exact ⟨zcb_53_2 hb h, zk_at_58 hb, (h2 30 58 (by omega)).trans ((zRowP_of (h1.2.2.2.1 _ (List.mem_of_getElem? (i := 17) rfl))).2.2.2.1 (30, some 59) (List.mem_of_getElem? (i := 0) rfl)), zk_at_59 hb, zl_at_59 hb⟩
  · exact ⟨zcb_53_3 hb h, zk_at_60 hb, (h2 30 60 (by omega)).trans ((zRowP_of (h1.2.2.2.1 _ (List.mem_of_getElem? (i := 19) rfl))).2.2.2.1 (30, some 61) (List.mem_of_getElem? (i := 0) rfl)), zk_at_61 hb, zl_at_61 hb⟩
  · exact ⟨zcb_53_4 hb h, zk_at_62 hb, (h2 30 62 (by omega)).trans ((zRowP_of (h1.2.2.2.1 _ (List.mem_of_getElem? (i := 21) rfl))).2.2.2.1 (30, some 63) (List.mem_of_getElem? (i := 0) rfl)), zk_at_63 hb, zl_at_63 hb⟩
  · exact ⟨zcb_53_5 hb h, zk_at_64 hb, (h2 30 64 (by omega)).trans ((zRowP_of (h1.2.2.2.1 _ (List.mem_of_getElem? (i := 23) rfl))).2.2.2.1 (30, some 65) (List.mem_of_getElem? (i := 0) rfl)), zk_at_65 hb, zl_at_65 hb⟩
  · exact ⟨zcb_53_6 hb h, zk_at_66 hb, (h2 30 66 (by omega)).trans ((zRowP_of (h1.2.2.2.1 _ (List.mem_of_getElem? (i := 25) rfl))).2.2.2.1 (30, some 67) (List.mem_of_getElem? (i := 0) rfl)), zk_at_67 hb, zl_at_67 hb⟩
  · exact ⟨zcb_53_7 hb h, zk_at_68 hb, (h2 30 68 (by omega)).trans ((zRowP_of (h1.2.2.2.1 _ (List.mem_of_getElem? (i := 27) rfl))).2.2.2.1 (30, some 69) (List.mem_of_getElem? (i := 0) rfl)), zk_at_69 hb, zl_at_69 hb⟩
theorem zPO_at {L : Nat} {xs : Nat → Int} {w : zW} (hb : zBase L xs w) (h : zCon w) {p : Nat} (hp : p < 8) : zPO w (zPt p) := by
  have hp8 : p = 0 ∨ p = 1 ∨ p = 2 ∨ p = 3 ∨ p = 4 ∨ p = 5 ∨ p = 6 ∨ p = 7 := by omega
  rcases hp8 with rfl | rfl | rfl | rfl | rfl | rfl | rfl | rfl
  · exact zPO_at_7 hb h
  · exact zPO_at_32 hb h
  · exact zPO_at_86 hb h
  · exact zPO_at_108 hb h
  · exact zPO_at_130 hb h
  · exact zPO_at_152 hb h
  · exact zPO_at_174 hb h
  · exact zPO_at_52 hb h
