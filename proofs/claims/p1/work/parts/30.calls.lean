-- the sixteen calls of the law
theorem z_op_0 {L : Nat} {xs : Nat → Int} {w : zW} {Q : Option zV → zW → Prop} {P : zW → Prop} (hL : L ≤ 2048) (hb : zBase L xs w) {k : Nat} (h4 : 4 * k + 4 ≤ L)
    (hc : zR 1 0 [some (.inr (some 1)), some (.inl (xs (4 * k + 1))), some (.inl (xs (4 * k + 2))), some (.inl (xs (4 * k + 3))), none] [] w (fun r w1 => ∃ v, r = some (.inl v) ∧ (zBase L xs w1 → zR 29 0 [some (.inr (some 194)), some (.inl (xs (4 * k + 1))), some (.inl (xs (4 * k + 2))), some (.inl (xs (4 * k + 3))), none] [] w1 (fun r2 w2 => ∃ v2, r2 = some (.inl v2) ∧ zN v = zN v2 ∧ (zBase L xs w2 → P w2)))))
    (hq : ∀ w2, P w2 → zR 155 630 (zLs4 ((4 * k : Nat) : Int)) [] w2 Q) : zR 155 112 (zLs4 ((4 * k : Nat) : Int)) [] w Q := by
  obtain ⟨⟨s1, s2, s3⟩, -⟩ := id hb
  have n1 : zN (((4 * k : Nat) : Int) + 1) = ((4 * k + 1 : Nat) : Int) := by rw [zN_of (by omega) (by omega)]; omega
  have n2 : zN (((4 * k : Nat) : Int) + 2) = ((4 * k + 2 : Nat) : Int) := by rw [zN_of (by omega) (by omega)]; omega
  have n3 : zN (((4 * k : Nat) : Int) + 3) = ((4 * k + 3 : Nat) : Int) := by rw [zN_of (by omega) (by omega)]; omega
  rw [zr_155_112, zr_155_113, zr_155_114, zr_155_115, zr_155_116, zr_155_117 ⟨Or.inr s1, by rw [n1]; omega, by rw [n1, s2]; omega⟩, n1, Int.toNat_natCast, s3, zr_155_118, zr_155_119, zr_155_120, zr_155_121, zr_155_122 ⟨Or.inr s1, by rw [n2]; omega, by rw [n2, s2]; omega⟩, n2, Int.toNat_natCast, s3, zr_155_123, zr_155_124, zr_155_125, zr_155_126, zr_155_127 ⟨Or.inr s1, by rw [n3]; omega, by rw [n3, s2]; omega⟩, n3, Int.toNat_natCast, s3, zr_155_128 (Nat.le_of_ble_eq_true rfl) (zk_at_1 hb)]
  refine zR_imp (zR_keep (zBase_pres L xs) hb hc) (fun r w1 h1 => ?_)
  obtain ⟨⟨v, rfl, hm⟩, hb1⟩ := h1
  have hm := hm hb1
  obtain ⟨⟨t1, t2, t3⟩, -⟩ := id hb1
  show zR 155 131 (zLs4 ((4 * k : Nat) : Int)) (.inl v :: []) w1 Q
  rw [zr_155_131, zr_155_132, zr_155_133, zr_155_134, zr_155_135, zr_155_136 ⟨Or.inr t1, by rw [n1]; omega, by rw [n1, t2]; omega⟩, n1, Int.toNat_natCast, t3, zr_155_137, zr_155_138, zr_155_139, zr_155_140, zr_155_141 ⟨Or.inr t1, by rw [n2]; omega, by rw [n2, t2]; omega⟩, n2, Int.toNat_natCast, t3, zr_155_142, zr_155_143, zr_155_144, zr_155_145, zr_155_146 ⟨Or.inr t1, by rw [n3]; omega, by rw [n3, t2]; omega⟩, n3, Int.toNat_natCast, t3, zr_155_147 (Nat.le_of_ble_eq_true rfl) (zk_at_194 hb1)]
  refine zR_imp (zR_keep (zBase_pres L xs) hb1 hm) (fun r w2 h2 => ?_)
  obtain ⟨⟨v2, rfl, hv, hp⟩, hb2⟩ := h2
  show zR 155 150 (zLs4 ((4 * k : Nat) : Int)) (.inl v2 :: .inl v :: []) w2 Q
  rw [zr_155_150, if_pos hv]
  exact hq w2 (hp hb2)
theorem z_op_1 {L : Nat} {xs : Nat → Int} {w : zW} {Q : Option zV → zW → Prop} {P : zW → Prop} (hL : L ≤ 2048) (hb : zBase L xs w) {k : Nat} (h4 : 4 * k + 4 ≤ L)
    (hc : zR 2 0 [some (.inr (some 1)), some (.inl (xs (4 * k + 1)))] [] w (fun r w1 => ∃ v, r = some (.inl v) ∧ (zBase L xs w1 → zR 30 0 [some (.inr (some 194)), some (.inl (xs (4 * k + 1)))] [] w1 (fun r2 w2 => ∃ v2, r2 = some (.inl v2) ∧ zN v = zN v2 ∧ (zBase L xs w2 → P w2)))))
    (hq : ∀ w2, P w2 → zR 155 630 (zLs4 ((4 * k : Nat) : Int)) [] w2 Q) : zR 155 155 (zLs4 ((4 * k : Nat) : Int)) [] w Q := by
  obtain ⟨⟨s1, s2, s3⟩, -⟩ := id hb
  have n1 : zN (((4 * k : Nat) : Int) + 1) = ((4 * k + 1 : Nat) : Int) := by rw [zN_of (by omega) (by omega)]; omega
  have n2 : zN (((4 * k : Nat) : Int) + 2) = ((4 * k + 2 : Nat) : Int) := by rw [zN_of (by omega) (by omega)]; omega
  have n3 : zN (((4 * k : Nat) : Int) + 3) = ((4 * k + 3 : Nat) : Int) := by rw [zN_of (by omega) (by omega)]; omega
  rw [zr_155_155, zr_155_156, zr_155_157, zr_155_158, zr_155_159, zr_155_160 ⟨Or.inr s1, by rw [n1]; omega, by rw [n1, s2]; omega⟩, n1, Int.toNat_natCast, s3, zr_155_161 (Nat.le_of_ble_eq_true rfl) (zk_at_1 hb)]
  refine zR_imp (zR_keep (zBase_pres L xs) hb hc) (fun r w1 h1 => ?_)
  obtain ⟨⟨v, rfl, hm⟩, hb1⟩ := h1
  have hm := hm hb1
  obtain ⟨⟨t1, t2, t3⟩, -⟩ := id hb1
  show zR 155 164 (zLs4 ((4 * k : Nat) : Int)) (.inl v :: []) w1 Q
  rw [zr_155_164, zr_155_165, zr_155_166, zr_155_167, zr_155_168, zr_155_169 ⟨Or.inr t1, by rw [n1]; omega, by rw [n1, t2]; omega⟩, n1, Int.toNat_natCast, t3, zr_155_170 (Nat.le_of_ble_eq_true rfl) (zk_at_194 hb1)]
  refine zR_imp (zR_keep (zBase_pres L xs) hb1 hm) (fun r w2 h2 => ?_)
  obtain ⟨⟨v2, rfl, hv, hp⟩, hb2⟩ := h2
  show zR 155 173 (zLs4 ((4 * k : Nat) : Int)) (.inl v2 :: .inl v :: []) w2 Q
  rw [zr_155_173, if_pos hv]
  exact hq w2 (hp hb2)
theorem z_op_2 {L : Nat} {xs : Nat → Int} {w : zW} {Q : Option zV → zW → Prop} {P : zW → Prop} (hL : L ≤ 2048) (hb : zBase L xs w) {k : Nat} (h4 : 4 * k + 4 ≤ L)
    (hc : zR 3 0 [some (.inr (some 1)), some (.inl (xs (4 * k + 1)))] [] w (fun r w1 => ∃ v, r = some (.inl v) ∧ (zBase L xs w1 → zR 31 0 [some (.inr (some 194)), some (.inl (xs (4 * k + 1)))] [] w1 (fun r2 w2 => ∃ v2, r2 = some (.inl v2) ∧ zN v = zN v2 ∧ (zBase L xs w2 → P w2)))))
    (hq : ∀ w2, P w2 → zR 155 630 (zLs4 ((4 * k : Nat) : Int)) [] w2 Q) : zR 155 178 (zLs4 ((4 * k : Nat) : Int)) [] w Q := by
  obtain ⟨⟨s1, s2, s3⟩, -⟩ := id hb
  have n1 : zN (((4 * k : Nat) : Int) + 1) = ((4 * k + 1 : Nat) : Int) := by rw [zN_of (by omega) (by omega)]; omega
  have n2 : zN (((4 * k : Nat) : Int) + 2) = ((4 * k + 2 : Nat) : Int) := by rw [zN_of (by omega) (by omega)]; omega
  have n3 : zN (((4 * k : Nat) : Int) + 3) = ((4 * k + 3 : Nat) : Int) := by rw [zN_of (by omega) (by omega)]; omega
  rw [zr_155_178, zr_155_179, zr_155_180, zr_155_181, zr_155_182, zr_155_183 ⟨Or.inr s1, by rw [n1]; omega, by rw [n1, s2]; omega⟩, n1, Int.toNat_natCast, s3, zr_155_184 (Nat.le_of_ble_eq_true rfl) (zk_at_1 hb)]
  refine zR_imp (zR_keep (zBase_pres L xs) hb hc) (fun r w1 h1 => ?_)
  obtain ⟨⟨v, rfl, hm⟩, hb1⟩ := h1
  have hm := hm hb1
  obtain ⟨⟨t1, t2, t3⟩, -⟩ := id hb1
  show zR 155 187 (zLs4 ((4 * k : Nat) : Int)) (.inl v :: []) w1 Q
  rw [zr_155_187, zr_155_188, zr_155_189, zr_155_190, zr_155_191, zr_155_192 ⟨Or.inr t1, by rw [n1]; omega, by rw [n1, t2]; omega⟩, n1, Int.toNat_natCast, t3, zr_155_193 (Nat.le_of_ble_eq_true rfl) (zk_at_194 hb1)]
  refine zR_imp (zR_keep (zBase_pres L xs) hb1 hm) (fun r w2 h2 => ?_)
  obtain ⟨⟨v2, rfl, hv, hp⟩, hb2⟩ := h2
  show zR 155 196 (zLs4 ((4 * k : Nat) : Int)) (.inl v2 :: .inl v :: []) w2 Q
  rw [zr_155_196, if_pos hv]
  exact hq w2 (hp hb2)
theorem z_op_3 {L : Nat} {xs : Nat → Int} {w : zW} {Q : Option zV → zW → Prop} {P : zW → Prop} (hL : L ≤ 2048) (hb : zBase L xs w) {k : Nat} (h4 : 4 * k + 4 ≤ L)
    (hc : zR 4 0 [some (.inr (some 1)), some (.inl (xs (4 * k + 1))), some (.inl (xs (4 * k + 2))), some (.inl (xs (4 * k + 3)))] [] w (fun r w1 => ∃ v, r = some (.inl v) ∧ (zBase L xs w1 → zR 32 0 [some (.inr (some 194)), some (.inl (xs (4 * k + 1))), some (.inl (xs (4 * k + 2))), some (.inl (xs (4 * k + 3)))] [] w1 (fun r2 w2 => ∃ v2, r2 = some (.inl v2) ∧ zN v = zN v2 ∧ (zBase L xs w2 → P w2)))))
    (hq : ∀ w2, P w2 → zR 155 630 (zLs4 ((4 * k : Nat) : Int)) [] w2 Q) : zR 155 201 (zLs4 ((4 * k : Nat) : Int)) [] w Q := by
  obtain ⟨⟨s1, s2, s3⟩, -⟩ := id hb
  have n1 : zN (((4 * k : Nat) : Int) + 1) = ((4 * k + 1 : Nat) : Int) := by rw [zN_of (by omega) (by omega)]; omega
  have n2 : zN (((4 * k : Nat) : Int) + 2) = ((4 * k + 2 : Nat) : Int) := by rw [zN_of (by omega) (by omega)]; omega
  have n3 : zN (((4 * k : Nat) : Int) + 3) = ((4 * k + 3 : Nat) : Int) := by rw [zN_of (by omega) (by omega)]; omega
  rw [zr_155_201, zr_155_202, zr_155_203, zr_155_204, zr_155_205, zr_155_206 ⟨Or.inr s1, by rw [n1]; omega, by rw [n1, s2]; omega⟩, n1, Int.toNat_natCast, s3, zr_155_207, zr_155_208, zr_155_209, zr_155_210, zr_155_211 ⟨Or.inr s1, by rw [n2]; omega, by rw [n2, s2]; omega⟩, n2, Int.toNat_natCast, s3, zr_155_212, zr_155_213, zr_155_214, zr_155_215, zr_155_216 ⟨Or.inr s1, by rw [n3]; omega, by rw [n3, s2]; omega⟩, n3, Int.toNat_natCast, s3, zr_155_217 (Nat.le_of_ble_eq_true rfl) (zk_at_1 hb)]
  refine zR_imp (zR_keep (zBase_pres L xs) hb hc) (fun r w1 h1 => ?_)
  obtain ⟨⟨v, rfl, hm⟩, hb1⟩ := h1
  have hm := hm hb1
  obtain ⟨⟨t1, t2, t3⟩, -⟩ := id hb1
  show zR 155 220 (zLs4 ((4 * k : Nat) : Int)) (.inl v :: []) w1 Q
  rw [zr_155_220, zr_155_221, zr_155_222, zr_155_223, zr_155_224, zr_155_225 ⟨Or.inr t1, by rw [n1]; omega, by rw [n1, t2]; omega⟩, n1, Int.toNat_natCast, t3, zr_155_226, zr_155_227, zr_155_228, zr_155_229, zr_155_230 ⟨Or.inr t1, by rw [n2]; omega, by rw [n2, t2]; omega⟩, n2, Int.toNat_natCast, t3, zr_155_231, zr_155_232, zr_155_233, zr_155_234, zr_155_235 ⟨Or.inr t1, by rw [n3]; omega, by rw [n3, t2]; omega⟩, n3, Int.toNat_natCast, t3, zr_155_236 (Nat.le_of_ble_eq_true rfl) (zk_at_194 hb1)]
  refine zR_imp (zR_keep (zBase_pres L xs) hb1 hm) (fun r w2 h2 => ?_)
  obtain ⟨⟨v2, rfl, hv, hp⟩, hb2⟩ := h2
  show zR 155 239 (zLs4 ((4 * k : Nat) : Int)) (.inl v2 :: .inl v :: []) w2 Q
  rw [zr_155_239, if_pos hv]
  exact hq w2 (hp hb2)
theorem z_op_4 {L : Nat} {xs : Nat → Int} {w : zW} {Q : Option zV → zW → Prop} {P : zW → Prop} (hL : L ≤ 2048) (hb : zBase L xs w) {k : Nat} (h4 : 4 * k + 4 ≤ L)
    (hc : zR 5 0 [some (.inr (some 1)), some (.inl (xs (4 * k + 1))), none] [] w (fun r w1 => ∃ v, r = some (.inl v) ∧ (zBase L xs w1 → zR 65 0 [some (.inr (some 194)), some (.inl (xs (4 * k + 1))), none, none] [] w1 (fun r2 w2 => ∃ v2, r2 = some (.inl v2) ∧ zN v = zN v2 ∧ (zBase L xs w2 → P w2)))))
    (hq : ∀ w2, P w2 → zR 155 630 (zLs4 ((4 * k : Nat) : Int)) [] w2 Q) : zR 155 244 (zLs4 ((4 * k : Nat) : Int)) [] w Q := by
  obtain ⟨⟨s1, s2, s3⟩, -⟩ := id hb
  have n1 : zN (((4 * k : Nat) : Int) + 1) = ((4 * k + 1 : Nat) : Int) := by rw [zN_of (by omega) (by omega)]; omega
  have n2 : zN (((4 * k : Nat) : Int) + 2) = ((4 * k + 2 : Nat) : Int) := by rw [zN_of (by omega) (by omega)]; omega
  have n3 : zN (((4 * k : Nat) : Int) + 3) = ((4 * k + 3 : Nat) : Int) := by rw [zN_of (by omega) (by omega)]; omega
  rw [zr_155_244, zr_155_245, zr_155_246, zr_155_247, zr_155_248, zr_155_249 ⟨Or.inr s1, by rw [n1]; omega, by rw [n1, s2]; omega⟩, n1, Int.toNat_natCast, s3, zr_155_250 (Nat.le_of_ble_eq_true rfl) (zk_at_1 hb)]
  refine zR_imp (zR_keep (zBase_pres L xs) hb hc) (fun r w1 h1 => ?_)
  obtain ⟨⟨v, rfl, hm⟩, hb1⟩ := h1
  have hm := hm hb1
  obtain ⟨⟨t1, t2, t3⟩, -⟩ := id hb1
  show zR 155 253 (zLs4 ((4 * k : Nat) : Int)) (.inl v :: []) w1 Q
  rw [zr_155_253, zr_155_254, zr_155_255, zr_155_256, zr_155_257, zr_155_258 ⟨Or.inr t1, by rw [n1]; omega, by rw [n1, t2]; omega⟩, n1, Int.toNat_natCast, t3, zr_155_259 (Nat.le_of_ble_eq_true rfl) (zk_at_194 hb1)]
  refine zR_imp (zR_keep (zBase_pres L xs) hb1 hm) (fun r w2 h2 => ?_)
  obtain ⟨⟨v2, rfl, hv, hp⟩, hb2⟩ := h2
  show zR 155 262 (zLs4 ((4 * k : Nat) : Int)) (.inl v2 :: .inl v :: []) w2 Q
  rw [zr_155_262, if_pos hv]
  exact hq w2 (hp hb2)
theorem z_op_5 {L : Nat} {xs : Nat → Int} {w : zW} {Q : Option zV → zW → Prop} {P : zW → Prop} (hL : L ≤ 2048) (hb : zBase L xs w) {k : Nat} (h4 : 4 * k + 4 ≤ L)
    (hc : zR 6 0 [some (.inr (some 1)), some (.inl (xs (4 * k + 1))), some (.inl (xs (4 * k + 2)))] [] w (fun r w1 => ∃ v, r = some (.inl v) ∧ (zBase L xs w1 → zR 33 0 [some (.inr (some 194)), some (.inl (xs (4 * k + 1))), some (.inl (xs (4 * k + 2)))] [] w1 (fun r2 w2 => ∃ v2, r2 = some (.inl v2) ∧ zN v = zN v2 ∧ (zBase L xs w2 → P w2)))))
    (hq : ∀ w2, P w2 → zR 155 630 (zLs4 ((4 * k : Nat) : Int)) [] w2 Q) : zR 155 267 (zLs4 ((4 * k : Nat) : Int)) [] w Q := by
  obtain ⟨⟨s1, s2, s3⟩, -⟩ := id hb
  have n1 : zN (((4 * k : Nat) : Int) + 1) = ((4 * k + 1 : Nat) : Int) := by rw [zN_of (by omega) (by omega)]; omega
  have n2 : zN (((4 * k : Nat) : Int) + 2) = ((4 * k + 2 : Nat) : Int) := by rw [zN_of (by omega) (by omega)]; omega
  have n3 : zN (((4 * k : Nat) : Int) + 3) = ((4 * k + 3 : Nat) : Int) := by rw [zN_of (by omega) (by omega)]; omega
  rw [zr_155_267, zr_155_268, zr_155_269, zr_155_270, zr_155_271, zr_155_272 ⟨Or.inr s1, by rw [n1]; omega, by rw [n1, s2]; omega⟩, n1, Int.toNat_natCast, s3, zr_155_273, zr_155_274, zr_155_275, zr_155_276, zr_155_277 ⟨Or.inr s1, by rw [n2]; omega, by rw [n2, s2]; omega⟩, n2, Int.toNat_natCast, s3, zr_155_278 (Nat.le_of_ble_eq_true rfl) (zk_at_1 hb)]
  refine zR_imp (zR_keep (zBase_pres L xs) hb hc) (fun r w1 h1 => ?_)
  obtain ⟨⟨v, rfl, hm⟩, hb1⟩ := h1
  have hm := hm hb1
  obtain ⟨⟨t1, t2, t3⟩, -⟩ := id hb1
  show zR 155 281 (zLs4 ((4 * k : Nat) : Int)) (.inl v :: []) w1 Q
  rw [zr_155_281, zr_155_282, zr_155_283, zr_155_284, zr_155_285, zr_155_286 ⟨Or.inr t1, by rw [n1]; omega, by rw [n1, t2]; omega⟩, n1, Int.toNat_natCast, t3, zr_155_287, zr_155_288, zr_155_289, zr_155_290, zr_155_291 ⟨Or.inr t1, by rw [n2]; omega, by rw [n2, t2]; omega⟩, n2, Int.toNat_natCast, t3, zr_155_292 (Nat.le_of_ble_eq_true rfl) (zk_at_194 hb1)]
  refine zR_imp (zR_keep (zBase_pres L xs) hb1 hm) (fun r w2 h2 => ?_)
  obtain ⟨⟨v2, rfl, hv, hp⟩, hb2⟩ := h2
  show zR 155 295 (zLs4 ((4 * k : Nat) : Int)) (.inl v2 :: .inl v :: []) w2 Q
  rw [zr_155_295, if_pos hv]
  exact hq w2 (hp hb2)
theorem z_op_6 {L : Nat} {xs : Nat → Int} {w : zW} {Q : Option zV → zW → Prop} {P : zW → Prop} (hL : L ≤ 2048) (hb : zBase L xs w) {k : Nat} (h4 : 4 * k + 4 ≤ L)
    (hc : zR 7 0 [some (.inr (some 1)), some (.inl (xs (4 * k + 1))), some (.inl (xs (4 * k + 2)))] [] w (fun r w1 => ∃ v, r = some (.inl v) ∧ (zBase L xs w1 → zR 34 0 [some (.inr (some 194)), some (.inl (xs (4 * k + 1))), some (.inl (xs (4 * k + 2))), none, none] [] w1 (fun r2 w2 => ∃ v2, r2 = some (.inl v2) ∧ zN v = zN v2 ∧ (zBase L xs w2 → P w2)))))
    (hq : ∀ w2, P w2 → zR 155 630 (zLs4 ((4 * k : Nat) : Int)) [] w2 Q) : zR 155 300 (zLs4 ((4 * k : Nat) : Int)) [] w Q := by
  obtain ⟨⟨s1, s2, s3⟩, -⟩ := id hb
  have n1 : zN (((4 * k : Nat) : Int) + 1) = ((4 * k + 1 : Nat) : Int) := by rw [zN_of (by omega) (by omega)]; omega
  have n2 : zN (((4 * k : Nat) : Int) + 2) = ((4 * k + 2 : Nat) : Int) := by rw [zN_of (by omega) (by omega)]; omega
  have n3 : zN (((4 * k : Nat) : Int) + 3) = ((4 * k + 3 : Nat) : Int) := by rw [zN_of (by omega) (by omega)]; omega
  rw [zr_155_300, zr_155_301, zr_155_302, zr_155_303, zr_155_304, zr_155_305 ⟨Or.inr s1, by rw [n1]; omega, by rw [n1, s2]; omega⟩, n1, Int.toNat_natCast, s3, zr_155_306, zr_155_307, zr_155_308, zr_155_309, zr_155_310 ⟨Or.inr s1, by rw [n2]; omega, by rw [n2, s2]; omega⟩, n2, Int.toNat_natCast, s3, zr_155_311 (Nat.le_of_ble_eq_true rfl) (zk_at_1 hb)]
  refine zR_imp (zR_keep (zBase_pres L xs) hb hc) (fun r w1 h1 => ?_)
  obtain ⟨⟨v, rfl, hm⟩, hb1⟩ := h1
  have hm := hm hb1
  obtain ⟨⟨t1, t2, t3⟩, -⟩ := id hb1
  show zR 155 314 (zLs4 ((4 * k : Nat) : Int)) (.inl v :: []) w1 Q
  rw [zr_155_314, zr_155_315, zr_155_316, zr_155_317, zr_155_318, zr_155_319 ⟨Or.inr t1, by rw [n1]; omega, by rw [n1, t2]; omega⟩, n1, Int.toNat_natCast, t3, zr_155_320, zr_155_321, zr_155_322, zr_155_323, zr_155_324 ⟨Or.inr t1, by rw [n2]; omega, by rw [n2, t2]; omega⟩, n2, Int.toNat_natCast, t3, zr_155_325 (Nat.le_of_ble_eq_true rfl) (zk_at_194 hb1)]
  refine zR_imp (zR_keep (zBase_pres L xs) hb1 hm) (fun r w2 h2 => ?_)
  obtain ⟨⟨v2, rfl, hv, hp⟩, hb2⟩ := h2
  show zR 155 328 (zLs4 ((4 * k : Nat) : Int)) (.inl v2 :: .inl v :: []) w2 Q
  rw [zr_155_328, if_pos hv]
  exact hq w2 (hp hb2)
theorem z_op_7 {L : Nat} {xs : Nat → Int} {w : zW} {Q : Option zV → zW → Prop} {P : zW → Prop} (hL : L ≤ 2048) (hb : zBase L xs w) {k : Nat} (h4 : 4 * k + 4 ≤ L)
    (hc : zR 8 0 [some (.inr (some 1)), some (.inl (xs (4 * k + 1))), some (.inl (xs (4 * k + 2))), none] [] w (fun r w1 => ∃ v, r = some (.inl v) ∧ (zBase L xs w1 → zR 36 0 [some (.inr (some 194)), some (.inl (xs (4 * k + 1))), some (.inl (xs (4 * k + 2)))] [] w1 (fun r2 w2 => ∃ v2, r2 = some (.inl v2) ∧ zN v = zN v2 ∧ (zBase L xs w2 → P w2)))))
    (hq : ∀ w2, P w2 → zR 155 630 (zLs4 ((4 * k : Nat) : Int)) [] w2 Q) : zR 155 333 (zLs4 ((4 * k : Nat) : Int)) [] w Q := by
  obtain ⟨⟨s1, s2, s3⟩, -⟩ := id hb
  have n1 : zN (((4 * k : Nat) : Int) + 1) = ((4 * k + 1 : Nat) : Int) := by rw [zN_of (by omega) (by omega)]; omega
  have n2 : zN (((4 * k : Nat) : Int) + 2) = ((4 * k + 2 : Nat) : Int) := by rw [zN_of (by omega) (by omega)]; omega
  have n3 : zN (((4 * k : Nat) : Int) + 3) = ((4 * k + 3 : Nat) : Int) := by rw [zN_of (by omega) (by omega)]; omega
  rw [zr_155_333, zr_155_334, zr_155_335, zr_155_336, zr_155_337, zr_155_338 ⟨Or.inr s1, by rw [n1]; omega, by rw [n1, s2]; omega⟩, n1, Int.toNat_natCast, s3, zr_155_339, zr_155_340, zr_155_341, zr_155_342, zr_155_343 ⟨Or.inr s1, by rw [n2]; omega, by rw [n2, s2]; omega⟩, n2, Int.toNat_natCast, s3, zr_155_344 (Nat.le_of_ble_eq_true rfl) (zk_at_1 hb)]
  refine zR_imp (zR_keep (zBase_pres L xs) hb hc) (fun r w1 h1 => ?_)
  obtain ⟨⟨v, rfl, hm⟩, hb1⟩ := h1
  have hm := hm hb1
  obtain ⟨⟨t1, t2, t3⟩, -⟩ := id hb1
  show zR 155 347 (zLs4 ((4 * k : Nat) : Int)) (.inl v :: []) w1 Q
  rw [zr_155_347, zr_155_348, zr_155_349, zr_155_350, zr_155_351, zr_155_352 ⟨Or.inr t1, by rw [n1]; omega, by rw [n1, t2]; omega⟩, n1, Int.toNat_natCast, t3, zr_155_353, zr_155_354, zr_155_355, zr_155_356, zr_155_357 ⟨Or.inr t1, by rw [n2]; omega, by rw [n2, t2]; omega⟩, n2, Int.toNat_natCast, t3, zr_155_358 (Nat.le_of_ble_eq_true rfl) (zk_at_194 hb1)]
  refine zR_imp (zR_keep (zBase_pres L xs) hb1 hm) (fun r w2 h2 => ?_)
  obtain ⟨⟨v2, rfl, hv, hp⟩, hb2⟩ := h2
  show zR 155 361 (zLs4 ((4 * k : Nat) : Int)) (.inl v2 :: .inl v :: []) w2 Q
  rw [zr_155_361, if_pos hv]
  exact hq w2 (hp hb2)
theorem z_op_8 {L : Nat} {xs : Nat → Int} {w : zW} {Q : Option zV → zW → Prop} {P : zW → Prop} (hL : L ≤ 2048) (hb : zBase L xs w) {k : Nat} (h4 : 4 * k + 4 ≤ L)
    (hc : zR 9 0 [some (.inr (some 1)), some (.inl (xs (4 * k + 1))), some (.inl (xs (4 * k + 2))), none] [] w (fun r w1 => ∃ v, r = some (.inl v) ∧ (zBase L xs w1 → zR 66 0 [some (.inr (some 194)), some (.inl (xs (4 * k + 1))), some (.inl (xs (4 * k + 2)))] [] w1 (fun r2 w2 => ∃ v2, r2 = some (.inl v2) ∧ zN v = zN v2 ∧ (zBase L xs w2 → P w2)))))
    (hq : ∀ w2, P w2 → zR 155 630 (zLs4 ((4 * k : Nat) : Int)) [] w2 Q) : zR 155 366 (zLs4 ((4 * k : Nat) : Int)) [] w Q := by
  obtain ⟨⟨s1, s2, s3⟩, -⟩ := id hb
  have n1 : zN (((4 * k : Nat) : Int) + 1) = ((4 * k + 1 : Nat) : Int) := by rw [zN_of (by omega) (by omega)]; omega
  have n2 : zN (((4 * k : Nat) : Int) + 2) = ((4 * k + 2 : Nat) : Int) := by rw [zN_of (by omega) (by omega)]; omega
  have n3 : zN (((4 * k : Nat) : Int) + 3) = ((4 * k + 3 : Nat) : Int) := by rw [zN_of (by omega) (by omega)]; omega
  rw [zr_155_366, zr_155_367, zr_155_368, zr_155_369, zr_155_370, zr_155_371 ⟨Or.inr s1, by rw [n1]; omega, by rw [n1, s2]; omega⟩, n1, Int.toNat_natCast, s3, zr_155_372, zr_155_373, zr_155_374, zr_155_375, zr_155_376 ⟨Or.inr s1, by rw [n2]; omega, by rw [n2, s2]; omega⟩, n2, Int.toNat_natCast, s3, zr_155_377 (Nat.le_of_ble_eq_true rfl) (zk_at_1 hb)]
  refine zR_imp (zR_keep (zBase_pres L xs) hb hc) (fun r w1 h1 => ?_)
  obtain ⟨⟨v, rfl, hm⟩, hb1⟩ := h1
  have hm := hm hb1
  obtain ⟨⟨t1, t2, t3⟩, -⟩ := id hb1
  show zR 155 380 (zLs4 ((4 * k : Nat) : Int)) (.inl v :: []) w1 Q
  rw [zr_155_380, zr_155_381, zr_155_382, zr_155_383, zr_155_384, zr_155_385 ⟨Or.inr t1, by rw [n1]; omega, by rw [n1, t2]; omega⟩, n1, Int.toNat_natCast, t3, zr_155_386, zr_155_387, zr_155_388, zr_155_389, zr_155_390 ⟨Or.inr t1, by rw [n2]; omega, by rw [n2, t2]; omega⟩, n2, Int.toNat_natCast, t3, zr_155_391 (Nat.le_of_ble_eq_true rfl) (zk_at_194 hb1)]
  refine zR_imp (zR_keep (zBase_pres L xs) hb1 hm) (fun r w2 h2 => ?_)
  obtain ⟨⟨v2, rfl, hv, hp⟩, hb2⟩ := h2
  show zR 155 394 (zLs4 ((4 * k : Nat) : Int)) (.inl v2 :: .inl v :: []) w2 Q
  rw [zr_155_394, if_pos hv]
  exact hq w2 (hp hb2)
theorem z_op_9 {L : Nat} {xs : Nat → Int} {w : zW} {Q : Option zV → zW → Prop} {P : zW → Prop} (hL : L ≤ 2048) (hb : zBase L xs w) {k : Nat} (h4 : 4 * k + 4 ≤ L)
    (hc : zR 10 0 [some (.inr (some 1)), some (.inl (xs (4 * k + 1))), some (.inl (xs (4 * k + 2))), none] [] w (fun r w1 => ∃ v, r = some (.inl v) ∧ (zBase L xs w1 → zR 67 0 [some (.inr (some 194)), some (.inl (xs (4 * k + 1))), some (.inl (xs (4 * k + 2)))] [] w1 (fun r2 w2 => ∃ v2, r2 = some (.inl v2) ∧ zN v = zN v2 ∧ (zBase L xs w2 → P w2)))))
    (hq : ∀ w2, P w2 → zR 155 630 (zLs4 ((4 * k : Nat) : Int)) [] w2 Q) : zR 155 399 (zLs4 ((4 * k : Nat) : Int)) [] w Q := by
  obtain ⟨⟨s1, s2, s3⟩, -⟩ := id hb
  have n1 : zN (((4 * k : Nat) : Int) + 1) = ((4 * k + 1 : Nat) : Int) := by rw [zN_of (by omega) (by omega)]; omega
  have n2 : zN (((4 * k : Nat) : Int) + 2) = ((4 * k + 2 : Nat) : Int) := by rw [zN_of (by omega) (by omega)]; omega
  have n3 : zN (((4 * k : Nat) : Int) + 3) = ((4 * k + 3 : Nat) : Int) := by rw [zN_of (by omega) (by omega)]; omega
  rw [zr_155_399, zr_155_400, zr_155_401, zr_155_402, zr_155_403, zr_155_404 ⟨Or.inr s1, by rw [n1]; omega, by rw [n1, s2]; omega⟩, n1, Int.toNat_natCast, s3, zr_155_405, zr_155_406, zr_155_407, zr_155_408, zr_155_409 ⟨Or.inr s1, by rw [n2]; omega, by rw [n2, s2]; omega⟩, n2, Int.toNat_natCast, s3, zr_155_410 (Nat.le_of_ble_eq_true rfl) (zk_at_1 hb)]
  refine zR_imp (zR_keep (zBase_pres L xs) hb hc) (fun r w1 h1 => ?_)
  obtain ⟨⟨v, rfl, hm⟩, hb1⟩ := h1
  have hm := hm hb1
  obtain ⟨⟨t1, t2, t3⟩, -⟩ := id hb1
  show zR 155 413 (zLs4 ((4 * k : Nat) : Int)) (.inl v :: []) w1 Q
  rw [zr_155_413, zr_155_414, zr_155_415, zr_155_416, zr_155_417, zr_155_418 ⟨Or.inr t1, by rw [n1]; omega, by rw [n1, t2]; omega⟩, n1, Int.toNat_natCast, t3, zr_155_419, zr_155_420, zr_155_421, zr_155_422, zr_155_423 ⟨Or.inr t1, by rw [n2]; omega, by rw [n2, t2]; omega⟩, n2, Int.toNat_natCast, t3, zr_155_424 (Nat.le_of_ble_eq_true rfl) (zk_at_194 hb1)]
  refine zR_imp (zR_keep (zBase_pres L xs) hb1 hm) (fun r w2 h2 => ?_)
  obtain ⟨⟨v2, rfl, hv, hp⟩, hb2⟩ := h2
  show zR 155 427 (zLs4 ((4 * k : Nat) : Int)) (.inl v2 :: .inl v :: []) w2 Q
  rw [zr_155_427, if_pos hv]
  exact hq w2 (hp hb2)
theorem z_op_10 {L : Nat} {xs : Nat → Int} {w : zW} {Q : Option zV → zW → Prop} {P : zW → Prop} (hL : L ≤ 2048) (hb : zBase L xs w) {k : Nat} (h4 : 4 * k + 4 ≤ L)
    (hc : zR 11 0 [some (.inr (some 1)), some (.inl (xs (4 * k + 1))), some (.inl (xs (4 * k + 2))), none] [] w (fun r w1 => ∃ v, r = some (.inl v) ∧ (zBase L xs w1 → zR 68 0 [some (.inr (some 194)), some (.inl (xs (4 * k + 1))), some (.inl (xs (4 * k + 2)))] [] w1 (fun r2 w2 => ∃ v2, r2 = some (.inl v2) ∧ zN v = zN v2 ∧ (zBase L xs w2 → P w2)))))
    (hq : ∀ w2, P w2 → zR 155 630 (zLs4 ((4 * k : Nat) : Int)) [] w2 Q) : zR 155 432 (zLs4 ((4 * k : Nat) : Int)) [] w Q := by
  obtain ⟨⟨s1, s2, s3⟩, -⟩ := id hb
  have n1 : zN (((4 * k : Nat) : Int) + 1) = ((4 * k + 1 : Nat) : Int) := by rw [zN_of (by omega) (by omega)]; omega
  have n2 : zN (((4 * k : Nat) : Int) + 2) = ((4 * k + 2 : Nat) : Int) := by rw [zN_of (by omega) (by omega)]; omega
  have n3 : zN (((4 * k : Nat) : Int) + 3) = ((4 * k + 3 : Nat) : Int) := by rw [zN_of (by omega) (by omega)]; omega
  rw [zr_155_432, zr_155_433, zr_155_434, zr_155_435, zr_155_436, zr_155_437 ⟨Or.inr s1, by rw [n1]; omega, by rw [n1, s2]; omega⟩, n1, Int.toNat_natCast, s3, zr_155_438, zr_155_439, zr_155_440, zr_155_441, zr_155_442 ⟨Or.inr s1, by rw [n2]; omega, by rw [n2, s2]; omega⟩, n2, Int.toNat_natCast, s3, zr_155_443 (Nat.le_of_ble_eq_true rfl) (zk_at_1 hb)]
  refine zR_imp (zR_keep (zBase_pres L xs) hb hc) (fun r w1 h1 => ?_)
  obtain ⟨⟨v, rfl, hm⟩, hb1⟩ := h1
  have hm := hm hb1
  obtain ⟨⟨t1, t2, t3⟩, -⟩ := id hb1
  show zR 155 446 (zLs4 ((4 * k : Nat) : Int)) (.inl v :: []) w1 Q
  rw [zr_155_446, zr_155_447, zr_155_448, zr_155_449, zr_155_450, zr_155_451 ⟨Or.inr t1, by rw [n1]; omega, by rw [n1, t2]; omega⟩, n1, Int.toNat_natCast, t3, zr_155_452, zr_155_453, zr_155_454, zr_155_455, zr_155_456 ⟨Or.inr t1, by rw [n2]; omega, by rw [n2, t2]; omega⟩, n2, Int.toNat_natCast, t3, zr_155_457 (Nat.le_of_ble_eq_true rfl) (zk_at_194 hb1)]
  refine zR_imp (zR_keep (zBase_pres L xs) hb1 hm) (fun r w2 h2 => ?_)
  obtain ⟨⟨v2, rfl, hv, hp⟩, hb2⟩ := h2
  show zR 155 460 (zLs4 ((4 * k : Nat) : Int)) (.inl v2 :: .inl v :: []) w2 Q
  rw [zr_155_460, if_pos hv]
  exact hq w2 (hp hb2)
theorem z_op_11 {L : Nat} {xs : Nat → Int} {w : zW} {Q : Option zV → zW → Prop} {P : zW → Prop} (hL : L ≤ 2048) (hb : zBase L xs w) {k : Nat} (h4 : 4 * k + 4 ≤ L)
    (hc : zR 12 0 [some (.inr (some 1)), some (.inl (xs (4 * k + 1))), some (.inl (xs (4 * k + 2))), none] [] w (fun r w1 => ∃ v, r = some (.inl v) ∧ (zBase L xs w1 → zR 69 0 [some (.inr (some 194)), some (.inl (xs (4 * k + 1))), some (.inl (xs (4 * k + 2)))] [] w1 (fun r2 w2 => ∃ v2, r2 = some (.inl v2) ∧ zN v = zN v2 ∧ (zBase L xs w2 → P w2)))))
    (hq : ∀ w2, P w2 → zR 155 630 (zLs4 ((4 * k : Nat) : Int)) [] w2 Q) : zR 155 465 (zLs4 ((4 * k : Nat) : Int)) [] w Q := by
  obtain ⟨⟨s1, s2, s3⟩, -⟩ := id hb
  have n1 : zN (((4 * k : Nat) : Int) + 1) = ((4 * k + 1 : Nat) : Int) := by rw [zN_of (by omega) (by omega)]; omega
  have n2 : zN (((4 * k : Nat) : Int) + 2) = ((4 * k + 2 : Nat) : Int) := by rw [zN_of (by omega) (by omega)]; omega
  have n3 : zN (((4 * k : Nat) : Int) + 3) = ((4 * k + 3 : Nat) : Int) := by rw [zN_of (by omega) (by omega)]; omega
  rw [zr_155_465, zr_155_466, zr_155_467, zr_155_468, zr_155_469, zr_155_470 ⟨Or.inr s1, by rw [n1]; omega, by rw [n1, s2]; omega⟩, n1, Int.toNat_natCast, s3, zr_155_471, zr_155_472, zr_155_473, zr_155_474, zr_155_475 ⟨Or.inr s1, by rw [n2]; omega, by rw [n2, s2]; omega⟩, n2, Int.toNat_natCast, s3, zr_155_476 (Nat.le_of_ble_eq_true rfl) (zk_at_1 hb)]
  refine zR_imp (zR_keep (zBase_pres L xs) hb hc) (fun r w1 h1 => ?_)
  obtain ⟨⟨v, rfl, hm⟩, hb1⟩ := h1
  have hm := hm hb1
  obtain ⟨⟨t1, t2, t3⟩, -⟩ := id hb1
  show zR 155 479 (zLs4 ((4 * k : Nat) : Int)) (.inl v :: []) w1 Q
  rw [zr_155_479, zr_155_480, zr_155_481, zr_155_482, zr_155_483, zr_155_484 ⟨Or.inr t1, by rw [n1]; omega, by rw [n1, t2]; omega⟩, n1, Int.toNat_natCast, t3, zr_155_485, zr_155_486, zr_155_487, zr_155_488, zr_155_489 ⟨Or.inr t1, by rw [n2]; omega, by rw [n2, t2]; omega⟩, n2, Int.toNat_natCast, t3, zr_155_490 (Nat.le_of_ble_eq_true rfl) (zk_at_194 hb1)]
  refine zR_imp (zR_keep (zBase_pres L xs) hb1 hm) (fun r w2 h2 => ?_)
  obtain ⟨⟨v2, rfl, hv, hp⟩, hb2⟩ := h2
  show zR 155 493 (zLs4 ((4 * k : Nat) : Int)) (.inl v2 :: .inl v :: []) w2 Q
  rw [zr_155_493, if_pos hv]
  exact hq w2 (hp hb2)
theorem z_op_12 {L : Nat} {xs : Nat → Int} {w : zW} {Q : Option zV → zW → Prop} {P : zW → Prop} (hL : L ≤ 2048) (hb : zBase L xs w) {k : Nat} (h4 : 4 * k + 4 ≤ L)
    (hc : zR 13 0 [some (.inr (some 1)), some (.inl (xs (4 * k + 1))), some (.inl (xs (4 * k + 2))), none] [] w (fun r w1 => ∃ v, r = some (.inl v) ∧ (zBase L xs w1 → zR 70 0 [some (.inr (some 194)), some (.inl (xs (4 * k + 1))), some (.inl (xs (4 * k + 2)))] [] w1 (fun r2 w2 => ∃ v2, r2 = some (.inl v2) ∧ zN v = zN v2 ∧ (zBase L xs w2 → P w2)))))
    (hq : ∀ w2, P w2 → zR 155 630 (zLs4 ((4 * k : Nat) : Int)) [] w2 Q) : zR 155 498 (zLs4 ((4 * k : Nat) : Int)) [] w Q := by
  obtain ⟨⟨s1, s2, s3⟩, -⟩ := id hb
  have n1 : zN (((4 * k : Nat) : Int) + 1) = ((4 * k + 1 : Nat) : Int) := by rw [zN_of (by omega) (by omega)]; omega
  have n2 : zN (((4 * k : Nat) : Int) + 2) = ((4 * k + 2 : Nat) : Int) := by rw [zN_of (by omega) (by omega)]; omega
  have n3 : zN (((4 * k : Nat) : Int) + 3) = ((4 * k + 3 : Nat) : Int) := by rw [zN_of (by omega) (by omega)]; omega
  rw [zr_155_498, zr_155_499, zr_155_500, zr_155_501, zr_155_502, zr_155_503 ⟨Or.inr s1, by rw [n1]; omega, by rw [n1, s2]; omega⟩, n1, Int.toNat_natCast, s3, zr_155_504, zr_155_505, zr_155_506, zr_155_507, zr_155_508 ⟨Or.inr s1, by rw [n2]; omega, by rw [n2, s2]; omega⟩, n2, Int.toNat_natCast, s3, zr_155_509 (Nat.le_of_ble_eq_true rfl) (zk_at_1 hb)]
  refine zR_imp (zR_keep (zBase_pres L xs) hb hc) (fun r w1 h1 => ?_)
  obtain ⟨⟨v, rfl, hm⟩, hb1⟩ := h1
  have hm := hm hb1
  obtain ⟨⟨t1, t2, t3⟩, -⟩ := id hb1
  show zR 155 512 (zLs4 ((4 * k : Nat) : Int)) (.inl v :: []) w1 Q
  rw [zr_155_512, zr_155_513, zr_155_514, zr_155_515, zr_155_516, zr_155_517 ⟨Or.inr t1, by rw [n1]; omega, by rw [n1, t2]; omega⟩, n1, Int.toNat_natCast, t3, zr_155_518, zr_155_519, zr_155_520, zr_155_521, zr_155_522 ⟨Or.inr t1, by rw [n2]; omega, by rw [n2, t2]; omega⟩, n2, Int.toNat_natCast, t3, zr_155_523 (Nat.le_of_ble_eq_true rfl) (zk_at_194 hb1)]
  refine zR_imp (zR_keep (zBase_pres L xs) hb1 hm) (fun r w2 h2 => ?_)
  obtain ⟨⟨v2, rfl, hv, hp⟩, hb2⟩ := h2
  show zR 155 526 (zLs4 ((4 * k : Nat) : Int)) (.inl v2 :: .inl v :: []) w2 Q
  rw [zr_155_526, if_pos hv]
  exact hq w2 (hp hb2)
theorem z_op_13 {L : Nat} {xs : Nat → Int} {w : zW} {Q : Option zV → zW → Prop} {P : zW → Prop} (hL : L ≤ 2048) (hb : zBase L xs w) {k : Nat} (h4 : 4 * k + 4 ≤ L)
    (hc : zR 14 0 [some (.inr (some 1)), some (.inl (xs (4 * k + 1))), some (.inl (xs (4 * k + 2))), none] [] w (fun r w1 => ∃ v, r = some (.inl v) ∧ (zBase L xs w1 → zR 71 0 [some (.inr (some 194)), some (.inl (xs (4 * k + 1))), some (.inl (xs (4 * k + 2)))] [] w1 (fun r2 w2 => ∃ v2, r2 = some (.inl v2) ∧ zN v = zN v2 ∧ (zBase L xs w2 → P w2)))))
    (hq : ∀ w2, P w2 → zR 155 630 (zLs4 ((4 * k : Nat) : Int)) [] w2 Q) : zR 155 531 (zLs4 ((4 * k : Nat) : Int)) [] w Q := by
  obtain ⟨⟨s1, s2, s3⟩, -⟩ := id hb
  have n1 : zN (((4 * k : Nat) : Int) + 1) = ((4 * k + 1 : Nat) : Int) := by rw [zN_of (by omega) (by omega)]; omega
  have n2 : zN (((4 * k : Nat) : Int) + 2) = ((4 * k + 2 : Nat) : Int) := by rw [zN_of (by omega) (by omega)]; omega
  have n3 : zN (((4 * k : Nat) : Int) + 3) = ((4 * k + 3 : Nat) : Int) := by rw [zN_of (by omega) (by omega)]; omega
  rw [zr_155_531, zr_155_532, zr_155_533, zr_155_534, zr_155_535, zr_155_536 ⟨Or.inr s1, by rw [n1]; omega, by rw [n1, s2]; omega⟩, n1, Int.toNat_natCast, s3, zr_155_537, zr_155_538, zr_155_539, zr_155_540, zr_155_541 ⟨Or.inr s1, by rw [n2]; omega, by rw [n2, s2]; omega⟩, n2, Int.toNat_natCast, s3, zr_155_542 (Nat.le_of_ble_eq_true rfl) (zk_at_1 hb)]
  refine zR_imp (zR_keep (zBase_pres L xs) hb hc) (fun r w1 h1 => ?_)
  obtain ⟨⟨v, rfl, hm⟩, hb1⟩ := h1
  have hm := hm hb1
  obtain ⟨⟨t1, t2, t3⟩, -⟩ := id hb1
  show zR 155 545 (zLs4 ((4 * k : Nat) : Int)) (.inl v :: []) w1 Q
  rw [zr_155_545, zr_155_546, zr_155_547, zr_155_548, zr_155_549, zr_155_550 ⟨Or.inr t1, by rw [n1]; omega, by rw [n1, t2]; omega⟩, n1, Int.toNat_natCast, t3, zr_155_551, zr_155_552, zr_155_553, zr_155_554, zr_155_555 ⟨Or.inr t1, by rw [n2]; omega, by rw [n2, t2]; omega⟩, n2, Int.toNat_natCast, t3, zr_155_556 (Nat.le_of_ble_eq_true rfl) (zk_at_194 hb1)]
  refine zR_imp (zR_keep (zBase_pres L xs) hb1 hm) (fun r w2 h2 => ?_)
  obtain ⟨⟨v2, rfl, hv, hp⟩, hb2⟩ := h2
  show zR 155 559 (zLs4 ((4 * k : Nat) : Int)) (.inl v2 :: .inl v :: []) w2 Q
  rw [zr_155_559, if_pos hv]
  exact hq w2 (hp hb2)
theorem z_op_14 {L : Nat} {xs : Nat → Int} {w : zW} {Q : Option zV → zW → Prop} {P : zW → Prop} (hL : L ≤ 2048) (hb : zBase L xs w) {k : Nat} (h4 : 4 * k + 4 ≤ L)
    (hc : zR 15 0 [some (.inr (some 1)), some (.inl (xs (4 * k + 1))), some (.inl (xs (4 * k + 2))), none] [] w (fun r w1 => ∃ v, r = some (.inl v) ∧ (zBase L xs w1 → zR 72 0 [some (.inr (some 194)), some (.inl (xs (4 * k + 1))), some (.inl (xs (4 * k + 2)))] [] w1 (fun r2 w2 => ∃ v2, r2 = some (.inl v2) ∧ zN v = zN v2 ∧ (zBase L xs w2 → P w2)))))
    (hq : ∀ w2, P w2 → zR 155 630 (zLs4 ((4 * k : Nat) : Int)) [] w2 Q) : zR 155 564 (zLs4 ((4 * k : Nat) : Int)) [] w Q := by
  obtain ⟨⟨s1, s2, s3⟩, -⟩ := id hb
  have n1 : zN (((4 * k : Nat) : Int) + 1) = ((4 * k + 1 : Nat) : Int) := by rw [zN_of (by omega) (by omega)]; omega
  have n2 : zN (((4 * k : Nat) : Int) + 2) = ((4 * k + 2 : Nat) : Int) := by rw [zN_of (by omega) (by omega)]; omega
  have n3 : zN (((4 * k : Nat) : Int) + 3) = ((4 * k + 3 : Nat) : Int) := by rw [zN_of (by omega) (by omega)]; omega
  rw [zr_155_564, zr_155_565, zr_155_566, zr_155_567, zr_155_568, zr_155_569 ⟨Or.inr s1, by rw [n1]; omega, by rw [n1, s2]; omega⟩, n1, Int.toNat_natCast, s3, zr_155_570, zr_155_571, zr_155_572, zr_155_573, zr_155_574 ⟨Or.inr s1, by rw [n2]; omega, by rw [n2, s2]; omega⟩, n2, Int.toNat_natCast, s3, zr_155_575 (Nat.le_of_ble_eq_true rfl) (zk_at_1 hb)]
  refine zR_imp (zR_keep (zBase_pres L xs) hb hc) (fun r w1 h1 => ?_)
  obtain ⟨⟨v, rfl, hm⟩, hb1⟩ := h1
  have hm := hm hb1
  obtain ⟨⟨t1, t2, t3⟩, -⟩ := id hb1
  show zR 155 578 (zLs4 ((4 * k : Nat) : Int)) (.inl v :: []) w1 Q
  rw [zr_155_578, zr_155_579, zr_155_580, zr_155_581, zr_155_582, zr_155_583 ⟨Or.inr t1, by rw [n1]; omega, by rw [n1, t2]; omega⟩, n1, Int.toNat_natCast, t3, zr_155_584, zr_155_585, zr_155_586, zr_155_587, zr_155_588 ⟨Or.inr t1, by rw [n2]; omega, by rw [n2, t2]; omega⟩, n2, Int.toNat_natCast, t3, zr_155_589 (Nat.le_of_ble_eq_true rfl) (zk_at_194 hb1)]
  refine zR_imp (zR_keep (zBase_pres L xs) hb1 hm) (fun r w2 h2 => ?_)
  obtain ⟨⟨v2, rfl, hv, hp⟩, hb2⟩ := h2
  show zR 155 592 (zLs4 ((4 * k : Nat) : Int)) (.inl v2 :: .inl v :: []) w2 Q
  rw [zr_155_592, if_pos hv]
  exact hq w2 (hp hb2)
theorem z_op_15 {L : Nat} {xs : Nat → Int} {w : zW} {Q : Option zV → zW → Prop} {P : zW → Prop} (hL : L ≤ 2048) (hb : zBase L xs w) {k : Nat} (h4 : 4 * k + 4 ≤ L)
    (hc : zR 16 0 [some (.inr (some 1)), some (.inl (xs (4 * k + 1))), some (.inl (xs (4 * k + 2))), none] [] w (fun r w1 => ∃ v, r = some (.inl v) ∧ (zBase L xs w1 → zR 73 0 [some (.inr (some 194)), some (.inl (xs (4 * k + 1))), some (.inl (xs (4 * k + 2)))] [] w1 (fun r2 w2 => ∃ v2, r2 = some (.inl v2) ∧ zN v = zN v2 ∧ (zBase L xs w2 → P w2)))))
    (hq : ∀ w2, P w2 → zR 155 630 (zLs4 ((4 * k : Nat) : Int)) [] w2 Q) : zR 155 597 (zLs4 ((4 * k : Nat) : Int)) [] w Q := by
  obtain ⟨⟨s1, s2, s3⟩, -⟩ := id hb
  have n1 : zN (((4 * k : Nat) : Int) + 1) = ((4 * k + 1 : Nat) : Int) := by rw [zN_of (by omega) (by omega)]; omega
  have n2 : zN (((4 * k : Nat) : Int) + 2) = ((4 * k + 2 : Nat) : Int) := by rw [zN_of (by omega) (by omega)]; omega
  have n3 : zN (((4 * k : Nat) : Int) + 3) = ((4 * k + 3 : Nat) : Int) := by rw [zN_of (by omega) (by omega)]; omega
  rw [zr_155_597, zr_155_598, zr_155_599, zr_155_600, zr_155_601, zr_155_602 ⟨Or.inr s1, by rw [n1]; omega, by rw [n1, s2]; omega⟩, n1, Int.toNat_natCast, s3, zr_155_603, zr_155_604, zr_155_605, zr_155_606, zr_155_607 ⟨Or.inr s1, by rw [n2]; omega, by rw [n2, s2]; omega⟩, n2, Int.toNat_natCast, s3, zr_155_608 (Nat.le_of_ble_eq_true rfl) (zk_at_1 hb)]
  refine zR_imp (zR_keep (zBase_pres L xs) hb hc) (fun r w1 h1 => ?_)
  obtain ⟨⟨v, rfl, hm⟩, hb1⟩ := h1
  have hm := hm hb1
  obtain ⟨⟨t1, t2, t3⟩, -⟩ := id hb1
  show zR 155 611 (zLs4 ((4 * k : Nat) : Int)) (.inl v :: []) w1 Q
  rw [zr_155_611, zr_155_612, zr_155_613, zr_155_614, zr_155_615, zr_155_616 ⟨Or.inr t1, by rw [n1]; omega, by rw [n1, t2]; omega⟩, n1, Int.toNat_natCast, t3, zr_155_617, zr_155_618, zr_155_619, zr_155_620, zr_155_621 ⟨Or.inr t1, by rw [n2]; omega, by rw [n2, t2]; omega⟩, n2, Int.toNat_natCast, t3, zr_155_622 (Nat.le_of_ble_eq_true rfl) (zk_at_194 hb1)]
  refine zR_imp (zR_keep (zBase_pres L xs) hb1 hm) (fun r w2 h2 => ?_)
  obtain ⟨⟨v2, rfl, hv, hp⟩, hb2⟩ := h2
  show zR 155 625 (zLs4 ((4 * k : Nat) : Int)) (.inl v2 :: .inl v :: []) w2 Q
  rw [zr_155_625, if_pos hv]
  exact hq w2 (hp hb2)
