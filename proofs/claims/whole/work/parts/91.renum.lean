-- the reference: enumeration
theorem m_26 {w : zW} {Q : Option zV → zW → Prop} {b ow : Int} (hb : 0 ≤ b ∧ b ≤ 1) (how : (b = 0 ∧ ow = 0) ∨ (b ≠ 0 ∧ ow = 7)) : zR 26 0 [some (.inl b)] [] w Q = Q (some (.inl ow)) w := by
  rcases how with ⟨h1, h2⟩ | ⟨h1, h2⟩
  · rw [h2]
    rw [zr_26_0, zr_26_1, zN_of (x := b) (by omega) (by omega), if_neg (by omega), zr_26_4, zr_26_5, zr_26_10]
  · rw [h2]
    rw [zr_26_0, zr_26_1, zN_of (x := b) (by omega) (by omega), if_pos (by omega), zr_26_8, zr_26_10]
theorem m_56_0 {c : zW} {s : zSt} {Q : Option zV → zW → Prop} (hc : zKR c) {b p : Int} (hb : 0 ≤ b ∧ b ≤ 1) (hp : 0 ≤ p ∧ p ≤ 7) (hbu : -1 ≤ s 195 p ∧ s 195 p ≤ 1) (h1 : s 195 p ≠ b) : zR 56 0 [some (.inr (some 194)), some (.inl p), some (.inl b)] [] (zmk c s) Q = Q (some (.inl 0)) (zmk c s) := by
  rw [zr_56_0, zr_56_1 (rk_194 hc), rp_73 hc, zr_56_4, zr_56_5 (ri_195 hc (by omega) (by omega)), ra (h := 195) (j := p) (by decide) (by decide) (by omega) (by omega), zr_56_6, zr_56_7, zN_of (x := s 195 p) (by omega) (by omega), zN_of (x := b) (by omega) (by omega), if_pos (by omega), zr_56_22, zr_56_23 (Or.inl (by decide))]
theorem m_56_1 {c : zW} {s : zSt} {Q : Option zV → zW → Prop} (hc : zKR c) {b p : Int} (hb : 0 ≤ b ∧ b ≤ 1) (hp : 0 ≤ p ∧ p ≤ 7) (hbu : -1 ≤ s 195 p ∧ s 195 p ≤ 1) {ow : Int} (how : (b = 0 ∧ ow = 0) ∨ (b ≠ 0 ∧ ow = 7)) (h1 : s 195 p = b) (h2 : p = ow) : zR 56 0 [some (.inr (some 194)), some (.inl p), some (.inl b)] [] (zmk c s) Q = Q (some (.inl 0)) (zmk c s) := by
  rw [zr_56_0, zr_56_1 (rk_194 hc), rp_73 hc, zr_56_4, zr_56_5 (ri_195 hc (by omega) (by omega)), ra (h := 195) (j := p) (by decide) (by decide) (by omega) (by omega), zr_56_6, zr_56_7, zN_of (x := s 195 p) (by omega) (by omega), zN_of (x := b) (by omega) (by omega), if_neg (by omega), zr_56_10, zr_56_11, zr_56_12 (by exact Nat.le_of_ble_eq_true rfl), m_26 (ow := ow) hb how, Option.toList_some, List.cons_append, List.nil_append, zr_56_15, zN_of (x := p) (by omega) (by omega), zN_of (x := ow) (by omega) (by omega), if_pos (by omega), zr_56_22, zr_56_23 (Or.inl (by decide))]
theorem m_56_2 {c : zW} {s : zSt} {Q : Option zV → zW → Prop} (hc : zKR c) {b p : Int} (hb : 0 ≤ b ∧ b ≤ 1) (hp : 0 ≤ p ∧ p ≤ 7) (hbu : -1 ≤ s 195 p ∧ s 195 p ≤ 1) {ow : Int} (how : (b = 0 ∧ ow = 0) ∨ (b ≠ 0 ∧ ow = 7)) (h1 : s 195 p = b) (h2 : p ≠ ow) : zR 56 0 [some (.inr (some 194)), some (.inl p), some (.inl b)] [] (zmk c s) Q = Q (some (.inl 1)) (zmk c s) := by
  rw [zr_56_0, zr_56_1 (rk_194 hc), rp_73 hc, zr_56_4, zr_56_5 (ri_195 hc (by omega) (by omega)), ra (h := 195) (j := p) (by decide) (by decide) (by omega) (by omega), zr_56_6, zr_56_7, zN_of (x := s 195 p) (by omega) (by omega), zN_of (x := b) (by omega) (by omega), if_neg (by omega), zr_56_10, zr_56_11, zr_56_12 (by exact Nat.le_of_ble_eq_true rfl), m_26 (ow := ow) hb how, Option.toList_some, List.cons_append, List.nil_append, zr_56_15, zN_of (x := p) (by omega) (by omega), zN_of (x := ow) (by omega) (by omega), if_neg (by omega), zr_56_18, zr_56_19, zr_56_23 (Or.inr (by decide))]
def zmi (s : zSt) (b p : Int) : Prop := s 195 p = b ∧ p ≠ 0 ∧ p ≠ 7
theorem how_of {b : Int} (hb : 0 ≤ b ∧ b ≤ 1) : (b = 0 ∧ (if b = 0 then (0 : Int) else 7) = 0) ∨ (b ≠ 0 ∧ (if b = 0 then (0 : Int) else 7) = 7) := by
  by_cases q : b = 0
  · rw [if_pos q]
    exact Or.inl ⟨q, rfl⟩
  · rw [if_neg q]
    exact Or.inr ⟨q, rfl⟩
theorem m_56_y {c : zW} {s : zSt} {Q : Option zV → zW → Prop} (hc : zKR c) {b p : Int} (hb : 0 ≤ b ∧ b ≤ 1) (hp : 0 ≤ p ∧ p ≤ 7) (hbu : -1 ≤ s 195 p ∧ s 195 p ≤ 1) (h : zmi s b p) : zR 56 0 [some (.inr (some 194)), some (.inl p), some (.inl b)] [] (zmk c s) Q = Q (some (.inl 1)) (zmk c s) := by
  have hw := how_of hb
  obtain ⟨h1, h2, h3⟩ := h
  exact m_56_2 hc hb hp hbu hw h1 (by omega)
theorem m_56_n {c : zW} {s : zSt} {Q : Option zV → zW → Prop} (hc : zKR c) {b p : Int} (hb : 0 ≤ b ∧ b ≤ 1) (hp : 0 ≤ p ∧ p ≤ 7) (hbu : -1 ≤ s 195 p ∧ s 195 p ≤ 1) (hi : iN s) (h : ¬ zmi s b p) : zR 56 0 [some (.inr (some 194)), some (.inl p), some (.inl b)] [] (zmk c s) Q = Q (some (.inl 0)) (zmk c s) := by
  have hw := how_of hb
  by_cases h1 : s 195 p = b
  · obtain ⟨i0, i1, i7, -⟩ := hi
    have h2 : p = 0 ∨ p = 7 := by
      by_cases q : p = 0
      · exact Or.inl q
      · by_cases q2 : p = 7
        · exact Or.inr q2
        · exact absurd ⟨h1, q, q2⟩ h
    refine m_56_1 hc hb hp hbu hw h1 ?_
    rcases h2 with q | q
    · rw [q] at h1
      omega
    · rw [q] at h1
      omega
  · exact m_56_0 hc hb hp hbu h1
theorem m_60_11_0 {c : zW} {s : zSt} {Q : Option zV → zW → Prop} (hc : zKR c) {b p : Int} (hb : 0 ≤ b ∧ b ≤ 1) (hp : 0 ≤ p ∧ p ≤ 7) (hbu : -1 ≤ s 195 p ∧ s 195 p ≤ 1) (h8 : s 198 p = 0) : zR 60 11 [some (.inr (some 194)), some (.inl b), some (.inl p)] [] (zmk c s) Q = zR 60 11 [some (.inr (some 194)), some (.inl b), some (.inl (p + 1))] [] (zmk c (zv s 198 p 0)) Q := by
  rw [zr_60_11, zr_60_12, zr_60_14, zN_of (x := p) (by omega) (by omega), show zN 8 = 8 by decide, if_neg (by omega), zr_60_17, zr_60_18 (rk_194 hc), rp_76 hc, zr_60_21, zr_60_22, zr_60_23 (rk_194 hc), rp_76 hc, zr_60_26, zr_60_27 (ri_198 hc (by omega) (by omega)), ra (h := 198) (j := p) (by decide) (by decide) (by omega) (by omega), h8, zr_60_28, show zN 0 = 0 by decide, if_pos (by omega), zr_60_44, zr_60_45 (rs_198 hc (by omega) (by omega) (Or.inl (by decide))), rsa (h := 198) (j := p) (by decide) (by decide) (by omega) (by omega), zr_60_46, zr_60_49]
theorem m_60_11_m {c : zW} {s : zSt} {Q : Option zV → zW → Prop} (hc : zKR c) {b p : Int} (hb : 0 ≤ b ∧ b ≤ 1) (hp : 0 ≤ p ∧ p ≤ 7) (hbu : -1 ≤ s 195 p ∧ s 195 p ≤ 1) (h8 : s 198 p = 1) (hm : zmi s b p) : zR 60 11 [some (.inr (some 194)), some (.inl b), some (.inl p)] [] (zmk c s) Q = zR 60 11 [some (.inr (some 194)), some (.inl b), some (.inl (p + 1))] [] (zmk c (zv s 198 p 0)) Q := by
  rw [zr_60_11, zr_60_12, zr_60_14, zN_of (x := p) (by omega) (by omega), show zN 8 = 8 by decide, if_neg (by omega), zr_60_17, zr_60_18 (rk_194 hc), rp_76 hc, zr_60_21, zr_60_22, zr_60_23 (rk_194 hc), rp_76 hc, zr_60_26, zr_60_27 (ri_198 hc (by omega) (by omega)), ra (h := 198) (j := p) (by decide) (by decide) (by omega) (by omega), h8, zr_60_28, show zN 1 = 1 by decide, if_neg (by omega), zr_60_31, zr_60_32, zr_60_33, zr_60_34 (by exact Nat.le_of_ble_eq_true rfl) (rk_194 hc), m_56_y hc hb hp hbu hm, Option.toList_some, List.cons_append, List.nil_append, zr_60_37, show zN 1 = 1 by decide, if_pos (by omega), zr_60_44, zr_60_45 (rs_198 hc (by omega) (by omega) (Or.inl (by decide))), rsa (h := 198) (j := p) (by decide) (by decide) (by omega) (by omega), zr_60_46, zr_60_49]
theorem m_60_11_n {c : zW} {s : zSt} {Q : Option zV → zW → Prop} (hc : zKR c) {b p : Int} (hb : 0 ≤ b ∧ b ≤ 1) (hp : 0 ≤ p ∧ p ≤ 7) (hbu : -1 ≤ s 195 p ∧ s 195 p ≤ 1) (h8 : s 198 p = 1) (hi : iN s) (hm : ¬ zmi s b p) : zR 60 11 [some (.inr (some 194)), some (.inl b), some (.inl p)] [] (zmk c s) Q = zR 60 11 [some (.inr (some 194)), some (.inl b), some (.inl (p + 1))] [] (zmk c (zv s 198 p 1)) Q := by
  rw [zr_60_11, zr_60_12, zr_60_14, zN_of (x := p) (by omega) (by omega), show zN 8 = 8 by decide, if_neg (by omega), zr_60_17, zr_60_18 (rk_194 hc), rp_76 hc, zr_60_21, zr_60_22, zr_60_23 (rk_194 hc), rp_76 hc, zr_60_26, zr_60_27 (ri_198 hc (by omega) (by omega)), ra (h := 198) (j := p) (by decide) (by decide) (by omega) (by omega), h8, zr_60_28, show zN 1 = 1 by decide, if_neg (by omega), zr_60_31, zr_60_32, zr_60_33, zr_60_34 (by exact Nat.le_of_ble_eq_true rfl) (rk_194 hc), m_56_n hc hb hp hbu hi hm, Option.toList_some, List.cons_append, List.nil_append, zr_60_37, show zN 0 = 0 by decide, if_neg (by omega), zr_60_40, zr_60_41, zr_60_45 (rs_198 hc (by omega) (by omega) (Or.inr (by decide))), rsa (h := 198) (j := p) (by decide) (by decide) (by omega) (by omega), zr_60_46, zr_60_49]
theorem m_60_11_e {c : zW} {s : zSt} {Q : Option zV → zW → Prop} {b : Int} : zR 60 11 [some (.inr (some 194)), some (.inl b), some (.inl 8)] [] (zmk c s) Q = zR 60 52 [some (.inr (some 194)), some (.inl b), some (.inl 8)] [] (zmk c s) Q := by
  rw [zr_60_11, zr_60_12, zr_60_14, show zN 8 = 8 by decide, if_pos (by omega)]
def zg60 (s : zSt) (b x : Int) : Int := if s 195 x = b ∧ x ≠ 0 ∧ x ≠ 7 then 0 else s 198 x
theorem zmi_zpt {s : zSt} {a : Nat} {n b p : Int} {g : Int → Int} (h : a ≠ 195) : zmi (zpt s a 0 n g) b p ↔ zmi s b p := by
  unfold zmi
  rw [zpt_ne (fun q => h q.symm)]
theorem iN_zpt {s : zSt} {a : Nat} {n : Int} {g : Int → Int} (h : a ≠ 195) (hi : iN s) : iN (zpt s a 0 n g) := by
  unfold iN at hi ⊢
  simp only [zpt_ne (fun q : 195 = a => h q.symm)]
  exact hi
theorem m_60_11 {c : zW} {s : zSt} {Q : Option zV → zW → Prop} (hc : zKR c) {b : Int} (hb : 0 ≤ b ∧ b ≤ 1) (hi : iN s) (h8 : ∀ p : Int, 0 ≤ p → p < 8 → s 198 p = 0 ∨ s 198 p = 1) : ∀ (jj : Nat) (p : Int), p + (jj : Int) = 8 → 0 ≤ p → zR 60 11 [some (.inr (some 194)), some (.inl b), some (.inl p)] [] (zmk c (zpt s 198 0 p (zg60 s b))) Q = zR 60 52 [some (.inr (some 194)), some (.inl b), some (.inl 8)] [] (zmk c (zpt s 198 0 8 (zg60 s b))) Q := by
  intro jj
  induction jj with
  | zero =>
    intro p hp p0
    have : p = 8 := by omega
    subst this
    exact m_60_11_e
  | succ jj ih =>
    intro p hp p0
    have e8 : zpt s 198 0 p (zg60 s b) 198 p = s 198 p := zpt_o (by omega)
    have e5 : -1 ≤ zpt s 198 0 p (zg60 s b) 195 p ∧ zpt s 198 0 p (zg60 s b) 195 p ≤ 1 := by
      rw [zpt_ne (by decide)]
      exact hi.2.2.2 p p0 (by omega)
    have hn := ih (p + 1) (by omega) (by omega)
    rw [← zpt_s0 p0] at hn
    by_cases hm : zmi s b p
    · have eg : zg60 s b p = 0 := if_pos hm
      rw [eg] at hn
      rcases h8 p p0 (by omega) with q | q
      · exact (m_60_11_0 hc hb (by omega) e5 (e8.trans q)).trans hn
      · exact (m_60_11_m hc hb (by omega) e5 (e8.trans q) ((zmi_zpt (by decide)).2 hm)).trans hn
    · have eg : zg60 s b p = s 198 p := if_neg hm
      rw [eg] at hn
      rcases h8 p p0 (by omega) with q | q
      · rw [q] at hn
        exact (m_60_11_0 hc hb (by omega) e5 (e8.trans q)).trans hn
      · rw [q] at hn
        exact (m_60_11_n hc hb (by omega) e5 (e8.trans q) (iN_zpt (by decide) hi) (fun z => hm ((zmi_zpt (by decide)).1 z))).trans hn
theorem m_60_prep {c : zW} {s : zSt} {Q : Option zV → zW → Prop} (hc : zKR c) {b : Int} (hb : 0 ≤ b ∧ b ≤ 1) (hi : iN s) (h8 : ∀ p : Int, 0 ≤ p → p < 8 → s 198 p = 0 ∨ s 198 p = 1) (h6 : s 216 b = 0) : zR 60 0 [some (.inr (some 194)), some (.inl b), none] [] (zmk c s) Q = Q none (zmk c (zv (zv (zv (zpt s 198 0 8 (zg60 s b)) 219 b 0) 216 b 1) 218 b 0)) := by
  rw [zr_60_0, zr_60_1 (rk_194 hc), rp_94 hc, zr_60_4, zr_60_5 (ri_216 hc (by omega) (by omega)), ra (h := 216) (j := b) (by decide) (by decide) (by omega) (by omega), h6, zr_60_6, show zN 0 = 0 by decide, if_neg (by omega), zr_60_9, zr_60_10]
  have hl := m_60_11 (Q := Q) hc hb hi h8 8 0 (by omega) (by omega)
  rw [zpt_0] at hl
  rw [hl]
  rw [zr_60_52, zr_60_53 (rk_194 hc), rp_97 hc, zr_60_56, zr_60_57, zr_60_58 (rs_219 hc (by omega) (by omega)), rsa (h := 219) (j := b) (by decide) (by decide) (by omega) (by omega), zr_60_59, zr_60_60, zr_60_61, zr_60_62 (by exact Nat.le_of_ble_eq_true rfl) (rk_194 hc), zr_58_0, zr_58_1 (rk_194 hc), rp_94 hc, zr_58_4, zr_58_5, zr_58_6 (rs_216 hc (by omega) (by omega)), rsa (h := 216) (j := b) (by decide) (by decide) (by omega) (by omega), zr_58_7, zr_58_8 (rk_194 hc), rp_96 hc, zr_58_11, zr_58_12, zr_58_13 (rs_218 hc (by omega) (by omega)), rsa (h := 218) (j := b) (by decide) (by decide) (by omega) (by omega), zr_58_14, Option.toList_none, List.nil_append, zr_60_65, zr_60_109]
theorem m_60_ask {c : zW} {s : zSt} {Q : Option zV → zW → Prop} (hc : zKR c) {b : Int} (hb : 0 ≤ b ∧ b ≤ 1) (h6 : s 216 b = 1) {t : zSt} (hgo : ∀ Q, zR 61 0 [some (.inr (some 194)), some (.inl b), none, none] [] (zmk c s) Q = Q none (zmk c t)) : zR 60 0 [some (.inr (some 194)), some (.inl b), none] [] (zmk c s) Q = Q none (zmk c t) := by
  rw [zr_60_0, zr_60_1 (rk_194 hc), rp_94 hc, zr_60_4, zr_60_5 (ri_216 hc (by omega) (by omega)), ra (h := 216) (j := b) (by decide) (by decide) (by omega) (by omega), h6, zr_60_6, show zN 1 = 1 by decide, if_pos (by omega), zr_60_68, zr_60_69 (rk_194 hc), rp_94 hc, zr_60_72, zr_60_73 (ri_216 hc (by omega) (by omega)), ra (h := 216) (j := b) (by decide) (by decide) (by omega) (by omega), h6, zr_60_74, zr_60_75, show zN 1 = 1 by decide, if_neg (by omega), zr_60_78, zr_60_79, zr_60_80 (by exact Nat.le_of_ble_eq_true rfl) (rk_194 hc), hgo, Option.toList_none, List.nil_append, zr_60_83, zr_60_109]
theorem m_60_give {c : zW} {s : zSt} {Q : Option zV → zW → Prop} (hc : zKR c) {b : Int} (hb : 0 ≤ b ∧ b ≤ 1) (h6 : s 216 b = 2) {t : zSt} (hgo : ∀ Q, zR 62 0 [some (.inr (some 194)), some (.inl b), none] [] (zmk c s) Q = Q none (zmk c t)) : zR 60 0 [some (.inr (some 194)), some (.inl b), none] [] (zmk c s) Q = Q none (zmk c t) := by
  rw [zr_60_0, zr_60_1 (rk_194 hc), rp_94 hc, zr_60_4, zr_60_5 (ri_216 hc (by omega) (by omega)), ra (h := 216) (j := b) (by decide) (by decide) (by omega) (by omega), h6, zr_60_6, show zN 2 = 2 by decide, if_pos (by omega), zr_60_68, zr_60_69 (rk_194 hc), rp_94 hc, zr_60_72, zr_60_73 (ri_216 hc (by omega) (by omega)), ra (h := 216) (j := b) (by decide) (by decide) (by omega) (by omega), h6, zr_60_74, zr_60_75, show zN 2 = 2 by decide, show zN 1 = 1 by decide, if_pos (by omega), zr_60_86, zr_60_87 (rk_194 hc), rp_94 hc, zr_60_90, zr_60_91 (ri_216 hc (by omega) (by omega)), ra (h := 216) (j := b) (by decide) (by decide) (by omega) (by omega), h6, zr_60_92, zr_60_93, show zN 2 = 2 by decide, if_neg (by omega), zr_60_96, zr_60_97, zr_60_98 (by exact Nat.le_of_ble_eq_true rfl) (rk_194 hc), hgo, Option.toList_none, List.nil_append, zr_60_101, zr_60_109]
theorem m_60_set {c : zW} {s : zSt} {Q : Option zV → zW → Prop} (hc : zKR c) {b : Int} (hb : 0 ≤ b ∧ b ≤ 1) (h6 : s 216 b = 3) {t : zSt} (hgo : ∀ Q, zR 63 0 [some (.inr (some 194)), some (.inl b), none, none] [] (zmk c s) Q = Q none (zmk c t)) : zR 60 0 [some (.inr (some 194)), some (.inl b), none] [] (zmk c s) Q = Q none (zmk c t) := by
  rw [zr_60_0, zr_60_1 (rk_194 hc), rp_94 hc, zr_60_4, zr_60_5 (ri_216 hc (by omega) (by omega)), ra (h := 216) (j := b) (by decide) (by decide) (by omega) (by omega), h6, zr_60_6, show zN 3 = 3 by decide, if_pos (by omega), zr_60_68, zr_60_69 (rk_194 hc), rp_94 hc, zr_60_72, zr_60_73 (ri_216 hc (by omega) (by omega)), ra (h := 216) (j := b) (by decide) (by decide) (by omega) (by omega), h6, zr_60_74, zr_60_75, show zN 3 = 3 by decide, show zN 1 = 1 by decide, if_pos (by omega), zr_60_86, zr_60_87 (rk_194 hc), rp_94 hc, zr_60_90, zr_60_91 (ri_216 hc (by omega) (by omega)), ra (h := 216) (j := b) (by decide) (by decide) (by omega) (by omega), h6, zr_60_92, zr_60_93, show zN 3 = 3 by decide, show zN 2 = 2 by decide, if_pos (by omega), zr_60_104, zr_60_105, zr_60_106 (by exact Nat.le_of_ble_eq_true rfl) (rk_194 hc), hgo, Option.toList_none, List.nil_append, zr_60_109]
theorem m_57_3 {c : zW} {s : zSt} {Q : Option zV → zW → Prop} (hc : zKR c) {b : Int} (hb : 0 ≤ b ∧ b ≤ 1) : zR 57 0 [some (.inr (some 194)), some (.inl b), some (.inl 3), none] [] (zmk c s) Q = Q none (zmk c (zv (zv s 215 b 3) 218 b 0)) := by
  rw [zr_57_0, zr_57_1 (rk_194 hc), rp_93 hc, zr_57_4, zr_57_5, zr_57_6 (rs_215 hc (by omega) (by omega)), rsa (h := 215) (j := b) (by decide) (by decide) (by omega) (by omega), zr_57_7, zr_57_8 (rk_194 hc), rp_96 hc, zr_57_11, zr_57_12, zr_57_13 (rs_218 hc (by omega) (by omega)), rsa (h := 218) (j := b) (by decide) (by decide) (by omega) (by omega), zr_57_14, zr_57_15, zr_57_16, show zN 3 = 3 by decide, show zN 2 = 2 by decide, if_pos (by omega), zr_57_73]
theorem m_57_2b {c : zW} {s : zSt} {Q : Option zV → zW → Prop} (hc : zKR c) {b : Int} (hb : b = 1) : zR 57 0 [some (.inr (some 194)), some (.inl b), some (.inl 2), none] [] (zmk c s) Q = Q none (zmk c (zv (zv s 215 b 2) 218 b 0)) := by
  rw [zr_57_0, zr_57_1 (rk_194 hc), rp_93 hc, zr_57_4, zr_57_5, zr_57_6 (rs_215 hc (by omega) (by omega)), rsa (h := 215) (j := b) (by decide) (by decide) (by omega) (by omega), zr_57_7, zr_57_8 (rk_194 hc), rp_96 hc, zr_57_11, zr_57_12, zr_57_13 (rs_218 hc (by omega) (by omega)), rsa (h := 218) (j := b) (by decide) (by decide) (by omega) (by omega), zr_57_14, zr_57_15, zr_57_16, show zN 2 = 2 by decide, if_neg (by omega), zr_57_19, zr_57_20, zN_of (x := b) (by omega) (by omega), if_pos (by omega), zr_57_73]
theorem m_57_30 {c : zW} {s : zSt} {Q : Option zV → zW → Prop} (hc : zKR c) {n : Nat} (h9 : s 219 0 = (n : Int)) (hn : n ≤ 16) (h2 : ∀ x : Int, 0 ≤ x → x < 16 → 0 ≤ s 220 x ∧ s 220 x ≤ 65535) : ∀ (jj k : Nat), k + jj = n → zR 57 30 [some (.inr (some 194)), some (.inl 0), some (.inl 2), some (.inl (k : Int))] [] (zmk c (zv s 100 0 (zgb s k))) Q = Q none (zmk c (zv s 100 0 (zgb s n))) := by
  intro jj
  induction jj with
  | zero =>
    intro k hk
    have : n = k := by omega
    subst this
    rw [zr_57_30, zr_57_31, zr_57_32 (rk_194 hc), rp_97 hc, zr_57_35, zr_57_36 (ri_219 hc (by omega) (by omega)), ra (h := 219) (j := 0) (by decide) (by decide) (by omega) (by omega), zv_ne (by decide), h9, zr_57_37, zN_of (x := (n : Int)) (by omega) (by omega), if_pos (by omega), zr_57_73]
  | succ jj ih =>
    intro k hk
    have hx := h2 (k : Int) (by omega) (by omega)
    have hn2 := ih (k + 1) (by omega)
    rw [zgb] at hn2
    by_cases q : s 220 (k : Int) = 1000
    · rw [if_pos q] at hn2
      rw [zr_57_30, zr_57_31, zr_57_32 (rk_194 hc), rp_97 hc, zr_57_35, zr_57_36 (ri_219 hc (by omega) (by omega)), ra (h := 219) (j := 0) (by decide) (by decide) (by omega) (by omega), zv_ne (by decide), h9, zr_57_37, zN_of (x := (k : Int)) (by omega) (by omega), zN_of (x := (n : Int)) (by omega) (by omega), if_neg (by omega), zr_57_40, zr_57_41, zr_57_42 (rk_194 hc), rp_98 hc, zr_57_45, zr_57_46 (ri_220 hc (by omega) (by omega)), ra (h := 220) (j := (k : Int)) (by decide) (by decide) (by omega) (by omega), zv_ne (by decide), zr_57_47, zr_57_50, zN_of (x := s 220 (k : Int)) (by omega) (by omega), show zN 1000 = 1000 by decide, if_neg (by omega), zr_57_53, zr_57_55, zr_57_56, zr_57_57, zr_57_64 (rk_194 hc), v_sf (f := 100) (by decide), zr_57_67, zr_57_70]
      rw [zv_zv]
      exact hn2
    · rw [if_neg q] at hn2
      rw [zr_57_30, zr_57_31, zr_57_32 (rk_194 hc), rp_97 hc, zr_57_35, zr_57_36 (ri_219 hc (by omega) (by omega)), ra (h := 219) (j := 0) (by decide) (by decide) (by omega) (by omega), zv_ne (by decide), h9, zr_57_37, zN_of (x := (k : Int)) (by omega) (by omega), zN_of (x := (n : Int)) (by omega) (by omega), if_neg (by omega), zr_57_40, zr_57_41, zr_57_42 (rk_194 hc), rp_98 hc, zr_57_45, zr_57_46 (ri_220 hc (by omega) (by omega)), ra (h := 220) (j := (k : Int)) (by decide) (by decide) (by omega) (by omega), zv_ne (by decide), zr_57_47, zr_57_50, zN_of (x := s 220 (k : Int)) (by omega) (by omega), show zN 1000 = 1000 by decide, if_pos (by omega), zr_57_60, zr_57_61 (rk_194 hc), v_f (f := 100) (by decide), zr_57_64 (rk_194 hc), v_sf (f := 100) (by decide), zr_57_67, zr_57_70]
      rw [zv_zv]
      exact hn2
theorem m_57_2a {c : zW} {s : zSt} {Q : Option zV → zW → Prop} (hc : zKR c) {n : Nat} (h9 : s 219 0 = (n : Int)) (hn : n ≤ 16) (h2 : ∀ x : Int, 0 ≤ x → x < 16 → 0 ≤ s 220 x ∧ s 220 x ≤ 65535) : zR 57 0 [some (.inr (some 194)), some (.inl 0), some (.inl 2), none] [] (zmk c s) Q = Q none (zmk c (zv (zv (zv s 215 0 2) 218 0 0) 100 0 (zgb s n))) := by
  rw [zr_57_0, zr_57_1 (rk_194 hc), rp_93 hc, zr_57_4, zr_57_5, zr_57_6 (rs_215 hc (by omega) (by omega)), rsa (h := 215) (j := 0) (by decide) (by decide) (by omega) (by omega), zr_57_7, zr_57_8 (rk_194 hc), rp_96 hc, zr_57_11, zr_57_12, zr_57_13 (rs_218 hc (by omega) (by omega)), rsa (h := 218) (j := 0) (by decide) (by decide) (by omega) (by omega), zr_57_14, zr_57_15, zr_57_16, show zN 2 = 2 by decide, if_neg (by omega), zr_57_19, zr_57_20, show zN 0 = 0 by decide, if_neg (by omega), zr_57_23, zr_57_24, zr_57_25 (rk_194 hc), v_sf (f := 100) (by decide), zr_57_28, zr_57_29]
  have h := m_57_30 (Q := Q) (s := zv (zv s 215 0 2) 218 0 0) hc (n := n) (by rw [zv_ne (by decide), zv_ne (by decide)]; exact h9) hn (fun x x1 x2 => by rw [zv_ne (by decide), zv_ne (by decide)]; exact h2 x x1 x2) n 0 (by omega)
  rw [zgb_df (s := s) (fun x => by rw [zv_ne (by decide), zv_ne (by decide)]) n] at h
  exact h
theorem m_59_y {c : zW} {s : zSt} {Q : Option zV → zW → Prop} (hc : zKR c) {b : Int} (hb : 0 ≤ b ∧ b ≤ 1) {t : zSt} (hgo : ∀ Q, zR 51 0 [some (.inr (some 194)), some (.inl b), none] [] (zmk c s) Q = Q (some (.inl 1)) (zmk c t)) : zR 59 0 [some (.inr (some 194)), some (.inl b)] [] (zmk c s) Q = Q (some (.inl 1)) (zmk c t) := by
  rw [zr_59_0, zr_59_1, zr_59_2 (by exact Nat.le_of_ble_eq_true rfl) (rk_194 hc), hgo, Option.toList_some, List.cons_append, List.nil_append, zr_59_5, show zN 1 = 1 by decide, if_neg (by omega), zr_59_8, zr_59_9 (Or.inr (by decide))]
theorem m_59_n {c : zW} {s : zSt} {Q : Option zV → zW → Prop} (hc : zKR c) {b : Int} (hb : 0 ≤ b ∧ b ≤ 1) {t : zSt} (hgo : ∀ Q, zR 51 0 [some (.inr (some 194)), some (.inl b), none] [] (zmk c s) Q = Q (some (.inl 0)) (zmk c t)) {f : Int} (hf : t 218 b = f) (hf2 : 0 ≤ f ∧ f ≤ 1) : zR 59 0 [some (.inr (some 194)), some (.inl b)] [] (zmk c s) Q = Q (some (.inl 0)) (zmk c (zv t 218 b (f + 1))) := by
  rw [zr_59_0, zr_59_1, zr_59_2 (by exact Nat.le_of_ble_eq_true rfl) (rk_194 hc), hgo, Option.toList_some, List.cons_append, List.nil_append, zr_59_5, show zN 0 = 0 by decide, if_pos (by omega), zr_59_10, zr_59_11 (rk_194 hc), rp_96 hc, zr_59_14, zr_59_15, zr_59_16 (ri_218 hc (by omega) (by omega)), ra (h := 218) (j := b) (by decide) (by decide) (by omega) (by omega), hf, zr_59_17, zr_59_18, zr_59_19 (rs_218 hc (by omega) (by omega)), rsa (h := 218) (j := b) (by decide) (by decide) (by omega) (by omega), zr_59_20, zr_59_21 (rk_194 hc), rp_96 hc, zr_59_24, zr_59_25 (ri_218 hc (by omega) (by omega)), ra (h := 218) (j := b) (by decide) (by decide) (by omega) (by omega), zv_eq, zr_59_26, zr_59_27, zN_of (x := (f + 1)) (by omega) (by omega), show zN 3 = 3 by decide, if_pos (by omega), zr_59_36, zr_59_37 (Or.inl (by decide))]
theorem m_59_f {c : zW} {s : zSt} {Q : Option zV → zW → Prop} (hc : zKR c) {b : Int} (hb : 0 ≤ b ∧ b ≤ 1) {t : zSt} (hgo : ∀ Q, zR 51 0 [some (.inr (some 194)), some (.inl b), none] [] (zmk c s) Q = Q (some (.inl 0)) (zmk c t)) {f : Int} (hf : t 218 b = f) (hf2 : f = 2) : zR 59 0 [some (.inr (some 194)), some (.inl b)] [] (zmk c s) Q = Q (some (.inl 0)) (zmk c (zv (zv (zv t 218 b (f + 1)) 215 b 3) 218 b 0)) := by
  rw [zr_59_0, zr_59_1, zr_59_2 (by exact Nat.le_of_ble_eq_true rfl) (rk_194 hc), hgo, Option.toList_some, List.cons_append, List.nil_append, zr_59_5, show zN 0 = 0 by decide, if_pos (by omega), zr_59_10, zr_59_11 (rk_194 hc), rp_96 hc, zr_59_14, zr_59_15, zr_59_16 (ri_218 hc (by omega) (by omega)), ra (h := 218) (j := b) (by decide) (by decide) (by omega) (by omega), hf, zr_59_17, zr_59_18, zr_59_19 (rs_218 hc (by omega) (by omega)), rsa (h := 218) (j := b) (by decide) (by decide) (by omega) (by omega), zr_59_20, zr_59_21 (rk_194 hc), rp_96 hc, zr_59_24, zr_59_25 (ri_218 hc (by omega) (by omega)), ra (h := 218) (j := b) (by decide) (by decide) (by omega) (by omega), zv_eq, zr_59_26, zr_59_27, zN_of (x := (f + 1)) (by omega) (by omega), show zN 3 = 3 by decide, if_neg (by omega), zr_59_30, zr_59_31, zr_59_32, zr_59_33 (by exact Nat.le_of_ble_eq_true rfl) (rk_194 hc), m_57_3 hc hb, Option.toList_none, List.nil_append, zr_59_36, zr_59_37 (Or.inl (by decide))]
def zrw2 (x y : Int) (j : Int) : Int := if j = 0 then x else if j = 1 then y else zcrc (fun i => if i = 0 then x else y) 2
def zrw3 (x y z : Int) (j : Int) : Int := if j = 0 then x else if j = 1 then y else if j = 2 then z else zcrc (fun i => if i = 0 then x else if i = 1 then y else z) 3
theorem zrw2_c {x y : Int} : zrw2 x y ((2 : Nat) : Int) = zcrc (zrw2 x y) 2 := by
  rw [show zrw2 x y ((2 : Nat) : Int) = zcrc (fun i => if i = 0 then x else y) 2 from (if_neg (by omega)).trans (if_neg (by omega))]
  refine zcrc_eq 2 (fun i h1 h2 => ?_)
  show (if i = 0 then x else y) = zrw2 x y i
  unfold zrw2
  by_cases q : i = 0
  · rw [if_pos q, if_pos q]
  · rw [if_neg q, if_neg q, if_pos (by omega)]
theorem zrw3_c {x y z : Int} : zrw3 x y z ((3 : Nat) : Int) = zcrc (zrw3 x y z) 3 := by
  rw [show zrw3 x y z ((3 : Nat) : Int) = zcrc (fun i => if i = 0 then x else if i = 1 then y else z) 3 from (if_neg (by omega)).trans ((if_neg (by omega)).trans (if_neg (by omega)))]
  refine zcrc_eq 3 (fun i h1 h2 => ?_)
  show (if i = 0 then x else if i = 1 then y else z) = zrw3 x y z i
  unfold zrw3
  by_cases q : i = 0
  · rw [if_pos q, if_pos q]
  · by_cases q2 : i = 1
    · rw [if_neg q, if_neg q, if_pos q2, if_pos q2]
    · rw [if_neg q, if_neg q, if_neg q2, if_neg q2, if_pos (by omega)]
theorem m_61_5_y {c : zW} {s : zSt} {Q : Option zV → zW → Prop} (hc : zKR c) {b p x : Int} (hb : 0 ≤ b ∧ b ≤ 1) (hp : 0 ≤ p ∧ p ≤ 7) (hbu : -1 ≤ s 195 p ∧ s 195 p ≤ 1) (hid : 0 ≤ s 196 p ∧ s 196 p ≤ 65535) (hx : 0 ≤ x ∧ x ≤ 65536) (hm : zmi s b p) (h8 : s 198 p = 0) (hl : s 196 p < x) : zR 61 5 [some (.inr (some 194)), some (.inl b), some (.inl x), some (.inl p)] [] (zmk c s) Q = zR 61 5 [some (.inr (some 194)), some (.inl b), some (.inl (s 196 p)), some (.inl (p + 1))] [] (zmk c s) Q := by
  rw [zr_61_5, zr_61_6, zr_61_8, zN_of (x := p) (by omega) (by omega), show zN 8 = 8 by decide, if_neg (by omega), zr_61_11, zr_61_12, zr_61_13, zr_61_14 (by exact Nat.le_of_ble_eq_true rfl) (rk_194 hc), m_56_y hc hb hp hbu hm, Option.toList_some, List.cons_append, List.nil_append, zr_61_17, show zN 1 = 1 by decide, if_neg (by omega), zr_61_20, zr_61_21 (rk_194 hc), rp_76 hc, zr_61_24, zr_61_25 (ri_198 hc (by omega) (by omega)), ra (h := 198) (j := p) (by decide) (by decide) (by omega) (by omega), h8, zr_61_26, show zN 0 = 0 by decide, if_neg (by omega), zr_61_29, zr_61_30 (rk_194 hc), rp_74 hc, zr_61_33, zr_61_34 (ri_196 hc (by omega) (by omega)), ra (h := 196) (j := p) (by decide) (by decide) (by omega) (by omega), zr_61_35, zr_61_36, zN_of (x := s 196 p) (by omega) (by omega), zN_of (x := x) (by omega) (by omega), if_neg (by omega), zr_61_39, zr_61_40 (rk_194 hc), rp_74 hc, zr_61_43, zr_61_44 (ri_196 hc (by omega) (by omega)), ra (h := 196) (j := p) (by decide) (by decide) (by omega) (by omega), zr_61_45, zr_61_49, zr_61_50, zr_61_53]
theorem m_61_5_n0 {c : zW} {s : zSt} {Q : Option zV → zW → Prop} (hc : zKR c) {b p x : Int} (hb : 0 ≤ b ∧ b ≤ 1) (hp : 0 ≤ p ∧ p ≤ 7) (hbu : -1 ≤ s 195 p ∧ s 195 p ≤ 1) (hid : 0 ≤ s 196 p ∧ s 196 p ≤ 65535) (hx : 0 ≤ x ∧ x ≤ 65536) (hi : iN s) (hm : ¬ zmi s b p) : zR 61 5 [some (.inr (some 194)), some (.inl b), some (.inl x), some (.inl p)] [] (zmk c s) Q = zR 61 5 [some (.inr (some 194)), some (.inl b), some (.inl x), some (.inl (p + 1))] [] (zmk c s) Q := by
  rw [zr_61_5, zr_61_6, zr_61_8, zN_of (x := p) (by omega) (by omega), show zN 8 = 8 by decide, if_neg (by omega), zr_61_11, zr_61_12, zr_61_13, zr_61_14 (by exact Nat.le_of_ble_eq_true rfl) (rk_194 hc), m_56_n hc hb hp hbu hi hm, Option.toList_some, List.cons_append, List.nil_append, zr_61_17, show zN 0 = 0 by decide, if_pos (by omega), zr_61_48, zr_61_49, zr_61_50, zr_61_53]
theorem m_61_5_n1 {c : zW} {s : zSt} {Q : Option zV → zW → Prop} (hc : zKR c) {b p x : Int} (hb : 0 ≤ b ∧ b ≤ 1) (hp : 0 ≤ p ∧ p ≤ 7) (hbu : -1 ≤ s 195 p ∧ s 195 p ≤ 1) (hid : 0 ≤ s 196 p ∧ s 196 p ≤ 65535) (hx : 0 ≤ x ∧ x ≤ 65536) (hm : zmi s b p) (h8 : s 198 p = 1) : zR 61 5 [some (.inr (some 194)), some (.inl b), some (.inl x), some (.inl p)] [] (zmk c s) Q = zR 61 5 [some (.inr (some 194)), some (.inl b), some (.inl x), some (.inl (p + 1))] [] (zmk c s) Q := by
  rw [zr_61_5, zr_61_6, zr_61_8, zN_of (x := p) (by omega) (by omega), show zN 8 = 8 by decide, if_neg (by omega), zr_61_11, zr_61_12, zr_61_13, zr_61_14 (by exact Nat.le_of_ble_eq_true rfl) (rk_194 hc), m_56_y hc hb hp hbu hm, Option.toList_some, List.cons_append, List.nil_append, zr_61_17, show zN 1 = 1 by decide, if_neg (by omega), zr_61_20, zr_61_21 (rk_194 hc), rp_76 hc, zr_61_24, zr_61_25 (ri_198 hc (by omega) (by omega)), ra (h := 198) (j := p) (by decide) (by decide) (by omega) (by omega), h8, zr_61_26, show zN 1 = 1 by decide, if_pos (by omega), zr_61_48, zr_61_49, zr_61_50, zr_61_53]
theorem m_61_5_n2 {c : zW} {s : zSt} {Q : Option zV → zW → Prop} (hc : zKR c) {b p x : Int} (hb : 0 ≤ b ∧ b ≤ 1) (hp : 0 ≤ p ∧ p ≤ 7) (hbu : -1 ≤ s 195 p ∧ s 195 p ≤ 1) (hid : 0 ≤ s 196 p ∧ s 196 p ≤ 65535) (hx : 0 ≤ x ∧ x ≤ 65536) (hm : zmi s b p) (h8 : s 198 p = 0) (hl : x ≤ s 196 p) : zR 61 5 [some (.inr (some 194)), some (.inl b), some (.inl x), some (.inl p)] [] (zmk c s) Q = zR 61 5 [some (.inr (some 194)), some (.inl b), some (.inl x), some (.inl (p + 1))] [] (zmk c s) Q := by
  rw [zr_61_5, zr_61_6, zr_61_8, zN_of (x := p) (by omega) (by omega), show zN 8 = 8 by decide, if_neg (by omega), zr_61_11, zr_61_12, zr_61_13, zr_61_14 (by exact Nat.le_of_ble_eq_true rfl) (rk_194 hc), m_56_y hc hb hp hbu hm, Option.toList_some, List.cons_append, List.nil_append, zr_61_17, show zN 1 = 1 by decide, if_neg (by omega), zr_61_20, zr_61_21 (rk_194 hc), rp_76 hc, zr_61_24, zr_61_25 (ri_198 hc (by omega) (by omega)), ra (h := 198) (j := p) (by decide) (by decide) (by omega) (by omega), h8, zr_61_26, show zN 0 = 0 by decide, if_neg (by omega), zr_61_29, zr_61_30 (rk_194 hc), rp_74 hc, zr_61_33, zr_61_34 (ri_196 hc (by omega) (by omega)), ra (h := 196) (j := p) (by decide) (by decide) (by omega) (by omega), zr_61_35, zr_61_36, zN_of (x := s 196 p) (by omega) (by omega), zN_of (x := x) (by omega) (by omega), if_pos (by omega), zr_61_48, zr_61_49, zr_61_50, zr_61_53]
theorem m_61_5_e {c : zW} {s : zSt} {Q : Option zV → zW → Prop} {b x : Int} : zR 61 5 [some (.inr (some 194)), some (.inl b), some (.inl x), some (.inl 8)] [] (zmk c s) Q = zR 61 56 [some (.inr (some 194)), some (.inl b), some (.inl x), some (.inl 8)] [] (zmk c s) Q := by
  rw [zr_61_5, zr_61_6, zr_61_8, show zN 8 = 8 by decide, if_pos (by omega)]
def zUn (s : zSt) (b p : Int) : Prop := zmi s b p ∧ s 198 p = 0
def zLeast (s : zSt) (b n x : Int) (none : Int) : Prop := (x = none ∧ ∀ q : Int, 0 ≤ q → q < n → ¬ zUn s b q) ∨ ∃ q : Int, 0 ≤ q ∧ q < n ∧ zUn s b q ∧ x = s 196 q ∧ ∀ r : Int, 0 ≤ r → r < n → zUn s b r → s 196 q ≤ s 196 r
theorem m_61_5 {s : zSt} {b : Int} (hb : 0 ≤ b ∧ b ≤ 1) (hi : iN s) (h6 : ∀ p : Int, 0 ≤ p → p < 8 → 0 ≤ s 196 p ∧ s 196 p ≤ 65535) (h8 : ∀ p : Int, 0 ≤ p → p < 8 → s 198 p = 0 ∨ s 198 p = 1) : ∀ (jj : Nat) (p x : Int), p + (jj : Int) = 8 → 0 ≤ p → zLeast s b p x 65536 → ∃ y, zLeast s b 8 y 65536 ∧ ∀ c Q, zKR c → zR 61 5 [some (.inr (some 194)), some (.inl b), some (.inl x), some (.inl p)] [] (zmk c s) Q = zR 61 56 [some (.inr (some 194)), some (.inl b), some (.inl y), some (.inl 8)] [] (zmk c s) Q := by
  intro jj
  induction jj with
  | zero =>
    intro p x hp p0 hl
    have : p = 8 := by omega
    subst this
    exact ⟨x, hl, fun _ _ _ => m_61_5_e⟩
  | succ jj ih =>
    intro p x hp p0 hl
    have hx : 0 ≤ x ∧ x ≤ 65536 := by
      rcases hl with ⟨q, -⟩ | ⟨q, q1, q2, q3, q4, -⟩
      · omega
      · have := h6 q q1 (by omega)
        omega
    have r6 := h6 p p0 (by omega)
    have rb := hi.2.2.2 p p0 (by omega)
    by_cases hu : zUn s b p
    · by_cases hc : s 196 p < x
      · obtain ⟨y, a1, a2⟩ := ih (p + 1) (s 196 p) (by omega) (by omega) (Or.inr ⟨p, p0, by omega, hu, rfl, fun r r1 r2 r3 => by
          by_cases e : r = p
          · rw [e]
            omega
          · rcases hl with ⟨q, q1⟩ | ⟨q, q1, q2, q3, q4, q5⟩
            · exact absurd r3 (q1 r r1 (by omega))
            · have := q5 r r1 (by omega) r3
              omega⟩)
        exact ⟨y, a1, fun c Q hk => (m_61_5_y hk hb (by omega) rb r6 hx hu.1 hu.2 hc).trans (a2 c Q hk)⟩
      · obtain ⟨y, a1, a2⟩ := ih (p + 1) x (by omega) (by omega) (by
          rcases hl with ⟨q, q1⟩ | ⟨q, q1, q2, q3, q4, q5⟩
          · omega
          · exact Or.inr ⟨q, q1, by omega, q3, q4, fun r r1 r2 r3 => by
              by_cases e : r = p
              · rw [e]
                omega
              · exact q5 r r1 (by omega) r3⟩)
        exact ⟨y, a1, fun c Q hk => (m_61_5_n2 hk hb (by omega) rb r6 hx hu.1 hu.2 (by omega)).trans (a2 c Q hk)⟩
    · obtain ⟨y, a1, a2⟩ := ih (p + 1) x (by omega) (by omega) (by
        rcases hl with ⟨q, q1⟩ | ⟨q, q1, q2, q3, q4, q5⟩
        · exact Or.inl ⟨q, fun r r1 r2 => by
            by_cases e : r = p
            · rw [e]
              exact hu
            · exact q1 r r1 (by omega)⟩
        · exact Or.inr ⟨q, q1, by omega, q3, q4, fun r r1 r2 r3 => by
            by_cases e : r = p
            · rw [e] at r3
              exact absurd r3 hu
            · exact q5 r r1 (by omega) r3⟩)
      refine ⟨y, a1, fun c Q hk => Eq.trans ?_ (a2 c Q hk)⟩
      by_cases hm : zmi s b p
      · exact m_61_5_n1 hk hb (by omega) rb r6 hx hm (by rcases h8 p p0 (by omega) with q | q; exact absurd ⟨hm, q⟩ hu; exact q)
      · exact m_61_5_n0 hk hb (by omega) rb r6 hx hi hm
theorem m_61_0 {s : zSt} {b : Int} (hb : 0 ≤ b ∧ b ≤ 1) (hi : iN s) (h6 : ∀ p : Int, 0 ≤ p → p < 8 → 0 ≤ s 196 p ∧ s 196 p ≤ 65535) (h8 : ∀ p : Int, 0 ≤ p → p < 8 → s 198 p = 0 ∨ s 198 p = 1) : ∃ y, zLeast s b 8 y 65536 ∧ ∀ c Q, zKR c → zR 61 0 [some (.inr (some 194)), some (.inl b), none, none] [] (zmk c s) Q = zR 61 56 [some (.inr (some 194)), some (.inl b), some (.inl y), some (.inl 8)] [] (zmk c s) Q := by
  obtain ⟨y, a1, a2⟩ := m_61_5 hb hi h6 h8 8 0 65536 (by omega) (by omega) (Or.inl ⟨rfl, fun q q1 q2 => by omega⟩)
  refine ⟨y, a1, fun c Q hc => ?_⟩
  rw [zr_61_0, zr_61_2, zr_61_3, zr_61_4]
  exact a2 c Q hc
theorem m_61_done {c : zW} {s : zSt} {Q : Option zV → zW → Prop} (hc : zKR c) {b : Int} (hb : 0 ≤ b ∧ b ≤ 1) (h9 : s 219 b = 0) {t : zSt} (hov : ∀ Q, zR 57 0 [some (.inr (some 194)), some (.inl b), some (.inl 2), none] [] (zmk c s) Q = Q none (zmk c t)) : zR 61 56 [some (.inr (some 194)), some (.inl b), some (.inl 65536), some (.inl 8)] [] (zmk c s) Q = Q none (zmk c t) := by
  rw [zr_61_56, zr_61_57, zr_61_59, show zN 65536 = 65536 by decide, if_neg (by omega), zr_61_62, zr_61_63 (rk_194 hc), rp_97 hc, zr_61_66, zr_61_67 (ri_219 hc (by omega) (by omega)), ra (h := 219) (j := b) (by decide) (by decide) (by omega) (by omega), h9, zr_61_68, show zN 0 = 0 by decide, if_neg (by omega), zr_61_71, zr_61_72, zr_61_73, zr_61_74 (by exact Nat.le_of_ble_eq_true rfl) (rk_194 hc), hov, Option.toList_none, List.nil_append, zr_61_77, zr_61_169]
theorem m_61_set {c : zW} {s : zSt} {Q : Option zV → zW → Prop} (hc : zKR c) {b : Int} (hb : 0 ≤ b ∧ b ≤ 1) {a : Int} (h9 : s 219 b = a) (ha : 0 < a ∧ a ≤ 16) {t : zSt} (hse : ∀ Q, zR 63 0 [some (.inr (some 194)), some (.inl b), none, none] [] (zmk c (zv (zv (zv s 216 b 3) 218 b 0) 217 b 0)) Q = Q none (zmk c t)) : zR 61 56 [some (.inr (some 194)), some (.inl b), some (.inl 65536), some (.inl 8)] [] (zmk c s) Q = Q none (zmk c t) := by
  rw [zr_61_56, zr_61_57, zr_61_59, show zN 65536 = 65536 by decide, if_neg (by omega), zr_61_62, zr_61_63 (rk_194 hc), rp_97 hc, zr_61_66, zr_61_67 (ri_219 hc (by omega) (by omega)), ra (h := 219) (j := b) (by decide) (by decide) (by omega) (by omega), h9, zr_61_68, zN_of (x := a) (by omega) (by omega), if_pos (by omega), zr_61_80, zr_61_81, zr_61_82, zr_61_83 (by exact Nat.le_of_ble_eq_true rfl) (rk_194 hc), zr_58_0, zr_58_1 (rk_194 hc), rp_94 hc, zr_58_4, zr_58_5, zr_58_6 (rs_216 hc (by omega) (by omega)), rsa (h := 216) (j := b) (by decide) (by decide) (by omega) (by omega), zr_58_7, zr_58_8 (rk_194 hc), rp_96 hc, zr_58_11, zr_58_12, zr_58_13 (rs_218 hc (by omega) (by omega)), rsa (h := 218) (j := b) (by decide) (by decide) (by omega) (by omega), zr_58_14, Option.toList_none, List.nil_append, zr_61_86, zr_61_87 (rk_194 hc), rp_95 hc, zr_61_90, zr_61_91, zr_61_92 (rs_217 hc (by omega) (by omega)), rsa (h := 217) (j := b) (by decide) (by decide) (by omega) (by omega), zr_61_93, zr_61_94, zr_61_95 (by exact Nat.le_of_ble_eq_true rfl) (rk_194 hc), hse, Option.toList_none, List.nil_append, zr_61_98, zr_61_169]
theorem m_61_full {c : zW} {s : zSt} {Q : Option zV → zW → Prop} (hc : zKR c) {b : Int} (hb : 0 ≤ b ∧ b ≤ 1) {x : Int} (hx : 0 ≤ x ∧ x ≤ 65535) (h9 : s 219 b = 16) : zR 61 56 [some (.inr (some 194)), some (.inl b), some (.inl x), some (.inl 8)] [] (zmk c s) Q = Q none (zmk c (zv (zv s 215 b 3) 218 b 0)) := by
  rw [zr_61_56, zr_61_57, zr_61_59, zN_of (x := x) (by omega) (by omega), show zN 65536 = 65536 by decide, if_pos (by omega), zr_61_101, zr_61_102 (rk_194 hc), rp_97 hc, zr_61_105, zr_61_106 (ri_219 hc (by omega) (by omega)), ra (h := 219) (j := b) (by decide) (by decide) (by omega) (by omega), h9, zr_61_107, zr_61_109, show zN 16 = 16 by decide, if_neg (by omega), zr_61_112, zr_61_113, zr_61_114, zr_61_115 (by exact Nat.le_of_ble_eq_true rfl) (rk_194 hc), m_57_3 hc hb, Option.toList_none, List.nil_append, zr_61_118, zr_61_169]
theorem m_61_rowy {c : zW} {s : zSt} {Q : Option zV → zW → Prop} (hc : zKR c) {b : Int} (hb : 0 ≤ b ∧ b ≤ 1) {x a : Int} (hx : 0 ≤ x ∧ x ≤ 65535) (h9 : s 219 b = a) (ha : 0 ≤ a ∧ a ≤ 15) {t : zSt} (hfi : ∀ Q, zR 59 0 [some (.inr (some 194)), some (.inl b)] [] (zmk c (zrp s (zrw2 (zo_div x 256) (zo_rem x 256)) 3)) Q = Q (some (.inl 1)) (zmk c t)) : zR 61 56 [some (.inr (some 194)), some (.inl b), some (.inl x), some (.inl 8)] [] (zmk c s) Q = Q none (zmk c (zv (zv (zv t 221 b x) 216 b 2) 218 b 0)) := by
  rw [zr_61_56, zr_61_57, zr_61_59, zN_of (x := x) (by omega) (by omega), show zN 65536 = 65536 by decide, if_pos (by omega), zr_61_101, zr_61_102 (rk_194 hc), rp_97 hc, zr_61_105, zr_61_106 (ri_219 hc (by omega) (by omega)), ra (h := 219) (j := b) (by decide) (by decide) (by omega) (by omega), h9, zr_61_107, zr_61_109, zN_of (x := a) (by omega) (by omega), show zN 16 = 16 by decide, if_pos (by omega), zr_61_121, zr_61_122, zr_61_123 (rk_194 hc), v_sf (f := 104) (by decide), zr_61_126, zr_61_127, zr_61_128, zr_61_131 (by decide), zr_61_132 (by exact Nat.le_of_ble_eq_true rfl) (rk_194 hc), zrp_0 (g := (zrw2 (zo_div x 256) (zo_rem x 256))), m_47 hc (s := (zrp s (zrw2 (zo_div x 256) (zo_rem x 256)) 0)) (by rw [zrp_n]; omega), zput_rp (s := s) (g := (zrw2 (zo_div x 256) (zo_rem x 256))) (j := 0) (by omega) (show _ = zrw2 _ _ 0 from (if_pos rfl).symm), show (0 : Int) + 1 = 1 from rfl, Option.toList_none, List.nil_append, zr_61_135, zr_61_136, zr_61_137, zr_61_140 (by decide), zr_61_141 (by exact Nat.le_of_ble_eq_true rfl) (rk_194 hc), m_47 hc (s := (zrp s (zrw2 (zo_div x 256) (zo_rem x 256)) 1)) (by rw [zrp_n]; omega), zput_rp (s := s) (g := (zrw2 (zo_div x 256) (zo_rem x 256))) (j := 1) (by omega) (show _ = zrw2 _ _ 1 from ((if_neg (by omega)).trans (if_pos rfl)).symm), show (1 : Int) + 1 = 2 from rfl, Option.toList_none, List.nil_append, zr_61_144, zr_61_145 (by exact Nat.le_of_ble_eq_true rfl) (rk_194 hc), show zrp s (zrw2 (zo_div x 256) (zo_rem x 256)) 2 = zrp s (zrw2 (zo_div x 256) (zo_rem x 256)) ((2 : Nat) : Int) from rfl, m_50r hc (s := s) (g := (zrw2 (zo_div x 256) (zo_rem x 256))) (n := 2) (by omega) zrw2_c, show ((2 : Nat) : Int) + 1 = 3 from rfl, Option.toList_none, List.nil_append, zr_61_148, zr_61_149, zr_61_150 (by exact Nat.le_of_ble_eq_true rfl) (rk_194 hc), hfi, Option.toList_some, List.cons_append, List.nil_append, zr_61_153, show zN 1 = 1 by decide, if_neg (by omega), zr_61_156, zr_61_157 (rk_194 hc), rp_99 hc, zr_61_160, zr_61_161, zr_61_162 (rs_221 hc (by omega) (by omega)), rsa (h := 221) (j := b) (by decide) (by decide) (by omega) (by omega), zr_61_163, zr_61_164, zr_61_165, zr_61_166 (by exact Nat.le_of_ble_eq_true rfl) (rk_194 hc), zr_58_0, zr_58_1 (rk_194 hc), rp_94 hc, zr_58_4, zr_58_5, zr_58_6 (rs_216 hc (by omega) (by omega)), rsa (h := 216) (j := b) (by decide) (by decide) (by omega) (by omega), zr_58_7, zr_58_8 (rk_194 hc), rp_96 hc, zr_58_11, zr_58_12, zr_58_13 (rs_218 hc (by omega) (by omega)), rsa (h := 218) (j := b) (by decide) (by decide) (by omega) (by omega), zr_58_14, Option.toList_none, List.nil_append, zr_61_169]
theorem m_61_rown {c : zW} {s : zSt} {Q : Option zV → zW → Prop} (hc : zKR c) {b : Int} (hb : 0 ≤ b ∧ b ≤ 1) {x a : Int} (hx : 0 ≤ x ∧ x ≤ 65535) (h9 : s 219 b = a) (ha : 0 ≤ a ∧ a ≤ 15) {t : zSt} (hfi : ∀ Q, zR 59 0 [some (.inr (some 194)), some (.inl b)] [] (zmk c (zrp s (zrw2 (zo_div x 256) (zo_rem x 256)) 3)) Q = Q (some (.inl 0)) (zmk c t)) : zR 61 56 [some (.inr (some 194)), some (.inl b), some (.inl x), some (.inl 8)] [] (zmk c s) Q = Q none (zmk c t) := by
  rw [zr_61_56, zr_61_57, zr_61_59, zN_of (x := x) (by omega) (by omega), show zN 65536 = 65536 by decide, if_pos (by omega), zr_61_101, zr_61_102 (rk_194 hc), rp_97 hc, zr_61_105, zr_61_106 (ri_219 hc (by omega) (by omega)), ra (h := 219) (j := b) (by decide) (by decide) (by omega) (by omega), h9, zr_61_107, zr_61_109, zN_of (x := a) (by omega) (by omega), show zN 16 = 16 by decide, if_pos (by omega), zr_61_121, zr_61_122, zr_61_123 (rk_194 hc), v_sf (f := 104) (by decide), zr_61_126, zr_61_127, zr_61_128, zr_61_131 (by decide), zr_61_132 (by exact Nat.le_of_ble_eq_true rfl) (rk_194 hc), zrp_0 (g := (zrw2 (zo_div x 256) (zo_rem x 256))), m_47 hc (s := (zrp s (zrw2 (zo_div x 256) (zo_rem x 256)) 0)) (by rw [zrp_n]; omega), zput_rp (s := s) (g := (zrw2 (zo_div x 256) (zo_rem x 256))) (j := 0) (by omega) (show _ = zrw2 _ _ 0 from (if_pos rfl).symm), show (0 : Int) + 1 = 1 from rfl, Option.toList_none, List.nil_append, zr_61_135, zr_61_136, zr_61_137, zr_61_140 (by decide), zr_61_141 (by exact Nat.le_of_ble_eq_true rfl) (rk_194 hc), m_47 hc (s := (zrp s (zrw2 (zo_div x 256) (zo_rem x 256)) 1)) (by rw [zrp_n]; omega), zput_rp (s := s) (g := (zrw2 (zo_div x 256) (zo_rem x 256))) (j := 1) (by omega) (show _ = zrw2 _ _ 1 from ((if_neg (by omega)).trans (if_pos rfl)).symm), show (1 : Int) + 1 = 2 from rfl, Option.toList_none, List.nil_append, zr_61_144, zr_61_145 (by exact Nat.le_of_ble_eq_true rfl) (rk_194 hc), show zrp s (zrw2 (zo_div x 256) (zo_rem x 256)) 2 = zrp s (zrw2 (zo_div x 256) (zo_rem x 256)) ((2 : Nat) : Int) from rfl, m_50r hc (s := s) (g := (zrw2 (zo_div x 256) (zo_rem x 256))) (n := 2) (by omega) zrw2_c, show ((2 : Nat) : Int) + 1 = 3 from rfl, Option.toList_none, List.nil_append, zr_61_148, zr_61_149, zr_61_150 (by exact Nat.le_of_ble_eq_true rfl) (rk_194 hc), hfi, Option.toList_some, List.cons_append, List.nil_append, zr_61_153, show zN 0 = 0 by decide, if_pos (by omega), zr_61_169]
theorem m_62_0n {c : zW} {s : zSt} {Q : Option zV → zW → Prop} (hc : zKR c) {b : Int} (hb : 0 ≤ b ∧ b ≤ 1) {x a : Int} (h1 : s 221 b = x) (h9 : s 219 b = a) {t : zSt} (hfi : ∀ Q, zR 59 0 [some (.inr (some 194)), some (.inl b)] [] (zmk c (zrp s (zrw3 (zo_div x 256) (zo_rem x 256) (16 + a)) 4)) Q = Q (some (.inl 0)) (zmk c t)) : zR 62 0 [some (.inr (some 194)), some (.inl b), none] [] (zmk c s) Q = Q none (zmk c t) := by
  rw [zr_62_0, zr_62_1, zr_62_2 (rk_194 hc), v_sf (f := 104) (by decide), zr_62_5, zr_62_6, zr_62_7 (rk_194 hc), rp_99 hc, zr_62_10, zr_62_11 (ri_221 hc (by omega) (by omega)), ra (h := 221) (j := b) (by decide) (by decide) (by omega) (by omega), zv_ne (a := 104) (b := 221) (by decide), h1, zr_62_12, zr_62_15 (by decide), zr_62_16 (by exact Nat.le_of_ble_eq_true rfl) (rk_194 hc), zrp_0 (g := (zrw3 (zo_div x 256) (zo_rem x 256) (16 + a))), m_47 hc (s := (zrp s (zrw3 (zo_div x 256) (zo_rem x 256) (16 + a)) 0)) (by rw [zrp_n]; omega), zput_rp (s := s) (g := (zrw3 (zo_div x 256) (zo_rem x 256) (16 + a))) (j := 0) (by omega) (show _ = zrw3 _ _ _ 0 from (if_pos rfl).symm), show (0 : Int) + 1 = 1 from rfl, Option.toList_none, List.nil_append, zr_62_19, zr_62_20, zr_62_21 (rk_194 hc), rp_99 hc, zr_62_24, zr_62_25 (ri_221 hc (by omega) (by omega)), ra (h := 221) (j := b) (by decide) (by decide) (by omega) (by omega), zrp_o (by decide) (by decide), h1, zr_62_26, zr_62_29 (by decide), zr_62_30 (by exact Nat.le_of_ble_eq_true rfl) (rk_194 hc), m_47 hc (s := (zrp s (zrw3 (zo_div x 256) (zo_rem x 256) (16 + a)) 1)) (by rw [zrp_n]; omega), zput_rp (s := s) (g := (zrw3 (zo_div x 256) (zo_rem x 256) (16 + a))) (j := 1) (by omega) (show _ = zrw3 _ _ _ 1 from ((if_neg (by omega)).trans (if_pos rfl)).symm), show (1 : Int) + 1 = 2 from rfl, Option.toList_none, List.nil_append, zr_62_33, zr_62_34, zr_62_36, zr_62_37 (rk_194 hc), rp_97 hc, zr_62_40, zr_62_41 (ri_219 hc (by omega) (by omega)), ra (h := 219) (j := b) (by decide) (by decide) (by omega) (by omega), zrp_o (by decide) (by decide), h9, zr_62_42, zr_62_43 (by exact Nat.le_of_ble_eq_true rfl) (rk_194 hc), m_47 hc (s := (zrp s (zrw3 (zo_div x 256) (zo_rem x 256) (16 + a)) 2)) (by rw [zrp_n]; omega), zput_rp (s := s) (g := (zrw3 (zo_div x 256) (zo_rem x 256) (16 + a))) (j := 2) (by omega) (show _ = zrw3 _ _ _ 2 from ((if_neg (by omega)).trans ((if_neg (by omega)).trans (if_pos rfl))).symm), show (2 : Int) + 1 = 3 from rfl, Option.toList_none, List.nil_append, zr_62_46, zr_62_47 (by exact Nat.le_of_ble_eq_true rfl) (rk_194 hc), show zrp s (zrw3 (zo_div x 256) (zo_rem x 256) (16 + a)) 3 = zrp s (zrw3 (zo_div x 256) (zo_rem x 256) (16 + a)) ((3 : Nat) : Int) from rfl, m_50r hc (s := s) (g := (zrw3 (zo_div x 256) (zo_rem x 256) (16 + a))) (n := 3) (by omega) zrw3_c, show ((3 : Nat) : Int) + 1 = 4 from rfl, Option.toList_none, List.nil_append, zr_62_50, zr_62_51, zr_62_52 (by exact Nat.le_of_ble_eq_true rfl) (rk_194 hc), hfi, Option.toList_some, List.cons_append, List.nil_append, zr_62_55, show zN 0 = 0 by decide, if_neg (by omega), zr_62_58]
theorem m_62_0y {c : zW} {s : zSt} {Q : Option zV → zW → Prop} (hc : zKR c) {b : Int} (hb : 0 ≤ b ∧ b ≤ 1) {x a : Int} (h1 : s 221 b = x) (h9 : s 219 b = a) {t : zSt} (hfi : ∀ Q, zR 59 0 [some (.inr (some 194)), some (.inl b)] [] (zmk c (zrp s (zrw3 (zo_div x 256) (zo_rem x 256) (16 + a)) 4)) Q = Q (some (.inl 1)) (zmk c t)) : zR 62 0 [some (.inr (some 194)), some (.inl b), none] [] (zmk c s) Q = zR 62 61 [some (.inr (some 194)), some (.inl b), some (.inl 0)] [] (zmk c t) Q := by
  rw [zr_62_0, zr_62_1, zr_62_2 (rk_194 hc), v_sf (f := 104) (by decide), zr_62_5, zr_62_6, zr_62_7 (rk_194 hc), rp_99 hc, zr_62_10, zr_62_11 (ri_221 hc (by omega) (by omega)), ra (h := 221) (j := b) (by decide) (by decide) (by omega) (by omega), zv_ne (a := 104) (b := 221) (by decide), h1, zr_62_12, zr_62_15 (by decide), zr_62_16 (by exact Nat.le_of_ble_eq_true rfl) (rk_194 hc), zrp_0 (g := (zrw3 (zo_div x 256) (zo_rem x 256) (16 + a))), m_47 hc (s := (zrp s (zrw3 (zo_div x 256) (zo_rem x 256) (16 + a)) 0)) (by rw [zrp_n]; omega), zput_rp (s := s) (g := (zrw3 (zo_div x 256) (zo_rem x 256) (16 + a))) (j := 0) (by omega) (show _ = zrw3 _ _ _ 0 from (if_pos rfl).symm), show (0 : Int) + 1 = 1 from rfl, Option.toList_none, List.nil_append, zr_62_19, zr_62_20, zr_62_21 (rk_194 hc), rp_99 hc, zr_62_24, zr_62_25 (ri_221 hc (by omega) (by omega)), ra (h := 221) (j := b) (by decide) (by decide) (by omega) (by omega), zrp_o (by decide) (by decide), h1, zr_62_26, zr_62_29 (by decide), zr_62_30 (by exact Nat.le_of_ble_eq_true rfl) (rk_194 hc), m_47 hc (s := (zrp s (zrw3 (zo_div x 256) (zo_rem x 256) (16 + a)) 1)) (by rw [zrp_n]; omega), zput_rp (s := s) (g := (zrw3 (zo_div x 256) (zo_rem x 256) (16 + a))) (j := 1) (by omega) (show _ = zrw3 _ _ _ 1 from ((if_neg (by omega)).trans (if_pos rfl)).symm), show (1 : Int) + 1 = 2 from rfl, Option.toList_none, List.nil_append, zr_62_33, zr_62_34, zr_62_36, zr_62_37 (rk_194 hc), rp_97 hc, zr_62_40, zr_62_41 (ri_219 hc (by omega) (by omega)), ra (h := 219) (j := b) (by decide) (by decide) (by omega) (by omega), zrp_o (by decide) (by decide), h9, zr_62_42, zr_62_43 (by exact Nat.le_of_ble_eq_true rfl) (rk_194 hc), m_47 hc (s := (zrp s (zrw3 (zo_div x 256) (zo_rem x 256) (16 + a)) 2)) (by rw [zrp_n]; omega), zput_rp (s := s) (g := (zrw3 (zo_div x 256) (zo_rem x 256) (16 + a))) (j := 2) (by omega) (show _ = zrw3 _ _ _ 2 from ((if_neg (by omega)).trans ((if_neg (by omega)).trans (if_pos rfl))).symm), show (2 : Int) + 1 = 3 from rfl, Option.toList_none, List.nil_append, zr_62_46, zr_62_47 (by exact Nat.le_of_ble_eq_true rfl) (rk_194 hc), show zrp s (zrw3 (zo_div x 256) (zo_rem x 256) (16 + a)) 3 = zrp s (zrw3 (zo_div x 256) (zo_rem x 256) (16 + a)) ((3 : Nat) : Int) from rfl, m_50r hc (s := s) (g := (zrw3 (zo_div x 256) (zo_rem x 256) (16 + a))) (n := 3) (by omega) zrw3_c, show ((3 : Nat) : Int) + 1 = 4 from rfl, Option.toList_none, List.nil_append, zr_62_50, zr_62_51, zr_62_52 (by exact Nat.le_of_ble_eq_true rfl) (rk_194 hc), hfi, Option.toList_some, List.cons_append, List.nil_append, zr_62_55, show zN 1 = 1 by decide, if_pos (by omega), zr_62_59, zr_62_60]
theorem m_62_61_y {c : zW} {s : zSt} {Q : Option zV → zW → Prop} (hc : zKR c) {b p x a : Int} (hb : 0 ≤ b ∧ b ≤ 1) (hp : 0 ≤ p ∧ p ≤ 7) (hbu : -1 ≤ s 195 p ∧ s 195 p ≤ 1) (hid : 0 ≤ s 196 p ∧ s 196 p ≤ 65535) (h1 : s 221 b = x) (hx : 0 ≤ x ∧ x ≤ 65535) (h9 : s 219 b = a) (ha : 0 ≤ a ∧ a ≤ 15) (hm : zmi s b p) (h8 : s 198 p = 0) (hl : s 196 p = x) : zR 62 61 [some (.inr (some 194)), some (.inl b), some (.inl p)] [] (zmk c s) Q = zR 62 61 [some (.inr (some 194)), some (.inl b), some (.inl (p + 1))] [] (zmk c (zv (zv s 197 p (16 + a)) 198 p 1)) Q := by
  rw [zr_62_61, zr_62_62, zr_62_64, zN_of (x := p) (by omega) (by omega), show zN 8 = 8 by decide, if_neg (by omega), zr_62_67, zr_62_68, zr_62_69, zr_62_70 (by exact Nat.le_of_ble_eq_true rfl) (rk_194 hc), m_56_y hc hb hp hbu hm, Option.toList_some, List.cons_append, List.nil_append, zr_62_73, show zN 1 = 1 by decide, if_neg (by omega), zr_62_76, zr_62_77 (rk_194 hc), rp_76 hc, zr_62_80, zr_62_81 (ri_198 hc (by omega) (by omega)), ra (h := 198) (j := p) (by decide) (by decide) (by omega) (by omega), h8, zr_62_82, show zN 0 = 0 by decide, if_neg (by omega), zr_62_85, zr_62_86 (rk_194 hc), rp_74 hc, zr_62_89, zr_62_90 (ri_196 hc (by omega) (by omega)), ra (h := 196) (j := p) (by decide) (by decide) (by omega) (by omega), zr_62_91, zr_62_92 (rk_194 hc), rp_99 hc, zr_62_95, zr_62_96 (ri_221 hc (by omega) (by omega)), ra (h := 221) (j := b) (by decide) (by decide) (by omega) (by omega), h1, zr_62_97, zN_of (x := s 196 p) (by omega) (by omega), zN_of (x := x) (by omega) (by omega), if_neg (by omega), zr_62_100, zr_62_101 (rk_194 hc), rp_75 hc, zr_62_104, zr_62_105, zr_62_107, zr_62_108 (rk_194 hc), rp_97 hc, zr_62_111, zr_62_112 (ri_219 hc (by omega) (by omega)), ra (h := 219) (j := b) (by decide) (by decide) (by omega) (by omega), h9, zr_62_113, zr_62_114 (rs_197 hc (by omega) (by omega)), rsa (h := 197) (j := p) (by decide) (by decide) (by omega) (by omega), zr_62_115, zr_62_116 (rk_194 hc), rp_76 hc, zr_62_119, zr_62_120, zr_62_121 (rs_198 hc (by omega) (by omega) (Or.inr (by decide))), rsa (h := 198) (j := p) (by decide) (by decide) (by omega) (by omega), zr_62_122, zr_62_125]
theorem m_62_61_n0 {c : zW} {s : zSt} {Q : Option zV → zW → Prop} (hc : zKR c) {b p x a : Int} (hb : 0 ≤ b ∧ b ≤ 1) (hp : 0 ≤ p ∧ p ≤ 7) (hbu : -1 ≤ s 195 p ∧ s 195 p ≤ 1) (hid : 0 ≤ s 196 p ∧ s 196 p ≤ 65535) (h1 : s 221 b = x) (hx : 0 ≤ x ∧ x ≤ 65535) (h9 : s 219 b = a) (ha : 0 ≤ a ∧ a ≤ 15) (hi : iN s) (hm : ¬ zmi s b p) : zR 62 61 [some (.inr (some 194)), some (.inl b), some (.inl p)] [] (zmk c s) Q = zR 62 61 [some (.inr (some 194)), some (.inl b), some (.inl (p + 1))] [] (zmk c s) Q := by
  rw [zr_62_61, zr_62_62, zr_62_64, zN_of (x := p) (by omega) (by omega), show zN 8 = 8 by decide, if_neg (by omega), zr_62_67, zr_62_68, zr_62_69, zr_62_70 (by exact Nat.le_of_ble_eq_true rfl) (rk_194 hc), m_56_n hc hb hp hbu hi hm, Option.toList_some, List.cons_append, List.nil_append, zr_62_73, show zN 0 = 0 by decide, if_pos (by omega), zr_62_122, zr_62_125]
theorem m_62_61_n1 {c : zW} {s : zSt} {Q : Option zV → zW → Prop} (hc : zKR c) {b p x a : Int} (hb : 0 ≤ b ∧ b ≤ 1) (hp : 0 ≤ p ∧ p ≤ 7) (hbu : -1 ≤ s 195 p ∧ s 195 p ≤ 1) (hid : 0 ≤ s 196 p ∧ s 196 p ≤ 65535) (h1 : s 221 b = x) (hx : 0 ≤ x ∧ x ≤ 65535) (h9 : s 219 b = a) (ha : 0 ≤ a ∧ a ≤ 15) (hm : zmi s b p) (h8 : s 198 p = 1) : zR 62 61 [some (.inr (some 194)), some (.inl b), some (.inl p)] [] (zmk c s) Q = zR 62 61 [some (.inr (some 194)), some (.inl b), some (.inl (p + 1))] [] (zmk c s) Q := by
  rw [zr_62_61, zr_62_62, zr_62_64, zN_of (x := p) (by omega) (by omega), show zN 8 = 8 by decide, if_neg (by omega), zr_62_67, zr_62_68, zr_62_69, zr_62_70 (by exact Nat.le_of_ble_eq_true rfl) (rk_194 hc), m_56_y hc hb hp hbu hm, Option.toList_some, List.cons_append, List.nil_append, zr_62_73, show zN 1 = 1 by decide, if_neg (by omega), zr_62_76, zr_62_77 (rk_194 hc), rp_76 hc, zr_62_80, zr_62_81 (ri_198 hc (by omega) (by omega)), ra (h := 198) (j := p) (by decide) (by decide) (by omega) (by omega), h8, zr_62_82, show zN 1 = 1 by decide, if_pos (by omega), zr_62_122, zr_62_125]
theorem m_62_61_n2 {c : zW} {s : zSt} {Q : Option zV → zW → Prop} (hc : zKR c) {b p x a : Int} (hb : 0 ≤ b ∧ b ≤ 1) (hp : 0 ≤ p ∧ p ≤ 7) (hbu : -1 ≤ s 195 p ∧ s 195 p ≤ 1) (hid : 0 ≤ s 196 p ∧ s 196 p ≤ 65535) (h1 : s 221 b = x) (hx : 0 ≤ x ∧ x ≤ 65535) (h9 : s 219 b = a) (ha : 0 ≤ a ∧ a ≤ 15) (hm : zmi s b p) (h8 : s 198 p = 0) (hl : s 196 p ≠ x) : zR 62 61 [some (.inr (some 194)), some (.inl b), some (.inl p)] [] (zmk c s) Q = zR 62 61 [some (.inr (some 194)), some (.inl b), some (.inl (p + 1))] [] (zmk c s) Q := by
  rw [zr_62_61, zr_62_62, zr_62_64, zN_of (x := p) (by omega) (by omega), show zN 8 = 8 by decide, if_neg (by omega), zr_62_67, zr_62_68, zr_62_69, zr_62_70 (by exact Nat.le_of_ble_eq_true rfl) (rk_194 hc), m_56_y hc hb hp hbu hm, Option.toList_some, List.cons_append, List.nil_append, zr_62_73, show zN 1 = 1 by decide, if_neg (by omega), zr_62_76, zr_62_77 (rk_194 hc), rp_76 hc, zr_62_80, zr_62_81 (ri_198 hc (by omega) (by omega)), ra (h := 198) (j := p) (by decide) (by decide) (by omega) (by omega), h8, zr_62_82, show zN 0 = 0 by decide, if_neg (by omega), zr_62_85, zr_62_86 (rk_194 hc), rp_74 hc, zr_62_89, zr_62_90 (ri_196 hc (by omega) (by omega)), ra (h := 196) (j := p) (by decide) (by decide) (by omega) (by omega), zr_62_91, zr_62_92 (rk_194 hc), rp_99 hc, zr_62_95, zr_62_96 (ri_221 hc (by omega) (by omega)), ra (h := 221) (j := b) (by decide) (by decide) (by omega) (by omega), h1, zr_62_97, zN_of (x := s 196 p) (by omega) (by omega), zN_of (x := x) (by omega) (by omega), if_pos (by omega), zr_62_122, zr_62_125]
theorem m_62_61_e {c : zW} {s : zSt} {Q : Option zV → zW → Prop} {b : Int} : zR 62 61 [some (.inr (some 194)), some (.inl b), some (.inl 8)] [] (zmk c s) Q = zR 62 128 [some (.inr (some 194)), some (.inl b), some (.inl 8)] [] (zmk c s) Q := by
  rw [zr_62_61, zr_62_62, zr_62_64, show zN 8 = 8 by decide, if_pos (by omega)]
theorem m_62_128 {c : zW} {s : zSt} {Q : Option zV → zW → Prop} (hc : zKR c) {b : Int} (hb : 0 ≤ b ∧ b ≤ 1) {x a : Int} (h1 : s 221 b = x) (h9 : s 219 b = a) (ha : 0 ≤ a ∧ a ≤ 15) : zR 62 128 [some (.inr (some 194)), some (.inl b), some (.inl 8)] [] (zmk c s) Q = Q none (zmk c (zv (zv (zv (zv s 220 (16 * b + a) x) 219 b (a + 1)) 216 b 1) 218 b 0)) := by
  rw [zr_62_128, zr_62_129 (rk_194 hc), rp_98 hc, zr_62_132, zr_62_134, zr_62_135, zr_62_136, zr_62_137 (rk_194 hc), rp_97 hc, zr_62_140, zr_62_141 (ri_219 hc (by omega) (by omega)), ra (h := 219) (j := b) (by decide) (by decide) (by omega) (by omega), h9, zr_62_142, zr_62_143, zr_62_144 (rk_194 hc), rp_99 hc, zr_62_147, zr_62_148 (ri_221 hc (by omega) (by omega)), ra (h := 221) (j := b) (by decide) (by decide) (by omega) (by omega), h1, zr_62_149 (rs_220 hc (by omega) (by omega)), rsa (h := 220) (j := ((16 * b) + a)) (by decide) (by decide) (by omega) (by omega), zr_62_150, zr_62_151 (rk_194 hc), rp_97 hc, zr_62_154, zr_62_155, zr_62_156 (ri_219 hc (by omega) (by omega)), ra (h := 219) (j := b) (by decide) (by decide) (by omega) (by omega), zv_ne (a := 220) (b := 219) (by decide), h9, zr_62_157, zr_62_158, zr_62_159 (rs_219 hc (by omega) (by omega)), rsa (h := 219) (j := b) (by decide) (by decide) (by omega) (by omega), zr_62_160, zr_62_161, zr_62_162, zr_62_163 (by exact Nat.le_of_ble_eq_true rfl) (rk_194 hc), zr_58_0, zr_58_1 (rk_194 hc), rp_94 hc, zr_58_4, zr_58_5, zr_58_6 (rs_216 hc (by omega) (by omega)), rsa (h := 216) (j := b) (by decide) (by decide) (by omega) (by omega), zr_58_7, zr_58_8 (rk_194 hc), rp_96 hc, zr_58_11, zr_58_12, zr_58_13 (rs_218 hc (by omega) (by omega)), rsa (h := 218) (j := b) (by decide) (by decide) (by omega) (by omega), zr_58_14, Option.toList_none, List.nil_append, zr_62_166]
-- who gets the address
def zGv (s : zSt) (b x p : Int) : Prop := zmi s b p ∧ s 198 p = 0 ∧ s 196 p = x
def zu62 (s : zSt) (b x a n : Int) : zSt := fun k p => if (k = 197 ∨ k = 198) ∧ 0 ≤ p ∧ p < n ∧ s 195 p = b ∧ p ≠ 0 ∧ p ≠ 7 ∧ s 198 p = 0 ∧ s 196 p = x then (if k = 197 then 16 + a else 1) else s k p
theorem zu62_o {s : zSt} {b x a n p : Int} {k : Nat} (h1 : k ≠ 197) (h2 : k ≠ 198) : zu62 s b x a n k p = s k p := if_neg (fun q => by omega)
theorem zu62_p {s : zSt} {b x a n p : Int} {k : Nat} (h : n ≤ p) : zu62 s b x a n k p = s k p := if_neg (fun q => by omega)
theorem zu62_y {s : zSt} {b x a n p : Int} (h1 : 0 ≤ p ∧ p < n) (h : zGv s b x p) : zu62 s b x a n 197 p = 16 + a ∧ zu62 s b x a n 198 p = 1 := ⟨(if_pos ⟨Or.inl rfl, h1.1, h1.2, h.1.1, h.1.2.1, h.1.2.2, h.2.1, h.2.2⟩).trans (if_pos rfl), (if_pos ⟨Or.inr rfl, h1.1, h1.2, h.1.1, h.1.2.1, h.1.2.2, h.2.1, h.2.2⟩).trans (if_neg (by decide))⟩
theorem zu62_n {s : zSt} {b x a n p : Int} {k : Nat} (h : ¬ zGv s b x p) : zu62 s b x a n k p = s k p := if_neg (fun q => h ⟨⟨q.2.2.2.1, q.2.2.2.2.1, q.2.2.2.2.2.1⟩, q.2.2.2.2.2.2.1, q.2.2.2.2.2.2.2⟩)
theorem zu62_0 {s : zSt} {b x a : Int} : zu62 s b x a 0 = s := funext fun k => funext fun p => if_neg (fun q => by omega)
theorem zu62_sy {s : zSt} {b x a n : Int} (hn : 0 ≤ n) (h : zGv s b x n) : zv (zv (zu62 s b x a n) 197 n (16 + a)) 198 n 1 = zu62 s b x a (n + 1) := by
  funext k p
  by_cases e : p = n
  · subst e
    by_cases k8 : k = 198
    · rw [k8, zv_eq, (zu62_y ⟨hn, by omega⟩ h).2]
    · rw [zv_ne k8]
      by_cases k7 : k = 197
      · rw [k7, zv_eq, (zu62_y ⟨hn, by omega⟩ h).1]
      · rw [zv_ne k7, zu62_o k7 k8, zu62_o k7 k8]
  · rw [zv_nj e, zv_nj e]
    by_cases g : zGv s b x p
    · by_cases r : 0 ≤ p ∧ p < n
      · by_cases k7 : k = 197
        · rw [k7, (zu62_y r g).1, (zu62_y ⟨r.1, by omega⟩ g).1]
        · by_cases k8 : k = 198
          · rw [k8, (zu62_y r g).2, (zu62_y ⟨r.1, by omega⟩ g).2]
          · rw [zu62_o k7 k8, zu62_o k7 k8]
      · by_cases p0 : 0 ≤ p
        · rw [zu62_p (by omega), zu62_p (by omega)]
        · rw [show zu62 s b x a n k p = s k p from if_neg (fun q => by omega), show zu62 s b x a (n + 1) k p = s k p from if_neg (fun q => by omega)]
    · rw [zu62_n g, zu62_n g]
theorem zu62_sn {s : zSt} {b x a n : Int} (h : ¬ zGv s b x n) : zu62 s b x a n = zu62 s b x a (n + 1) := by
  funext k p
  by_cases g : zGv s b x p
  · have e : p ≠ n := fun q => h (q ▸ g)
    by_cases r : 0 ≤ p ∧ p < n
    · by_cases k7 : k = 197
      · rw [k7, (zu62_y r g).1, (zu62_y ⟨r.1, by omega⟩ g).1]
      · by_cases k8 : k = 198
        · rw [k8, (zu62_y r g).2, (zu62_y ⟨r.1, by omega⟩ g).2]
        · rw [zu62_o k7 k8, zu62_o k7 k8]
    · by_cases p0 : 0 ≤ p
      · rw [zu62_p (by omega), zu62_p (by omega)]
      · rw [show zu62 s b x a n k p = s k p from if_neg (fun q => by omega), show zu62 s b x a (n + 1) k p = s k p from if_neg (fun q => by omega)]
  · rw [zu62_n g, zu62_n g]
theorem iN_eq {s t : zSt} (h : ∀ x, t 195 x = s 195 x) (hi : iN s) : iN t := by
  unfold iN at hi ⊢
  simp only [h]
  exact hi
theorem m_62_61 {c : zW} {s : zSt} {Q : Option zV → zW → Prop} (hc : zKR c) {b : Int} (hb : 0 ≤ b ∧ b ≤ 1) {x a : Int} (h1 : s 221 b = x) (hx : 0 ≤ x ∧ x ≤ 65535) (h9 : s 219 b = a) (ha : 0 ≤ a ∧ a ≤ 15) (hi : iN s) (h6 : ∀ p : Int, 0 ≤ p → p < 8 → 0 ≤ s 196 p ∧ s 196 p ≤ 65535) (h8 : ∀ p : Int, 0 ≤ p → p < 8 → s 198 p = 0 ∨ s 198 p = 1) : ∀ (jj : Nat) (p : Int), p + (jj : Int) = 8 → 0 ≤ p → zR 62 61 [some (.inr (some 194)), some (.inl b), some (.inl p)] [] (zmk c (zu62 s b x a p)) Q = zR 62 128 [some (.inr (some 194)), some (.inl b), some (.inl 8)] [] (zmk c (zu62 s b x a 8)) Q := by
  intro jj
  induction jj with
  | zero =>
    intro p hp p0
    have : p = 8 := by omega
    subst this
    exact m_62_61_e
  | succ jj ih =>
    intro p hp p0
    have e5 : ∀ y, zu62 s b x a p 195 y = s 195 y := fun y => zu62_o (by decide) (by decide)
    have e6 : zu62 s b x a p 196 p = s 196 p := zu62_o (by decide) (by decide)
    have e8 : zu62 s b x a p 198 p = s 198 p := zu62_p (by omega)
    have r5 : -1 ≤ zu62 s b x a p 195 p ∧ zu62 s b x a p 195 p ≤ 1 := by
      rw [e5]
      exact hi.2.2.2 p p0 (by omega)
    have r6 : 0 ≤ zu62 s b x a p 196 p ∧ zu62 s b x a p 196 p ≤ 65535 := by
      rw [e6]
      exact h6 p p0 (by omega)
    have f1 : zu62 s b x a p 221 b = x := (zu62_o (by decide) (by decide)).trans h1
    have f9 : zu62 s b x a p 219 b = a := (zu62_o (by decide) (by decide)).trans h9
    have em : zmi (zu62 s b x a p) b p ↔ zmi s b p := by
      unfold zmi
      rw [e5]
    have hn := ih (p + 1) (by omega) (by omega)
    by_cases g : zGv s b x p
    · rw [← zu62_sy p0 g] at hn
      exact (m_62_61_y hc hb (by omega) r5 r6 f1 hx f9 ha (em.2 g.1) (e8.trans g.2.1) (e6.trans g.2.2)).trans hn
    · rw [← zu62_sn g] at hn
      refine Eq.trans ?_ hn
      by_cases hm : zmi s b p
      · rcases h8 p p0 (by omega) with q | q
        · exact m_62_61_n2 hc hb (by omega) r5 r6 f1 hx f9 ha (em.2 hm) (e8.trans q) (fun z => g ⟨hm, q, e6.symm.trans z⟩)
        · exact m_62_61_n1 hc hb (by omega) r5 r6 f1 hx f9 ha (em.2 hm) (e8.trans q)
      · exact m_62_61_n0 hc hb (by omega) r5 r6 f1 hx f9 ha (iN_eq e5 hi) (fun z => hm (em.1 z))
theorem m_63_0n {c : zW} {s : zSt} {Q : Option zV → zW → Prop} (hc : zKR c) {b : Int} (hb : 0 ≤ b ∧ b ≤ 1) {st fe : Int} (h7 : s 217 b = st) (hfe : (b = 0 ∧ fe = 9) ∨ (b = 1 ∧ fe = 32)) {t : zSt} (hfi : ∀ Q, zR 59 0 [some (.inr (some 194)), some (.inl b)] [] (zmk c (zrp s (zrw2 (16 + st) (fe + st)) 3)) Q = Q (some (.inl 0)) (zmk c t)) : zR 63 0 [some (.inr (some 194)), some (.inl b), none, none] [] (zmk c s) Q = Q none (zmk c t) := by
  rcases hfe with ⟨q1, q2⟩ | ⟨q1, q2⟩
  · subst q2
    rw [zr_63_0, zr_63_1, zN_of (x := b) (by omega) (by omega), if_neg (by omega), zr_63_4, zr_63_6, zr_63_11, zr_63_12 (rk_194 hc), rp_95 hc, zr_63_15, zr_63_16 (ri_217 hc (by omega) (by omega)), ra (h := 217) (j := b) (by decide) (by decide) (by omega) (by omega), h7, zr_63_17, zr_63_18, zr_63_19, zr_63_20, zr_63_21 (rk_194 hc), v_sf (f := 104) (by decide), zr_63_24, zr_63_25, zr_63_27, zr_63_28 (rk_194 hc), rp_95 hc, zr_63_31, zr_63_32 (ri_217 hc (by omega) (by omega)), ra (h := 217) (j := b) (by decide) (by decide) (by omega) (by omega), zv_ne (a := 104) (b := 217) (by decide), h7, zr_63_33, zr_63_34 (by exact Nat.le_of_ble_eq_true rfl) (rk_194 hc), zrp_0 (g := (zrw2 (16 + st) (9 + st))), m_47 hc (s := (zrp s (zrw2 (16 + st) (9 + st)) 0)) (by rw [zrp_n]; omega), zput_rp (s := s) (g := (zrw2 (16 + st) (9 + st))) (j := 0) (by omega) (show _ = zrw2 _ _ 0 from (if_pos rfl).symm), show (0 : Int) + 1 = 1 from rfl, Option.toList_none, List.nil_append, zr_63_37, zr_63_38, zr_63_39 (by exact Nat.le_of_ble_eq_true rfl) (rk_194 hc), m_47 hc (s := (zrp s (zrw2 (16 + st) (9 + st)) 1)) (by rw [zrp_n]; omega), zput_rp (s := s) (g := (zrw2 (16 + st) (9 + st))) (j := 1) (by omega) (show _ = zrw2 _ _ 1 from ((if_neg (by omega)).trans (if_pos rfl)).symm), show (1 : Int) + 1 = 2 from rfl, Option.toList_none, List.nil_append, zr_63_42, zr_63_43 (by exact Nat.le_of_ble_eq_true rfl) (rk_194 hc), show zrp s (zrw2 (16 + st) (9 + st)) 2 = zrp s (zrw2 (16 + st) (9 + st)) ((2 : Nat) : Int) from rfl, m_50r hc (s := s) (g := (zrw2 (16 + st) (9 + st))) (n := 2) (by omega) zrw2_c, show ((2 : Nat) : Int) + 1 = 3 from rfl, Option.toList_none, List.nil_append, zr_63_46, zr_63_47, zr_63_48 (by exact Nat.le_of_ble_eq_true rfl) (rk_194 hc), hfi, Option.toList_some, List.cons_append, List.nil_append, zr_63_51, show zN 0 = 0 by decide, if_neg (by omega), zr_63_54]
  · subst q2
    rw [zr_63_0, zr_63_1, zN_of (x := b) (by omega) (by omega), if_pos (by omega), zr_63_9, zr_63_11, zr_63_12 (rk_194 hc), rp_95 hc, zr_63_15, zr_63_16 (ri_217 hc (by omega) (by omega)), ra (h := 217) (j := b) (by decide) (by decide) (by omega) (by omega), h7, zr_63_17, zr_63_18, zr_63_19, zr_63_20, zr_63_21 (rk_194 hc), v_sf (f := 104) (by decide), zr_63_24, zr_63_25, zr_63_27, zr_63_28 (rk_194 hc), rp_95 hc, zr_63_31, zr_63_32 (ri_217 hc (by omega) (by omega)), ra (h := 217) (j := b) (by decide) (by decide) (by omega) (by omega), zv_ne (a := 104) (b := 217) (by decide), h7, zr_63_33, zr_63_34 (by exact Nat.le_of_ble_eq_true rfl) (rk_194 hc), zrp_0 (g := (zrw2 (16 + st) (32 + st))), m_47 hc (s := (zrp s (zrw2 (16 + st) (32 + st)) 0)) (by rw [zrp_n]; omega), zput_rp (s := s) (g := (zrw2 (16 + st) (32 + st))) (j := 0) (by omega) (show _ = zrw2 _ _ 0 from (if_pos rfl).symm), show (0 : Int) + 1 = 1 from rfl, Option.toList_none, List.nil_append, zr_63_37, zr_63_38, zr_63_39 (by exact Nat.le_of_ble_eq_true rfl) (rk_194 hc), m_47 hc (s := (zrp s (zrw2 (16 + st) (32 + st)) 1)) (by rw [zrp_n]; omega), zput_rp (s := s) (g := (zrw2 (16 + st) (32 + st))) (j := 1) (by omega) (show _ = zrw2 _ _ 1 from ((if_neg (by omega)).trans (if_pos rfl)).symm), show (1 : Int) + 1 = 2 from rfl, Option.toList_none, List.nil_append, zr_63_42, zr_63_43 (by exact Nat.le_of_ble_eq_true rfl) (rk_194 hc), show zrp s (zrw2 (16 + st) (32 + st)) 2 = zrp s (zrw2 (16 + st) (32 + st)) ((2 : Nat) : Int) from rfl, m_50r hc (s := s) (g := (zrw2 (16 + st) (32 + st))) (n := 2) (by omega) zrw2_c, show ((2 : Nat) : Int) + 1 = 3 from rfl, Option.toList_none, List.nil_append, zr_63_46, zr_63_47, zr_63_48 (by exact Nat.le_of_ble_eq_true rfl) (rk_194 hc), hfi, Option.toList_some, List.cons_append, List.nil_append, zr_63_51, show zN 0 = 0 by decide, if_neg (by omega), zr_63_54]
theorem m_63_0y {c : zW} {s : zSt} {Q : Option zV → zW → Prop} (hc : zKR c) {b : Int} (hb : 0 ≤ b ∧ b ≤ 1) {st fe : Int} (h7 : s 217 b = st) (hfe : (b = 0 ∧ fe = 9) ∨ (b = 1 ∧ fe = 32)) {t : zSt} (hfi : ∀ Q, zR 59 0 [some (.inr (some 194)), some (.inl b)] [] (zmk c (zrp s (zrw2 (16 + st) (fe + st)) 3)) Q = Q (some (.inl 1)) (zmk c t)) : zR 63 0 [some (.inr (some 194)), some (.inl b), none, none] [] (zmk c s) Q = zR 63 57 [some (.inr (some 194)), some (.inl b), some (.inl (fe + st)), some (.inl 0)] [] (zmk c t) Q := by
  rcases hfe with ⟨q1, q2⟩ | ⟨q1, q2⟩
  · subst q2
    rw [zr_63_0, zr_63_1, zN_of (x := b) (by omega) (by omega), if_neg (by omega), zr_63_4, zr_63_6, zr_63_11, zr_63_12 (rk_194 hc), rp_95 hc, zr_63_15, zr_63_16 (ri_217 hc (by omega) (by omega)), ra (h := 217) (j := b) (by decide) (by decide) (by omega) (by omega), h7, zr_63_17, zr_63_18, zr_63_19, zr_63_20, zr_63_21 (rk_194 hc), v_sf (f := 104) (by decide), zr_63_24, zr_63_25, zr_63_27, zr_63_28 (rk_194 hc), rp_95 hc, zr_63_31, zr_63_32 (ri_217 hc (by omega) (by omega)), ra (h := 217) (j := b) (by decide) (by decide) (by omega) (by omega), zv_ne (a := 104) (b := 217) (by decide), h7, zr_63_33, zr_63_34 (by exact Nat.le_of_ble_eq_true rfl) (rk_194 hc), zrp_0 (g := (zrw2 (16 + st) (9 + st))), m_47 hc (s := (zrp s (zrw2 (16 + st) (9 + st)) 0)) (by rw [zrp_n]; omega), zput_rp (s := s) (g := (zrw2 (16 + st) (9 + st))) (j := 0) (by omega) (show _ = zrw2 _ _ 0 from (if_pos rfl).symm), show (0 : Int) + 1 = 1 from rfl, Option.toList_none, List.nil_append, zr_63_37, zr_63_38, zr_63_39 (by exact Nat.le_of_ble_eq_true rfl) (rk_194 hc), m_47 hc (s := (zrp s (zrw2 (16 + st) (9 + st)) 1)) (by rw [zrp_n]; omega), zput_rp (s := s) (g := (zrw2 (16 + st) (9 + st))) (j := 1) (by omega) (show _ = zrw2 _ _ 1 from ((if_neg (by omega)).trans (if_pos rfl)).symm), show (1 : Int) + 1 = 2 from rfl, Option.toList_none, List.nil_append, zr_63_42, zr_63_43 (by exact Nat.le_of_ble_eq_true rfl) (rk_194 hc), show zrp s (zrw2 (16 + st) (9 + st)) 2 = zrp s (zrw2 (16 + st) (9 + st)) ((2 : Nat) : Int) from rfl, m_50r hc (s := s) (g := (zrw2 (16 + st) (9 + st))) (n := 2) (by omega) zrw2_c, show ((2 : Nat) : Int) + 1 = 3 from rfl, Option.toList_none, List.nil_append, zr_63_46, zr_63_47, zr_63_48 (by exact Nat.le_of_ble_eq_true rfl) (rk_194 hc), hfi, Option.toList_some, List.cons_append, List.nil_append, zr_63_51, show zN 1 = 1 by decide, if_pos (by omega), zr_63_55, zr_63_56]
  · subst q2
    rw [zr_63_0, zr_63_1, zN_of (x := b) (by omega) (by omega), if_pos (by omega), zr_63_9, zr_63_11, zr_63_12 (rk_194 hc), rp_95 hc, zr_63_15, zr_63_16 (ri_217 hc (by omega) (by omega)), ra (h := 217) (j := b) (by decide) (by decide) (by omega) (by omega), h7, zr_63_17, zr_63_18, zr_63_19, zr_63_20, zr_63_21 (rk_194 hc), v_sf (f := 104) (by decide), zr_63_24, zr_63_25, zr_63_27, zr_63_28 (rk_194 hc), rp_95 hc, zr_63_31, zr_63_32 (ri_217 hc (by omega) (by omega)), ra (h := 217) (j := b) (by decide) (by decide) (by omega) (by omega), zv_ne (a := 104) (b := 217) (by decide), h7, zr_63_33, zr_63_34 (by exact Nat.le_of_ble_eq_true rfl) (rk_194 hc), zrp_0 (g := (zrw2 (16 + st) (32 + st))), m_47 hc (s := (zrp s (zrw2 (16 + st) (32 + st)) 0)) (by rw [zrp_n]; omega), zput_rp (s := s) (g := (zrw2 (16 + st) (32 + st))) (j := 0) (by omega) (show _ = zrw2 _ _ 0 from (if_pos rfl).symm), show (0 : Int) + 1 = 1 from rfl, Option.toList_none, List.nil_append, zr_63_37, zr_63_38, zr_63_39 (by exact Nat.le_of_ble_eq_true rfl) (rk_194 hc), m_47 hc (s := (zrp s (zrw2 (16 + st) (32 + st)) 1)) (by rw [zrp_n]; omega), zput_rp (s := s) (g := (zrw2 (16 + st) (32 + st))) (j := 1) (by omega) (show _ = zrw2 _ _ 1 from ((if_neg (by omega)).trans (if_pos rfl)).symm), show (1 : Int) + 1 = 2 from rfl, Option.toList_none, List.nil_append, zr_63_42, zr_63_43 (by exact Nat.le_of_ble_eq_true rfl) (rk_194 hc), show zrp s (zrw2 (16 + st) (32 + st)) 2 = zrp s (zrw2 (16 + st) (32 + st)) ((2 : Nat) : Int) from rfl, m_50r hc (s := s) (g := (zrw2 (16 + st) (32 + st))) (n := 2) (by omega) zrw2_c, show ((2 : Nat) : Int) + 1 = 3 from rfl, Option.toList_none, List.nil_append, zr_63_46, zr_63_47, zr_63_48 (by exact Nat.le_of_ble_eq_true rfl) (rk_194 hc), hfi, Option.toList_some, List.cons_append, List.nil_append, zr_63_51, show zN 1 = 1 by decide, if_pos (by omega), zr_63_55, zr_63_56]
theorem m_63_57_y {c : zW} {s : zSt} {Q : Option zV → zW → Prop} (hc : zKR c) {b p st e : Int} (hb : 0 ≤ b ∧ b ≤ 1) (hp : 0 ≤ p ∧ p ≤ 7) (hbu : -1 ≤ s 195 p ∧ s 195 p ≤ 1) (had : 0 ≤ s 197 p ∧ s 197 p ≤ 255) (h7 : s 217 b = st) (hst : 0 ≤ st ∧ st ≤ 16) (hm : zmi s b p) (hl : s 197 p = 16 + st) : zR 63 57 [some (.inr (some 194)), some (.inl b), some (.inl e), some (.inl p)] [] (zmk c s) Q = zR 63 57 [some (.inr (some 194)), some (.inl b), some (.inl e), some (.inl (p + 1))] [] (zmk c (zv s 202 p e)) Q := by
  obtain ⟨hm0, hm1, hm7⟩ := id hm
  rw [zr_63_57, zr_63_58, zr_63_60, zN_of (x := p) (by omega) (by omega), show zN 8 = 8 by decide, if_neg (by omega), zr_63_63, zr_63_64, zr_63_65, zr_63_66 (by exact Nat.le_of_ble_eq_true rfl) (rk_194 hc), m_56_y hc hb hp hbu hm, Option.toList_some, List.cons_append, List.nil_append, zr_63_69, show zN 1 = 1 by decide, if_neg (by omega), zr_63_72, zr_63_73 (rk_194 hc), rp_75 hc, zr_63_76, zr_63_77 (ri_197 hc (by omega) (by omega)), ra (h := 197) (j := p) (by decide) (by decide) (by omega) (by omega), zr_63_78, zr_63_80, zr_63_81 (rk_194 hc), rp_95 hc, zr_63_84, zr_63_85 (ri_217 hc (by omega) (by omega)), ra (h := 217) (j := b) (by decide) (by decide) (by omega) (by omega), h7, zr_63_86, zr_63_87, zN_of (x := s 197 p) (by omega) (by omega), zN_of (x := (16 + st)) (by omega) (by omega), if_neg (by omega), zr_63_90, zr_63_91 (rk_194 hc), rp_80 hc, zr_63_94, zr_63_95 (by exact Nat.le_of_ble_eq_true rfl), m_25 (d := p) (Or.inr ⟨hm.2.2, rfl⟩) hp, Option.toList_some, List.cons_append, List.nil_append, zr_63_98, zr_63_99 (rs_202 hc (by omega) (by omega)), rsa (h := 202) (j := p) (by decide) (by decide) (by omega) (by omega), zr_63_100, zr_63_103]
theorem m_63_57_n0 {c : zW} {s : zSt} {Q : Option zV → zW → Prop} (hc : zKR c) {b p st e : Int} (hb : 0 ≤ b ∧ b ≤ 1) (hp : 0 ≤ p ∧ p ≤ 7) (hbu : -1 ≤ s 195 p ∧ s 195 p ≤ 1) (had : 0 ≤ s 197 p ∧ s 197 p ≤ 255) (h7 : s 217 b = st) (hst : 0 ≤ st ∧ st ≤ 16) (hi : iN s) (hm : ¬ zmi s b p) : zR 63 57 [some (.inr (some 194)), some (.inl b), some (.inl e), some (.inl p)] [] (zmk c s) Q = zR 63 57 [some (.inr (some 194)), some (.inl b), some (.inl e), some (.inl (p + 1))] [] (zmk c s) Q := by
  rw [zr_63_57, zr_63_58, zr_63_60, zN_of (x := p) (by omega) (by omega), show zN 8 = 8 by decide, if_neg (by omega), zr_63_63, zr_63_64, zr_63_65, zr_63_66 (by exact Nat.le_of_ble_eq_true rfl) (rk_194 hc), m_56_n hc hb hp hbu hi hm, Option.toList_some, List.cons_append, List.nil_append, zr_63_69, show zN 0 = 0 by decide, if_pos (by omega), zr_63_100, zr_63_103]
theorem m_63_57_n1 {c : zW} {s : zSt} {Q : Option zV → zW → Prop} (hc : zKR c) {b p st e : Int} (hb : 0 ≤ b ∧ b ≤ 1) (hp : 0 ≤ p ∧ p ≤ 7) (hbu : -1 ≤ s 195 p ∧ s 195 p ≤ 1) (had : 0 ≤ s 197 p ∧ s 197 p ≤ 255) (h7 : s 217 b = st) (hst : 0 ≤ st ∧ st ≤ 16) (hm : zmi s b p) (hl : s 197 p ≠ 16 + st) : zR 63 57 [some (.inr (some 194)), some (.inl b), some (.inl e), some (.inl p)] [] (zmk c s) Q = zR 63 57 [some (.inr (some 194)), some (.inl b), some (.inl e), some (.inl (p + 1))] [] (zmk c s) Q := by
  rw [zr_63_57, zr_63_58, zr_63_60, zN_of (x := p) (by omega) (by omega), show zN 8 = 8 by decide, if_neg (by omega), zr_63_63, zr_63_64, zr_63_65, zr_63_66 (by exact Nat.le_of_ble_eq_true rfl) (rk_194 hc), m_56_y hc hb hp hbu hm, Option.toList_some, List.cons_append, List.nil_append, zr_63_69, show zN 1 = 1 by decide, if_neg (by omega), zr_63_72, zr_63_73 (rk_194 hc), rp_75 hc, zr_63_76, zr_63_77 (ri_197 hc (by omega) (by omega)), ra (h := 197) (j := p) (by decide) (by decide) (by omega) (by omega), zr_63_78, zr_63_80, zr_63_81 (rk_194 hc), rp_95 hc, zr_63_84, zr_63_85 (ri_217 hc (by omega) (by omega)), ra (h := 217) (j := b) (by decide) (by decide) (by omega) (by omega), h7, zr_63_86, zr_63_87, zN_of (x := s 197 p) (by omega) (by omega), zN_of (x := (16 + st)) (by omega) (by omega), if_pos (by omega), zr_63_100, zr_63_103]
theorem m_63_57_e {c : zW} {s : zSt} {Q : Option zV → zW → Prop} {b e : Int} : zR 63 57 [some (.inr (some 194)), some (.inl b), some (.inl e), some (.inl 8)] [] (zmk c s) Q = zR 63 106 [some (.inr (some 194)), some (.inl b), some (.inl e), some (.inl 8)] [] (zmk c s) Q := by
  rw [zr_63_57, zr_63_58, zr_63_60, show zN 8 = 8 by decide, if_pos (by omega)]
def zg63 (s : zSt) (b st e x : Int) : Int := if s 195 x = b ∧ x ≠ 0 ∧ x ≠ 7 ∧ s 197 x = 16 + st then e else s 202 x
theorem zpt_sk {s : zSt} {a : Nat} {n : Int} {g : Int → Int} (h : g n = s a n) : zpt s a 0 n g = zpt s a 0 (n + 1) g := by
  funext k p
  by_cases e : k = a ∧ p = n
  · rw [e.1, e.2, zpt_o (by omega)]
    by_cases n0 : 0 ≤ n
    · rw [zpt_i n0 (by omega), h]
    · rw [zpt_o (by omega)]
  · by_cases ka : k = a
    · subst ka
      by_cases r : 0 ≤ p ∧ p < n
      · rw [zpt_i r.1 (by omega), zpt_i r.1 (by omega)]
      · rw [zpt_o (by omega), zpt_o (by omega)]
    · rw [zpt_ne ka, zpt_ne ka]
theorem m_63_57 {c : zW} {s : zSt} {Q : Option zV → zW → Prop} (hc : zKR c) {b : Int} (hb : 0 ≤ b ∧ b ≤ 1) {st e : Int} (h7 : s 217 b = st) (hst : 0 ≤ st ∧ st ≤ 16) (hi : iN s) (had : ∀ p : Int, 0 ≤ p → p < 8 → 0 ≤ s 197 p ∧ s 197 p ≤ 255) : ∀ (jj : Nat) (p : Int), p + (jj : Int) = 8 → 0 ≤ p → zR 63 57 [some (.inr (some 194)), some (.inl b), some (.inl e), some (.inl p)] [] (zmk c (zpt s 202 0 p (zg63 s b st e))) Q = zR 63 106 [some (.inr (some 194)), some (.inl b), some (.inl e), some (.inl 8)] [] (zmk c (zpt s 202 0 8 (zg63 s b st e))) Q := by
  intro jj
  induction jj with
  | zero =>
    intro p hp p0
    have : p = 8 := by omega
    subst this
    exact m_63_57_e
  | succ jj ih =>
    intro p hp p0
    have r5 : -1 ≤ zpt s 202 0 p (zg63 s b st e) 195 p ∧ zpt s 202 0 p (zg63 s b st e) 195 p ≤ 1 := by
      rw [zpt_ne (by decide)]
      exact hi.2.2.2 p p0 (by omega)
    have r7 : 0 ≤ zpt s 202 0 p (zg63 s b st e) 197 p ∧ zpt s 202 0 p (zg63 s b st e) 197 p ≤ 255 := by
      rw [zpt_ne (by decide)]
      exact had p p0 (by omega)
    have f7 : zpt s 202 0 p (zg63 s b st e) 217 b = st := (zpt_ne (by decide)).trans h7
    have hn := ih (p + 1) (by omega) (by omega)
    by_cases hm : zmi s b p
    · by_cases hl : s 197 p = 16 + st
      · have eg : zg63 s b st e p = e := if_pos ⟨hm.1, hm.2.1, hm.2.2, hl⟩
        rw [← zpt_s0 p0, eg] at hn
        exact (m_63_57_y hc hb (by omega) r5 r7 f7 hst ((zmi_zpt (by decide)).2 hm) ((zpt_ne (by decide)).trans hl)).trans hn
      · have eg : zg63 s b st e p = s 202 p := if_neg (fun q => hl q.2.2.2)
        rw [← zpt_sk eg] at hn
        exact (m_63_57_n1 hc hb (by omega) r5 r7 f7 hst ((zmi_zpt (by decide)).2 hm) (by rw [zpt_ne (by decide)]; exact hl)).trans hn
    · have eg : zg63 s b st e p = s 202 p := if_neg (fun q => hm ⟨q.1, q.2.1, q.2.2.1⟩)
      rw [← zpt_sk eg] at hn
      exact (m_63_57_n0 hc hb (by omega) r5 r7 f7 hst (iN_zpt (by decide) hi) (fun z => hm ((zmi_zpt (by decide)).1 z))).trans hn
theorem m_63_done {c : zW} {s : zSt} {Q : Option zV → zW → Prop} (hc : zKR c) {b : Int} (hb : 0 ≤ b ∧ b ≤ 1) {st a e : Int} (h7 : s 217 b = st) (h9 : s 219 b = a) (hst : 0 ≤ st ∧ st ≤ 16) (hq : st + 1 = a) {t : zSt} (hov : ∀ Q, zR 57 0 [some (.inr (some 194)), some (.inl b), some (.inl 2), none] [] (zmk c s) Q = Q none (zmk c t)) : zR 63 106 [some (.inr (some 194)), some (.inl b), some (.inl e), some (.inl 8)] [] (zmk c s) Q = Q none (zmk c t) := by
  rw [zr_63_106, zr_63_107 (rk_194 hc), rp_95 hc, zr_63_110, zr_63_111 (ri_217 hc (by omega) (by omega)), ra (h := 217) (j := b) (by decide) (by decide) (by omega) (by omega), h7, zr_63_112, zr_63_113, zr_63_114, zr_63_115 (rk_194 hc), rp_97 hc, zr_63_118, zr_63_119 (ri_219 hc (by omega) (by omega)), ra (h := 219) (j := b) (by decide) (by decide) (by omega) (by omega), h9, zr_63_120, zN_of (x := (st + 1)) (by omega) (by omega), zN_of (x := a) (by omega) (by omega), if_neg (by omega), zr_63_123, zr_63_124, zr_63_125, zr_63_126 (by exact Nat.le_of_ble_eq_true rfl) (rk_194 hc), hov, Option.toList_none, List.nil_append, zr_63_129, zr_63_148]
theorem m_63_next {c : zW} {s : zSt} {Q : Option zV → zW → Prop} (hc : zKR c) {b : Int} (hb : 0 ≤ b ∧ b ≤ 1) {st a e : Int} (h7 : s 217 b = st) (h9 : s 219 b = a) (hst : 0 ≤ st ∧ st ≤ 16) (ha : 0 ≤ a ∧ a ≤ 16) (hq : st + 1 ≠ a) : zR 63 106 [some (.inr (some 194)), some (.inl b), some (.inl e), some (.inl 8)] [] (zmk c s) Q = Q none (zmk c (zv (zv (zv s 217 b (st + 1)) 216 b 3) 218 b 0)) := by
  rw [zr_63_106, zr_63_107 (rk_194 hc), rp_95 hc, zr_63_110, zr_63_111 (ri_217 hc (by omega) (by omega)), ra (h := 217) (j := b) (by decide) (by decide) (by omega) (by omega), h7, zr_63_112, zr_63_113, zr_63_114, zr_63_115 (rk_194 hc), rp_97 hc, zr_63_118, zr_63_119 (ri_219 hc (by omega) (by omega)), ra (h := 219) (j := b) (by decide) (by decide) (by omega) (by omega), h9, zr_63_120, zN_of (x := (st + 1)) (by omega) (by omega), zN_of (x := a) (by omega) (by omega), if_pos (by omega), zr_63_132, zr_63_133 (rk_194 hc), rp_95 hc, zr_63_136, zr_63_137, zr_63_138 (ri_217 hc (by omega) (by omega)), ra (h := 217) (j := b) (by decide) (by decide) (by omega) (by omega), h7, zr_63_139, zr_63_140, zr_63_141 (rs_217 hc (by omega) (by omega)), rsa (h := 217) (j := b) (by decide) (by decide) (by omega) (by omega), zr_63_142, zr_63_143, zr_63_144, zr_63_145 (by exact Nat.le_of_ble_eq_true rfl) (rk_194 hc), zr_58_0, zr_58_1 (rk_194 hc), rp_94 hc, zr_58_4, zr_58_5, zr_58_6 (rs_216 hc (by omega) (by omega)), rsa (h := 216) (j := b) (by decide) (by decide) (by omega) (by omega), zr_58_7, zr_58_8 (rk_194 hc), rp_96 hc, zr_58_11, zr_58_12, zr_58_13 (rs_218 hc (by omega) (by omega)), rsa (h := 218) (j := b) (by decide) (by decide) (by omega) (by omega), zr_58_14, Option.toList_none, List.nil_append, zr_63_148]
