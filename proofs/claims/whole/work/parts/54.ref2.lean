-- the reference sends: a message cut into packets
theorem m_37_167s_k {c : zW} {s : zSt} {Q : Option zV → zW → Prop} (hc : zKR c) {at7 n7 i : Int} {l1 l2 l3 l4 : Option zV} (ha : 0 ≤ at7 ∧ at7 ≤ 756) (hi : 0 ≤ i ∧ i ≤ 3) (h7 : n7 ≤ 8) (h0 : 0 ≤ n7) : ∀ (jj : Nat) (k : Int), 0 ≤ k → k + (jj : Int) = n7 → zR 37 167 [some (.inr (some 194)), l1, l2, l3, l4, some (.inl i), some (.inl at7), some (.inl n7), some (.inl k)] [] (zmk c (zpt s 201 (at7 + 4) k (fun x => s 229 (8 * i + (x - (at7 + 4)))))) Q = zR 37 205 [some (.inr (some 194)), l1, l2, l3, l4, some (.inl i), some (.inl at7), some (.inl n7), some (.inl n7)] [] (zmk c (zpt s 201 (at7 + 4) n7 (fun x => s 229 (8 * i + (x - (at7 + 4)))))) Q := by
  intro jj
  induction jj with
  | zero =>
    intro k hk0 hj
    rw [show k = n7 by omega]
    rw [zr_37_167, zr_37_169, zr_37_171, zN_of (x := n7) (by omega) (by omega), if_pos (by omega)]
  | succ jj ih =>
    intro k hk0 hj
    rw [zr_37_167, zr_37_169, zr_37_171, zN_of (x := k) (by omega) (by omega), zN_of (x := n7) (by omega) (by omega), if_neg (by omega), zr_37_174, zr_37_175 (rk_194 hc), rp_79 hc, zr_37_178, zr_37_180, zr_37_181, zr_37_182, zr_37_184, zr_37_185, zr_37_186 (rk_194 hc), rp_110 hc, zr_37_189, zr_37_191, zr_37_193, zr_37_194, zr_37_196, zr_37_197 (ri_229 hc (by omega) (by omega)), ra (h := 229) (j := ((8 * i) + k)) (by decide) (by decide) (by omega) (by omega), zpt_ne (by decide), show 8 * i + k = 8 * i + (at7 + 4 + k - (at7 + 4)) by omega, zr_37_198 (rs_201 hc (by omega) (by omega)), rsa (h := 201) (j := ((at7 + 4) + k)) (by decide) (by decide) (by omega) (by omega), zr_37_199, zr_37_202]
    rw [zpt_s (g := fun x => s 229 (8 * i + (x - (at7 + 4)))) hk0]
    exact ih (k + 1) (by omega) (by omega)
theorem m_37_167s {c : zW} {s : zSt} {Q : Option zV → zW → Prop} (hc : zKR c) {at7 n7 i : Int} {l1 l2 l3 l4 : Option zV} (ha : 0 ≤ at7 ∧ at7 ≤ 756) (hi : 0 ≤ i ∧ i ≤ 3) (h7 : n7 ≤ 8) (h0 : 0 ≤ n7) : zR 37 167 [some (.inr (some 194)), l1, l2, l3, l4, some (.inl i), some (.inl at7), some (.inl n7), some (.inl 0)] [] (zmk c s) Q = zR 37 205 [some (.inr (some 194)), l1, l2, l3, l4, some (.inl i), some (.inl at7), some (.inl n7), some (.inl n7)] [] (zmk c (zpt s 201 (at7 + 4) n7 (fun x => s 229 (8 * i + (x - (at7 + 4)))))) Q := by
  have h := m_37_167s_k (s := s) (Q := Q) (at7 := at7) (n7 := n7) (i := i) (l1 := l1) (l2 := l2) (l3 := l3) (l4 := l4) hc ha hi h7 h0 (Int.toNat (n7)) 0 (by omega) (by omega)
  rw [zpt_0] at h
  exact h
theorem m_37_116 {w : zW} {Q : Option zV → zW → Prop} {i q : Nat} {kd : Int} {l0 l1 l2 l6 l7 l8 : Option zV} {st : List zV} (hi : i < q) (hq : q ≤ 8) :
    zR 37 116 [l0, l1, l2, some (.inl kd), some (.inl (q : Int)), some (.inl (i : Int)), l6, l7, l8] st w Q = zR 37 152 [l0, l1, l2, some (.inl kd), some (.inl (q : Int)), some (.inl (i : Int)), l6, l7, l8] (.inl (zfl kd i q) :: st) w Q := by
  have e1 : zN (i : Int) = i := zN_of (by omega) (by omega)
  have e2 : zN ((q : Int) - 1) = (q : Int) - 1 := zN_of (by omega) (by omega)
  rw [zr_37_116, zr_37_118, e1]
  by_cases h0 : i = 0
  · rw [if_neg (by omega), zr_37_121, zr_37_124, zr_37_128, zr_37_130, zr_37_132, zr_37_133, zr_37_134, e1, e2]
    by_cases h1 : i + 1 = q
    · rw [if_neg (by omega), zr_37_137, zr_37_139, zr_37_143, zr_37_144, zr_37_146, zr_37_148, zr_37_149, zr_37_150, zr_37_151, show (128 : Int) + 64 + 16 * (i : Int) + kd = zfl kd i q by unfold zfl; rw [if_pos h0, if_pos h1]; omega]
    · rw [if_pos (by omega), zr_37_142, zr_37_143, zr_37_144, zr_37_146, zr_37_148, zr_37_149, zr_37_150, zr_37_151, show (128 : Int) + 0 + 16 * (i : Int) + kd = zfl kd i q by unfold zfl; rw [if_pos h0, if_neg h1]; omega]
  · rw [if_pos (by omega), zr_37_127, zr_37_128, zr_37_130, zr_37_132, zr_37_133, zr_37_134, e1, e2]
    by_cases h1 : i + 1 = q
    · rw [if_neg (by omega), zr_37_137, zr_37_139, zr_37_143, zr_37_144, zr_37_146, zr_37_148, zr_37_149, zr_37_150, zr_37_151, show (0 : Int) + 64 + 16 * (i : Int) + kd = zfl kd i q by unfold zfl; rw [if_neg h0, if_pos h1]; omega]
    · rw [if_pos (by omega), zr_37_142, zr_37_143, zr_37_144, zr_37_146, zr_37_148, zr_37_149, zr_37_150, zr_37_151, show (0 : Int) + 0 + 16 * (i : Int) + kd = zfl kd i q by unfold zfl; rw [if_neg h0, if_neg h1]; omega]
theorem m_37_53 {c : zW} {s : zSt} {Q : Option zV → zW → Prop} (hc : zKR c) {i n : Nat} {l1 l2 l3 l4 l6 l7 l8 : Option zV} (hn : s 111 0 = (n : Int)) (hi : i ≤ 4) (h32 : n ≤ 32) (hin : 8 * i ≤ n) : zR 37 53 [some (.inr (some 194)), l1, l2, l3, l4, some (.inl (i : Int)), l6, l7, l8] [] (zmk c s) Q = zR 37 85 [some (.inr (some 194)), l1, l2, l3, l4, some (.inl (i : Int)), l6, some (.inl ((min 8 (n - 8 * i) : Nat) : Int)), l8] [] (zmk c s) Q := by
  by_cases h : (n : Int) - 8 * (i : Int) < 8
  · rw [show ((min 8 (n - 8 * i) : Nat) : Int) = (n : Int) - 8 * (i : Int) by omega]
    rw [zr_37_53, zr_37_54 (rk_194 hc), v_f (f := 111) (by decide), hn, zr_37_57, zr_37_59, zr_37_61, zr_37_62, zr_37_63, zr_37_65, zN_of (x := ((n : Int) - (8 * (i : Int)))) (by omega) (by omega), show zN 8 = 8 by decide, if_neg (by omega), zr_37_68, zr_37_69 (rk_194 hc), v_f (f := 111) (by decide), hn, zr_37_72, zr_37_74, zr_37_76, zr_37_77, zr_37_78, zr_37_83]
  · rw [show ((min 8 (n - 8 * i) : Nat) : Int) = 8 by omega]
    rw [zr_37_53, zr_37_54 (rk_194 hc), v_f (f := 111) (by decide), hn, zr_37_57, zr_37_59, zr_37_61, zr_37_62, zr_37_63, zr_37_65, zN_of (x := ((n : Int) - (8 * (i : Int)))) (by omega) (by omega), show zN 8 = 8 by decide, if_pos (by omega), zr_37_81, zr_37_83]
-- one packet appended to the output of port d, where k packets wait
def zpc (s : zSt) (d k to ep fl n : Int) (g : Int → Int) : zSt := zv (zpt (zv (zv (zv (zv s 201 (12 * (8 * d + k)) to) 201 (12 * (8 * d + k) + 1) ep) 201 (12 * (8 * d + k) + 2) fl) 201 (12 * (8 * d + k) + 3) n) 201 (12 * (8 * d + k) + 4) n (fun x => g (x - (12 * (8 * d + k) + 4)))) 200 d (k + 1)
theorem zpc_o {s : zSt} {d k to ep fl n : Int} {g : Int → Int} {a : Nat} {x : Int} (h1 : a ≠ 200) (h2 : a ≠ 201) : zpc s d k to ep fl n g a x = s a x := by
  rw [zpc, zv_ne h1, zpt_ne h2, zv_ne h2, zv_ne h2, zv_ne h2, zv_ne h2]
theorem zpc_w {s : zSt} {d k to ep fl n : Int} {g : Int → Int} : zpc s d k to ep fl n g 200 d = k + 1 := zv_eq
theorem zpc_wo {s : zSt} {d k to ep fl n : Int} {g : Int → Int} {x : Int} (h : x ≠ d) : zpc s d k to ep fl n g 200 x = s 200 x := by
  rw [zpc, zv_nj h, zpt_ne (by decide), zv_ne (by decide), zv_ne (by decide), zv_ne (by decide), zv_ne (by decide)]
theorem zpc_q {s : zSt} {d k to ep fl n : Int} {g : Int → Int} {x : Int} (h : x < 12 * (8 * d + k) ∨ 12 * (8 * d + k) + 4 + n ≤ x) (hn : 0 ≤ n) : zpc s d k to ep fl n g 201 x = s 201 x := by
  rw [zpc, zv_ne (by decide), zpt_o (by omega), zv_nj (by omega), zv_nj (by omega), zv_nj (by omega), zv_nj (by omega)]
theorem zpc_0 {s : zSt} {d k to ep fl n : Int} {g : Int → Int} : zpc s d k to ep fl n g 201 (12 * (8 * d + k)) = to := by
  rw [zpc, zv_ne (by decide), zpt_o (by omega), zv_nj (by omega), zv_nj (by omega), zv_nj (by omega), zv_eq]
theorem zpc_1 {s : zSt} {d k to ep fl n : Int} {g : Int → Int} : zpc s d k to ep fl n g 201 (12 * (8 * d + k) + 1) = ep := by
  rw [zpc, zv_ne (by decide), zpt_o (by omega), zv_nj (by omega), zv_nj (by omega), zv_eq]
theorem zpc_2 {s : zSt} {d k to ep fl n : Int} {g : Int → Int} : zpc s d k to ep fl n g 201 (12 * (8 * d + k) + 2) = fl := by
  rw [zpc, zv_ne (by decide), zpt_o (by omega), zv_nj (by omega), zv_eq]
theorem zpc_3 {s : zSt} {d k to ep fl n : Int} {g : Int → Int} : zpc s d k to ep fl n g 201 (12 * (8 * d + k) + 3) = n := by
  rw [zpc, zv_ne (by decide), zpt_o (by omega), zv_eq]
theorem zpc_b {s : zSt} {d k to ep fl n : Int} {g : Int → Int} {j : Int} (h1 : 0 ≤ j) (h2 : j < n) : zpc s d k to ep fl n g 201 (12 * (8 * d + k) + 4 + j) = g j := by
  rw [zpc, zv_ne (by decide), zpt_i (by omega) (by omega), show 12 * (8 * d + k) + 4 + j - (12 * (8 * d + k) + 4) = j by omega]
def zsR (s : zSt) (d : Int) (b : Nat) (to kd : Int) (n q : Nat) : Nat → zSt
  | 0 => s
  | i + 1 => zpc (zsR s d b to kd n q i) d ((b + i : Nat) : Int) to (s 202 d) (zfl kd i q) ((min 8 (n - 8 * i) : Nat) : Int) (fun x => s 229 (8 * (i : Int) + x))
theorem zsR_o {s : zSt} {d : Int} {b : Nat} {to kd : Int} {n q a : Nat} {x : Int} (h1 : a ≠ 200) (h2 : a ≠ 201) : ∀ i, zsR s d b to kd n q i a x = s a x
  | 0 => rfl
  | i + 1 => (zpc_o h1 h2).trans (zsR_o h1 h2 i)
theorem zsR_w {s : zSt} {d : Int} {b : Nat} {to kd : Int} {n q : Nat} (hb : s 200 d = (b : Int)) : ∀ i, zsR s d b to kd n q i 200 d = ((b + i : Nat) : Int)
  | 0 => hb
  | i + 1 => zpc_w.trans (by omega)
theorem zsR_wo {s : zSt} {d : Int} {b : Nat} {to kd : Int} {n q : Nat} {x : Int} (h : x ≠ d) : ∀ i, zsR s d b to kd n q i 200 x = s 200 x
  | 0 => rfl
  | i + 1 => (zpc_wo h).trans (zsR_wo h i)
theorem m_37_30s {c : zW} {s : zSt} {Q : Option zV → zW → Prop} (hc : zKR c) {d to kd : Int} {b n q : Nat} (hd : 0 ≤ d ∧ d ≤ 7) (hn : s 111 0 = (n : Int)) (h32 : n ≤ 32) (hb : s 200 d = (b : Int)) (hq : q = (n + 7) / 8) (hbq : b + q ≤ 8) (hd6 : d ≤ 6) :
    ∀ (m i : Nat) (l6 l7 l8 : Option zV), m + i = q → zR 37 30 [some (.inr (some 194)), some (.inl d), some (.inl to), some (.inl kd), some (.inl (q : Int)), some (.inl (i : Int)), l6, l7, l8] [] (zmk c (zsR s d b to kd n q i)) Q = Q none (zmk c (zsR s d b to kd n q q)) := by
  intro m
  induction m with
  | zero =>
    intro i l6 l7 l8 hm
    have hi : i = q := by omega
    subst hi
    rw [zr_37_30, zr_37_32, zr_37_34, if_pos (Int.le_refl _), zr_37_221]
  | succ mm ih =>
    intro i l6 l7 l8 hm
    have hw : (zsR s d b to kd n q i) 200 d = ((b + i : Nat) : Int) := zsR_w hb i
    have hn2 : (zsR s d b to kd n q i) 111 0 = (n : Int) := (zsR_o (by decide) (by decide) i).trans hn
    have he2 : (zsR s d b to kd n q i) 202 d = s 202 d := zsR_o (by decide) (by decide) i
    have hg2 : ∀ x, (zsR s d b to kd n q i) 229 x = s 229 x := fun x => zsR_o (by decide) (by decide) i
    have hbi : ((b + i : Nat) : Int) ≤ 7 := by omega
    have hbi0 : 0 ≤ ((b + i : Nat) : Int) := by omega
    rw [zr_37_30, zr_37_32, zr_37_34, zN_of (x := (i : Int)) (by omega) (by omega), zN_of (x := (q : Int)) (by omega) (by omega), if_neg (by omega), zr_37_37, zr_37_39, zr_37_41, zr_37_42, zr_37_43, zr_37_44 (rk_194 hc), rp_78 hc, zr_37_47, zr_37_48 (ri_200 hc (by omega) (by omega)), ra (h := 200) (j := d) (by decide) (by decide) (by omega) (by omega), hw, zr_37_49, zr_37_50, zr_37_51]
    rw [m_37_53 hc hn2 (by omega) h32 (by omega)]
    generalize hm7 : ((min 8 (n - 8 * i) : Nat) : Int) = m
    have m0 : 0 ≤ m ∧ m ≤ 8 := by omega
    rw [zr_37_85, zr_37_86 (rk_194 hc), rp_79 hc, zr_37_89, zr_37_91, zr_37_92 (rs_201 hc (by omega) (by omega)), rsa (h := 201) (j := (12 * ((8 * d) + ((b + i : Nat) : Int)))) (by decide) (by decide) (by omega) (by omega), zr_37_93, zr_37_94 (rk_194 hc), rp_79 hc, zr_37_97, zr_37_99, zr_37_100, zr_37_101, zr_37_102 (rk_194 hc), rp_80 hc, zr_37_105, zr_37_106 (ri_202 hc (by omega) (by omega)), ra (h := 202) (j := d) (by decide) (by decide) (by omega) (by omega), zv_ne (a := 201) (b := 202) (by decide), he2, zr_37_107 (rs_201 hc (by omega) (by omega)), rsa (h := 201) (j := ((12 * ((8 * d) + ((b + i : Nat) : Int))) + 1)) (by decide) (by decide) (by omega) (by omega), zr_37_108, zr_37_109 (rk_194 hc), rp_79 hc, zr_37_112, zr_37_114, zr_37_115]
    rw [m_37_116 (by omega) (by omega)]
    rw [zr_37_152 (rs_201 hc (by omega) (by omega)), rsa (h := 201) (j := ((12 * ((8 * d) + ((b + i : Nat) : Int))) + 2)) (by decide) (by decide) (by omega) (by omega), zr_37_153, zr_37_154 (rk_194 hc), rp_79 hc, zr_37_157, zr_37_159, zr_37_160, zr_37_161, zr_37_163 (rs_201 hc (by omega) (by omega)), rsa (h := 201) (j := ((12 * ((8 * d) + ((b + i : Nat) : Int))) + 3)) (by decide) (by decide) (by omega) (by omega), zr_37_164, zr_37_165]
    rw [m_37_167s hc (by omega) (by omega) (by omega) m0.1]
    have hU : ∀ g, zpt (zv (zv (zv (zv (zsR s d b to kd n q i) 201 (12 * ((8 * d) + ((b + i : Nat) : Int))) to) 201 ((12 * ((8 * d) + ((b + i : Nat) : Int))) + 1) (s 202 d)) 201 ((12 * ((8 * d) + ((b + i : Nat) : Int))) + 2) (zfl kd i q)) 201 ((12 * ((8 * d) + ((b + i : Nat) : Int))) + 3) m) 201 ((12 * ((8 * d) + ((b + i : Nat) : Int))) + 4) m g 200 d = ((b + i : Nat) : Int) := fun g => by
      rw [zpt_ne (by decide), zv_ne (by decide), zv_ne (by decide), zv_ne (by decide), zv_ne (by decide)]
      exact hw
    rw [show (fun x => (zv (zv (zv (zv (zsR s d b to kd n q i) 201 (12 * ((8 * d) + ((b + i : Nat) : Int))) to) 201 ((12 * ((8 * d) + ((b + i : Nat) : Int))) + 1) (s 202 d)) 201 ((12 * ((8 * d) + ((b + i : Nat) : Int))) + 2) (zfl kd i q)) 201 ((12 * ((8 * d) + ((b + i : Nat) : Int))) + 3) m) 229 (8 * (i : Int) + (x - ((12 * ((8 * d) + ((b + i : Nat) : Int))) + 4)))) = (fun x => (fun y => s 229 (8 * (i : Int) + y)) (x - ((12 * ((8 * d) + ((b + i : Nat) : Int))) + 4))) from funext fun x => by
      rw [zv_ne (by decide), zv_ne (by decide), zv_ne (by decide), zv_ne (by decide), hg2]]
    rw [zr_37_205, zr_37_206 (rk_194 hc), rp_78 hc, zr_37_209, zr_37_210, zr_37_211 (ri_200 hc (by omega) (by omega)), ra (h := 200) (j := d) (by decide) (by decide) (by omega) (by omega), hU, zr_37_212, zr_37_213, zr_37_214 (rs_200 hc (by omega) (by omega)), rsa (h := 200) (j := d) (by decide) (by decide) (by omega) (by omega), zr_37_215, zr_37_218]
    rw [← hm7]
    exact ih (i + 1) _ _ _ (by omega)
theorem m_37 {c : zW} {s : zSt} {Q : Option zV → zW → Prop} (hc : zKR c) {d to kd : Int} {b n : Nat} (hd : 0 ≤ d ∧ d ≤ 6) (hn : s 111 0 = (n : Int)) (h32 : n ≤ 32) (hb : s 200 d = (b : Int)) (hb8 : b ≤ 8) :
    zR 37 0 [some (.inr (some 194)), some (.inl d), some (.inl to), some (.inl kd), none, none, none, none, none] [] (zmk c s) Q = Q none (zmk c (if b + (n + 7) / 8 ≤ 8 then zsR s d b to kd n ((n + 7) / 8) ((n + 7) / 8) else s)) := by
  have hdv : zo_div ((n : Int) + 7) 8 = (((n + 7) / 8 : Nat) : Int) := z_div8 n (by omega)
  by_cases h8 : b + (n + 7) / 8 ≤ 8
  · rw [if_pos h8]
    rw [zr_37_0, zr_37_1 (rk_194 hc), v_f (f := 111) (by decide), hn, zr_37_4, zr_37_6, zr_37_7, zr_37_9 (by decide), hdv, zr_37_10, zr_37_12, zr_37_13 (rk_194 hc), rp_78 hc, zr_37_16, zr_37_17 (ri_200 hc (by omega) (by omega)), ra (h := 200) (j := d) (by decide) (by decide) (by omega) (by omega), hb, zr_37_18, zr_37_20, zr_37_21, zr_37_23, zN_of (x := ((b : Int) + (((n + 7) / 8 : Nat) : Int))) (by omega) (by omega), show zN 8 = 8 by decide, if_pos (by omega), zr_37_27, zr_37_28]
    exact m_37_30s hc (by omega) hn h32 hb rfl h8 hd.2 ((n + 7) / 8) 0 _ _ _ (by omega)
  · rw [if_neg h8]
    rw [zr_37_0, zr_37_1 (rk_194 hc), v_f (f := 111) (by decide), hn, zr_37_4, zr_37_6, zr_37_7, zr_37_9 (by decide), hdv, zr_37_10, zr_37_12, zr_37_13 (rk_194 hc), rp_78 hc, zr_37_16, zr_37_17 (ri_200 hc (by omega) (by omega)), ra (h := 200) (j := d) (by decide) (by decide) (by omega) (by omega), hb, zr_37_18, zr_37_20, zr_37_21, zr_37_23, zN_of (x := ((b : Int) + (((n + 7) / 8 : Nat) : Int))) (by omega) (by omega), show zN 8 = 8 by decide, if_neg (by omega), zr_37_26]
