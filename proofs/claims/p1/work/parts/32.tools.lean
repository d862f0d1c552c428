-- tools for running methods by rewriting
theorem u_k_sf {w : zW} {f h : Nat} {x : Int} {g : Nat} : zk (zsf w f h x) g = zk w g := rfl
theorem u_l_sf {w : zW} {f h : Nat} {x : Int} {g : Nat} : zl (zsf w f h x) g = zl w g := rfl
theorem u_n_sf {w : zW} {f h : Nat} {x : Int} : zn (zsf w f h x) = zn w := rfl
theorem u_s_sf {w : zW} {f h : Nat} {x : Int} : zsl (zsf w f h x) = zsl w := rfl
theorem u_p_sf {w : zW} {f h : Nat} {x : Int} {f2 g : Nat} : zp (zsf w f h x) f2 g = zp w f2 g := rfl
theorem u_a_sf {w : zW} {f h : Nat} {x : Int} {g k : Nat} : za (zsf w f h x) g k = za w g k := rfl
theorem u_b_sf {w : zW} {f h : Nat} {x : Int} {g k : Nat} : zb (zsf w f h x) g k = zb w g k := rfl
theorem u_k_sp {w : zW} {f h : Nat} {y : Option Nat} {g : Nat} : zk (zsp w f h y) g = zk w g := rfl
theorem u_l_sp {w : zW} {f h : Nat} {y : Option Nat} {g : Nat} : zl (zsp w f h y) g = zl w g := rfl
theorem u_n_sp {w : zW} {f h : Nat} {y : Option Nat} : zn (zsp w f h y) = zn w := rfl
theorem u_s_sp {w : zW} {f h : Nat} {y : Option Nat} : zsl (zsp w f h y) = zsl w := rfl
theorem u_f_sp {w : zW} {f h : Nat} {y : Option Nat} {f2 g : Nat} : zf (zsp w f h y) f2 g = zf w f2 g := rfl
theorem u_a_sp {w : zW} {f h : Nat} {y : Option Nat} {g k : Nat} : za (zsp w f h y) g k = za w g k := rfl
theorem u_b_sp {w : zW} {f h : Nat} {y : Option Nat} {g k : Nat} : zb (zsp w f h y) g k = zb w g k := rfl
theorem u_k_sa {w : zW} {h j : Nat} {x : Int} {g : Nat} : zk (zsa w h j x) g = zk w g := rfl
theorem u_l_sa {w : zW} {h j : Nat} {x : Int} {g : Nat} : zl (zsa w h j x) g = zl w g := rfl
theorem u_n_sa {w : zW} {h j : Nat} {x : Int} : zn (zsa w h j x) = zn w := rfl
theorem u_s_sa {w : zW} {h j : Nat} {x : Int} : zsl (zsa w h j x) = zsl w := rfl
theorem u_f_sa {w : zW} {h j : Nat} {x : Int} {f2 g : Nat} : zf (zsa w h j x) f2 g = zf w f2 g := rfl
theorem u_p_sa {w : zW} {h j : Nat} {x : Int} {f2 g : Nat} : zp (zsa w h j x) f2 g = zp w f2 g := rfl
theorem u_b_sa {w : zW} {h j : Nat} {x : Int} {g k : Nat} : zb (zsa w h j x) g k = zb w g k := rfl
theorem u_k_sb {w : zW} {h j : Nat} {y : Option Nat} {g : Nat} : zk (zsb w h j y) g = zk w g := rfl
theorem u_l_sb {w : zW} {h j : Nat} {y : Option Nat} {g : Nat} : zl (zsb w h j y) g = zl w g := rfl
theorem u_n_sb {w : zW} {h j : Nat} {y : Option Nat} : zn (zsb w h j y) = zn w := rfl
theorem u_s_sb {w : zW} {h j : Nat} {y : Option Nat} : zsl (zsb w h j y) = zsl w := rfl
theorem u_f_sb {w : zW} {h j : Nat} {y : Option Nat} {f2 g : Nat} : zf (zsb w h j y) f2 g = zf w f2 g := rfl
theorem u_p_sb {w : zW} {h j : Nat} {y : Option Nat} {f2 g : Nat} : zp (zsb w h j y) f2 g = zp w f2 g := rfl
theorem u_a_sb {w : zW} {h j : Nat} {y : Option Nat} {g k : Nat} : za (zsb w h j y) g k = za w g k := rfl
theorem u_f_eq {w : zW} {f h : Nat} {x : Int} : zf (zsf w f h x) f h = x := zu_self
theorem u_f_ne {w : zW} {f f2 h g : Nat} {x : Int} (hf : f2 ≠ f) : zf (zsf w f h x) f2 g = zf w f2 g := zu_ne1 hf
theorem u_f_nh {w : zW} {f f2 h g : Nat} {x : Int} (hg : g ≠ h) : zf (zsf w f h x) f2 g = zf w f2 g := zu_ne2 hg
theorem u_a_eq {w : zW} {h j : Nat} {x : Int} : za (zsa w h j x) h j = x := zu_self
theorem u_a_ne {w : zW} {h g j k : Nat} {x : Int} (hg : g ≠ h) : za (zsa w h j x) g k = za w g k := zu_ne1 hg
theorem u_a_nj {w : zW} {h g j k : Nat} {x : Int} (hg : k ≠ j) : za (zsa w h j x) g k = za w g k := zu_ne2 hg
theorem u_b_eq {w : zW} {h j : Nat} {y : Option Nat} : zb (zsb w h j y) h j = y := zu_self
theorem u_b_ne {w : zW} {h g j k : Nat} {y : Option Nat} (hg : g ≠ h) : zb (zsb w h j y) g k = zb w g k := zu_ne1 hg
theorem u_b_nj {w : zW} {h g j k : Nat} {y : Option Nat} (hg : k ≠ j) : zb (zsb w h j y) g k = zb w g k := zu_ne2 hg
theorem u_p_eq {w : zW} {f h : Nat} {y : Option Nat} : zp (zsp w f h y) f h = y := zu_self
theorem u_p_ne {w : zW} {f f2 h g : Nat} {y : Option Nat} (hf : f2 ≠ f) : zp (zsp w f h y) f2 g = zp w f2 g := zu_ne1 hf
theorem u_p_nh {w : zW} {f f2 h g : Nat} {y : Option Nat} (hg : g ≠ h) : zp (zsp w f h y) f2 g = zp w f2 g := zu_ne2 hg
theorem m_isBus1 {a : Int} {w : zW} {Q : Option zV → zW → Prop} (h : 0 ≤ zN a ∧ zN a < 2) : zR 17 0 [some (.inl a)] [] w Q = Q (some (.inl 1)) w := by
  simp (disch := first | decide | omega) only [zr_17_0, zr_17_1, zr_17_4, zr_17_5, zr_17_6, zr_17_9, zr_17_10, zr_17_13, zr_17_14, zN_of]
  repeat' split
  all_goals first | rfl | (exfalso; omega)
theorem m_isBus0 {a : Int} {w : zW} {Q : Option zV → zW → Prop} (h : ¬ (0 ≤ zN a ∧ zN a < 2)) : zR 17 0 [some (.inl a)] [] w Q = Q (some (.inl 0)) w := by
  simp (disch := first | decide | omega) only [zr_17_0, zr_17_1, zr_17_4, zr_17_5, zr_17_6, zr_17_9, zr_17_10, zr_17_13, zr_17_14, zN_of]
  repeat' split
  all_goals first | rfl | (exfalso; omega)
theorem m_isDev1 {a : Int} {w : zW} {Q : Option zV → zW → Prop} (h : 2 ≤ zN a ∧ zN a < 7) : zR 18 0 [some (.inl a)] [] w Q = Q (some (.inl 1)) w := by
  simp (disch := first | decide | omega) only [zr_18_0, zr_18_1, zr_18_2, zr_18_5, zr_18_6, zr_18_8, zr_18_11, zr_18_12, zr_18_15, zr_18_16, zN_of]
  repeat' split
  all_goals first | rfl | (exfalso; omega)
theorem m_isDev0 {a : Int} {w : zW} {Q : Option zV → zW → Prop} (h : ¬ (2 ≤ zN a ∧ zN a < 7)) : zR 18 0 [some (.inl a)] [] w Q = Q (some (.inl 0)) w := by
  simp (disch := first | decide | omega) only [zr_18_0, zr_18_1, zr_18_2, zr_18_5, zr_18_6, zr_18_8, zr_18_11, zr_18_12, zr_18_15, zr_18_16, zN_of]
  repeat' split
  all_goals first | rfl | (exfalso; omega)
theorem m_within1 {a b c : Int} (hb1 : -2147483648 ≤ b) (hb2 : b < 2147483648) (hc1 : -2147483648 ≤ c) (hc2 : c < 2147483648) {w : zW} {Q : Option zV → zW → Prop} (h : b ≤ zN a ∧ zN a ≤ c) : zR 24 0 [some (.inl a), some (.inl b), some (.inl c)] [] w Q = Q (some (.inl 1)) w := by
  simp (disch := first | decide | omega) only [zr_24_0, zr_24_1, zr_24_2, zr_24_5, zr_24_6, zr_24_7, zr_24_10, zr_24_11, zr_24_14, zr_24_15, zN_of]
  repeat' split
  all_goals first | rfl | (exfalso; omega)
theorem m_within0 {a b c : Int} (hb1 : -2147483648 ≤ b) (hb2 : b < 2147483648) (hc1 : -2147483648 ≤ c) (hc2 : c < 2147483648) {w : zW} {Q : Option zV → zW → Prop} (h : ¬ (b ≤ zN a ∧ zN a ≤ c)) : zR 24 0 [some (.inl a), some (.inl b), some (.inl c)] [] w Q = Q (some (.inl 0)) w := by
  simp (disch := first | decide | omega) only [zr_24_0, zr_24_1, zr_24_2, zr_24_5, zr_24_6, zr_24_7, zr_24_10, zr_24_11, zr_24_14, zr_24_15, zN_of]
  repeat' split
  all_goals first | rfl | (exfalso; omega)
theorem m_device1 {a : Int} {w : zW} {Q : Option zV → zW → Prop} (h : 2 ≤ zN a ∧ zN a ≤ 6) : zR 27 0 [some (.inl a)] [] w Q = Q (some (.inl 1)) w := by
  simp (disch := first | decide | omega) only [zr_27_0, zr_27_1, zr_27_2, zr_27_5, zr_27_6, zr_27_8, zr_27_11, zr_27_12, zr_27_15, zr_27_16, zN_of]
  repeat' split
  all_goals first | rfl | (exfalso; omega)
theorem m_device0 {a : Int} {w : zW} {Q : Option zV → zW → Prop} (h : ¬ (2 ≤ zN a ∧ zN a ≤ 6)) : zR 27 0 [some (.inl a)] [] w Q = Q (some (.inl 0)) w := by
  simp (disch := first | decide | omega) only [zr_27_0, zr_27_1, zr_27_2, zr_27_5, zr_27_6, zr_27_8, zr_27_11, zr_27_12, zr_27_15, zr_27_16, zN_of]
  repeat' split
  all_goals first | rfl | (exfalso; omega)
theorem zfz_25 {w : zW} (hf : zFresh w) {j : Nat} (hj : j < 32) : za w 25 j = 0 := by
  have h1 := (zfr_25 hf).2.2.2.2.1
  have h2 : ([(0, 0), (1, 0), (2, 0), (3, 0), (4, 0), (5, 0), (6, 0), (7, 0), (8, 0), (9, 0), (10, 0), (11, 0), (12, 0), (13, 0), (14, 0), (15, 0), (16, 0), (17, 0), (18, 0), (19, 0), (20, 0), (21, 0), (22, 0), (23, 0), (24, 0), (25, 0), (26, 0), (27, 0), (28, 0), (29, 0), (30, 0), (31, 0)] : List (Nat × Int)) = (List.range 32).map (fun j => (j, 0)) := by decide +kernel
  exact h1 (j, 0) (by show (j, (0 : Int)) ∈ ([(0, 0), (1, 0), (2, 0), (3, 0), (4, 0), (5, 0), (6, 0), (7, 0), (8, 0), (9, 0), (10, 0), (11, 0), (12, 0), (13, 0), (14, 0), (15, 0), (16, 0), (17, 0), (18, 0), (19, 0), (20, 0), (21, 0), (22, 0), (23, 0), (24, 0), (25, 0), (26, 0), (27, 0), (28, 0), (29, 0), (30, 0), (31, 0)] : List (Nat × Int)); rw [h2]; exact List.mem_map.mpr ⟨j, List.mem_range.mpr hj, rfl⟩)
theorem zfz_50 {w : zW} (hf : zFresh w) {j : Nat} (hj : j < 24) : za w 50 j = 0 := by
  have h1 := (zfr_50 hf).2.2.2.2.1
  have h2 : ([(0, 0), (1, 0), (2, 0), (3, 0), (4, 0), (5, 0), (6, 0), (7, 0), (8, 0), (9, 0), (10, 0), (11, 0), (12, 0), (13, 0), (14, 0), (15, 0), (16, 0), (17, 0), (18, 0), (19, 0), (20, 0), (21, 0), (22, 0), (23, 0)] : List (Nat × Int)) = (List.range 24).map (fun j => (j, 0)) := by decide +kernel
  exact h1 (j, 0) (by show (j, (0 : Int)) ∈ ([(0, 0), (1, 0), (2, 0), (3, 0), (4, 0), (5, 0), (6, 0), (7, 0), (8, 0), (9, 0), (10, 0), (11, 0), (12, 0), (13, 0), (14, 0), (15, 0), (16, 0), (17, 0), (18, 0), (19, 0), (20, 0), (21, 0), (22, 0), (23, 0)] : List (Nat × Int)); rw [h2]; exact List.mem_map.mpr ⟨j, List.mem_range.mpr hj, rfl⟩)
theorem zfz_214 {w : zW} (hf : zFresh w) {j : Nat} (hj : j < 168) : za w 214 j = 0 := by
  have h1 := (zfr_214 hf).2.2.2.2.1
  have h2 : ([(0, 0), (1, 0), (2, 0), (3, 0), (4, 0), (5, 0), (6, 0), (7, 0), (8, 0), (9, 0), (10, 0), (11, 0), (12, 0), (13, 0), (14, 0), (15, 0), (16, 0), (17, 0), (18, 0), (19, 0), (20, 0), (21, 0), (22, 0), (23, 0), (24, 0), (25, 0), (26, 0), (27, 0), (28, 0), (29, 0), (30, 0), (31, 0), (32, 0), (33, 0), (34, 0), (35, 0), (36, 0), (37, 0), (38, 0), (39, 0), (40, 0), (41, 0), (42, 0), (43, 0), (44, 0), (45, 0), (46, 0), (47, 0), (48, 0), (49, 0), (50, 0), (51, 0), (52, 0), (53, 0), (54, 0), (55, 0), (56, 0), (57, 0), (58, 0), (59, 0), (60, 0), (61, 0), (62, 0), (63, 0), (64, 0), (65, 0), (66, 0), (67, 0), (68, 0), (69, 0), (70, 0), (71, 0), (72, 0), (73, 0), (74, 0), (75, 0), (76, 0), (77, 0), (78, 0), (79, 0), (80, 0), (81, 0), (82, 0), (83, 0), (84, 0), (85, 0), (86, 0), (87, 0), (88, 0), (89, 0), (90, 0), (91, 0), (92, 0), (93, 0), (94, 0), (95, 0), (96, 0), (97, 0), (98, 0), (99, 0), (100, 0), (101, 0), (102, 0), (103, 0), (104, 0), (105, 0), (106, 0), (107, 0), (108, 0), (109, 0), (110, 0), (111, 0), (112, 0), (113, 0), (114, 0), (115, 0), (116, 0), (117, 0), (118, 0), (119, 0), (120, 0), (121, 0), (122, 0), (123, 0), (124, 0), (125, 0), (126, 0), (127, 0), (128, 0), (129, 0), (130, 0), (131, 0), (132, 0), (133, 0), (134, 0), (135, 0), (136, 0), (137, 0), (138, 0), (139, 0), (140, 0), (141, 0), (142, 0), (143, 0), (144, 0), (145, 0), (146, 0), (147, 0), (148, 0), (149, 0), (150, 0), (151, 0), (152, 0), (153, 0), (154, 0), (155, 0), (156, 0), (157, 0), (158, 0), (159, 0), (160, 0), (161, 0), (162, 0), (163, 0), (164, 0), (165, 0), (166, 0), (167, 0)] : List (Nat × Int)) = (List.range 168).map (fun j => (j, 0)) := by decide +kernel
  exact h1 (j, 0) (by show (j, (0 : Int)) ∈ ([(0, 0), (1, 0), (2, 0), (3, 0), (4, 0), (5, 0), (6, 0), (7, 0), (8, 0), (9, 0), (10, 0), (11, 0), (12, 0), (13, 0), (14, 0), (15, 0), (16, 0), (17, 0), (18, 0), (19, 0), (20, 0), (21, 0), (22, 0), (23, 0), (24, 0), (25, 0), (26, 0), (27, 0), (28, 0), (29, 0), (30, 0), (31, 0), (32, 0), (33, 0), (34, 0), (35, 0), (36, 0), (37, 0), (38, 0), (39, 0), (40, 0), (41, 0), (42, 0), (43, 0), (44, 0), (45, 0), (46, 0), (47, 0), (48, 0), (49, 0), (50, 0), (51, 0), (52, 0), (53, 0), (54, 0), (55, 0), (56, 0), (57, 0), (58, 0), (59, 0), (60, 0), (61, 0), (62, 0), (63, 0), (64, 0), (65, 0), (66, 0), (67, 0), (68, 0), (69, 0), (70, 0), (71, 0), (72, 0), (73, 0), (74, 0), (75, 0), (76, 0), (77, 0), (78, 0), (79, 0), (80, 0), (81, 0), (82, 0), (83, 0), (84, 0), (85, 0), (86, 0), (87, 0), (88, 0), (89, 0), (90, 0), (91, 0), (92, 0), (93, 0), (94, 0), (95, 0), (96, 0), (97, 0), (98, 0), (99, 0), (100, 0), (101, 0), (102, 0), (103, 0), (104, 0), (105, 0), (106, 0), (107, 0), (108, 0), (109, 0), (110, 0), (111, 0), (112, 0), (113, 0), (114, 0), (115, 0), (116, 0), (117, 0), (118, 0), (119, 0), (120, 0), (121, 0), (122, 0), (123, 0), (124, 0), (125, 0), (126, 0), (127, 0), (128, 0), (129, 0), (130, 0), (131, 0), (132, 0), (133, 0), (134, 0), (135, 0), (136, 0), (137, 0), (138, 0), (139, 0), (140, 0), (141, 0), (142, 0), (143, 0), (144, 0), (145, 0), (146, 0), (147, 0), (148, 0), (149, 0), (150, 0), (151, 0), (152, 0), (153, 0), (154, 0), (155, 0), (156, 0), (157, 0), (158, 0), (159, 0), (160, 0), (161, 0), (162, 0), (163, 0), (164, 0), (165, 0), (166, 0), (167, 0)] : List (Nat × Int)); rw [h2]; exact List.mem_map.mpr ⟨j, List.mem_range.mpr hj, rfl⟩)
theorem zfz_230 {w : zW} (hf : zFresh w) {j : Nat} (hj : j < 32) : za w 230 j = 0 := by
  have h1 := (zfr_230 hf).2.2.2.2.1
  have h2 : ([(0, 0), (1, 0), (2, 0), (3, 0), (4, 0), (5, 0), (6, 0), (7, 0), (8, 0), (9, 0), (10, 0), (11, 0), (12, 0), (13, 0), (14, 0), (15, 0), (16, 0), (17, 0), (18, 0), (19, 0), (20, 0), (21, 0), (22, 0), (23, 0), (24, 0), (25, 0), (26, 0), (27, 0), (28, 0), (29, 0), (30, 0), (31, 0)] : List (Nat × Int)) = (List.range 32).map (fun j => (j, 0)) := by decide +kernel
  exact h1 (j, 0) (by show (j, (0 : Int)) ∈ ([(0, 0), (1, 0), (2, 0), (3, 0), (4, 0), (5, 0), (6, 0), (7, 0), (8, 0), (9, 0), (10, 0), (11, 0), (12, 0), (13, 0), (14, 0), (15, 0), (16, 0), (17, 0), (18, 0), (19, 0), (20, 0), (21, 0), (22, 0), (23, 0), (24, 0), (25, 0), (26, 0), (27, 0), (28, 0), (29, 0), (30, 0), (31, 0)] : List (Nat × Int)); rw [h2]; exact List.mem_map.mpr ⟨j, List.mem_range.mpr hj, rfl⟩)
def zEnd (L : Nat) (xs : Nat → Int) (w : zW) : Prop := zBase L xs w ∧ zn w ≤ 600000 ∧ zsl w ≤ 7302250
