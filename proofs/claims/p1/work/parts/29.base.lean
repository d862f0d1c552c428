-- the shape that stays: the script, and kind and length of what the constructors made
def zKT : List (Nat × Nat × Nat) := [(1, 0, 6), (2, 15, 2), (3, 16, 7), (4, 17, 7), (5, 1, 11), (6, 18, 64), (7, 2, 9), (8, 19, 8), (9, 3, 5), (10, 12, 8), (11, 3, 5), (12, 12, 8), (13, 3, 5), (14, 12, 8), (15, 3, 5), (16, 12, 8), (17, 3, 5), (18, 12, 8), (19, 3, 5), (20, 12, 8), (21, 3, 5), (22, 12, 8), (23, 3, 5), (24, 12, 8), (25, 12, 32), (26, 12, 16), (27, 12, 16), (28, 12, 16), (29, 20, 40), (30, 4, 13), (31, 18, 64), (32, 2, 9), (33, 19, 8), (34, 3, 5), (35, 12, 8), (36, 3, 5), (37, 12, 8), (38, 3, 5), (39, 12, 8), (40, 3, 5), (41, 12, 8), (42, 3, 5), (43, 12, 8), (44, 3, 5), (45, 12, 8), (46, 3, 5), (47, 12, 8), (48, 3, 5), (49, 12, 8), (50, 12, 24), (51, 12, 32), (52, 2, 9), (53, 19, 8), (54, 3, 5), (55, 12, 8), (56, 3, 5), (57, 12, 8), (58, 3, 5), (59, 12, 8), (60, 3, 5), (61, 12, 8), (62, 3, 5), (63, 12, 8), (64, 3, 5), (65, 12, 8), (66, 3, 5), (67, 12, 8), (68, 3, 5), (69, 12, 8), (70, 5, 7), (71, 21, 7), (72, 6, 8), (73, 7, 2), (74, 12, 13), (75, 7, 2), (76, 12, 13), (77, 5, 7), (78, 21, 7), (79, 6, 8), (80, 7, 2), (81, 12, 13), (82, 7, 2), (83, 12, 13), (84, 8, 12), (85, 18, 64), (86, 2, 9), (87, 19, 8), (88, 3, 5), (89, 12, 8), (90, 3, 5), (91, 12, 8), (92, 3, 5), (93, 12, 8), (94, 3, 5), (95, 12, 8), (96, 3, 5), (97, 12, 8), (98, 3, 5), (99, 12, 8), (100, 3, 5), (101, 12, 8), (102, 3, 5), (103, 12, 8), (104, 12, 24), (105, 12, 32), (106, 8, 12), (107, 18, 64), (108, 2, 9), (109, 19, 8), (110, 3, 5), (111, 12, 8), (112, 3, 5), (113, 12, 8), (114, 3, 5), (115, 12, 8), (116, 3, 5), (117, 12, 8), (118, 3, 5), (119, 12, 8), (120, 3, 5), (121, 12, 8), (122, 3, 5), (123, 12, 8), (124, 3, 5), (125, 12, 8), (126, 12, 24), (127, 12, 32), (128, 8, 12), (129, 18, 64), (130, 2, 9), (131, 19, 8), (132, 3, 5), (133, 12, 8), (134, 3, 5), (135, 12, 8), (136, 3, 5), (137, 12, 8), (138, 3, 5), (139, 12, 8), (140, 3, 5), (141, 12, 8), (142, 3, 5), (143, 12, 8), (144, 3, 5), (145, 12, 8), (146, 3, 5), (147, 12, 8), (148, 12, 24), (149, 12, 32), (150, 8, 12), (151, 18, 64), (152, 2, 9), (153, 19, 8), (154, 3, 5), (155, 12, 8), (156, 3, 5), (157, 12, 8), (158, 3, 5), (159, 12, 8), (160, 3, 5), (161, 12, 8), (162, 3, 5), (163, 12, 8), (164, 3, 5), (165, 12, 8), (166, 3, 5), (167, 12, 8), (168, 3, 5), (169, 12, 8), (170, 12, 24), (171, 12, 32), (172, 8, 12), (173, 18, 64), (174, 2, 9), (175, 19, 8), (176, 3, 5), (177, 12, 8), (178, 3, 5), (179, 12, 8), (180, 3, 5), (181, 12, 8), (182, 3, 5), (183, 12, 8), (184, 3, 5), (185, 12, 8), (186, 3, 5), (187, 12, 8), (188, 3, 5), (189, 12, 8), (190, 3, 5), (191, 12, 8), (192, 12, 24), (193, 12, 32), (194, 11, 52), (195, 12, 8), (196, 12, 8), (197, 12, 8), (198, 13, 8), (199, 12, 8), (200, 12, 8), (201, 12, 768), (202, 12, 7), (203, 12, 448), (204, 12, 448), (205, 12, 448), (206, 12, 14336), (207, 12, 7), (208, 12, 7), (209, 12, 7), (210, 12, 7), (211, 12, 7), (212, 12, 7), (213, 12, 7), (214, 12, 168), (215, 12, 2), (216, 12, 2), (217, 12, 2), (218, 12, 2), (219, 12, 2), (220, 12, 32), (221, 12, 2), (222, 12, 2), (223, 12, 2), (224, 12, 16), (225, 12, 16), (226, 12, 32), (227, 12, 2), (228, 12, 12), (229, 12, 40), (230, 12, 32), (231, 12, 40), (232, 12, 40), (233, 12, 1280), (234, 12, 40), (235, 12, 40), (236, 12, 40), (237, 12, 40), (238, 12, 1280), (239, 12, 48)]
theorem zKT_ok : ∀ e ∈ zKT, zk zC e.1 = e.2.1 ∧ zl zC e.1 = e.2.2 := by decide +kernel
theorem zKT_le : ∀ e ∈ zKT, 0 < e.1 ∧ e.1 ≤ 239 := by decide +kernel
def zBase (L : Nat) (xs : Nat → Int) (w : zW) : Prop := zScr L xs w ∧ 239 ≤ zn w ∧ ∀ e ∈ zKT, zk w e.1 = e.2.1 ∧ zl w e.1 = e.2.2
theorem zBase_pres (L : Nat) (xs : Nat → Int) : zPres (zBase L xs) := by
  obtain ⟨p1, p2, p3, p4, p5, p6, p7⟩ := zScr_pres L xs
  refine ⟨fun w f h x hk hs => ⟨p1 w f h x hk hs.1, hs.2⟩, fun w f h x hk hs => ⟨p2 w f h x hk hs.1, hs.2⟩, fun w h j x hk hs => ⟨p3 w h j x hk hs.1, hs.2⟩, fun w h j x hk hk2 hs => ⟨p4 w h j x hk hk2 hs.1, hs.2⟩, fun w h sp g dp n hk hs => ⟨p5 w h sp g dp n hk hs.1, hs.2⟩, fun w k n hs => ⟨p6 w k n hs.1, Nat.le_succ_of_le hs.2.1, fun e he => ?_⟩, fun w g hs => ⟨p7 w g hs.1, Nat.le_succ_of_le hs.2.1, fun e he => ?_⟩⟩
  · have hne : e.1 ≠ zn w + 1 := by have := hs.2.1; have := zKT_le e he; omega
    obtain ⟨e1, e2⟩ := hs.2.2 e he
    exact ⟨(if_neg hne).trans e1, (if_neg hne).trans e2⟩
  · have hne : e.1 ≠ zn w + 1 := by have := hs.2.1; have := zKT_le e he; omega
    obtain ⟨e1, e2⟩ := hs.2.2 e he
    exact ⟨(if_neg hne).trans e1, (if_neg hne).trans e2⟩
theorem zBase_0 (L : Nat) (xs : Nat → Int) : zBase L xs (zo L xs zC) := by
  have h := zc2_all.2.1
  have h2 := zKT_ok
  revert h h2
  unfold zBase
  generalize zC = wC
  intro h h2
  refine ⟨⟨rfl, rfl, fun j => rfl⟩, Nat.le_of_eq h.symm, fun e he => ?_⟩
  have h3 := zKT_le e he
  rw [zo_k (by omega), zo_l (by omega)]
  exact h2 e he
theorem zk_at_1 {L : Nat} {xs : Nat → Int} {w : zW} (hb : zBase L xs w) : zk w 1 = 0 := (hb.2.2 (1, 0, 6) (List.mem_of_getElem? (i := 0) rfl)).1
theorem zk_at_2 {L : Nat} {xs : Nat → Int} {w : zW} (hb : zBase L xs w) : zk w 2 = 15 := (hb.2.2 (2, 15, 2) (List.mem_of_getElem? (i := 1) rfl)).1
theorem zl_at_2 {L : Nat} {xs : Nat → Int} {w : zW} (hb : zBase L xs w) : zl w 2 = 2 := (hb.2.2 (2, 15, 2) (List.mem_of_getElem? (i := 1) rfl)).2
theorem zk_at_3 {L : Nat} {xs : Nat → Int} {w : zW} (hb : zBase L xs w) : zk w 3 = 16 := (hb.2.2 (3, 16, 7) (List.mem_of_getElem? (i := 2) rfl)).1
theorem zl_at_3 {L : Nat} {xs : Nat → Int} {w : zW} (hb : zBase L xs w) : zl w 3 = 7 := (hb.2.2 (3, 16, 7) (List.mem_of_getElem? (i := 2) rfl)).2
theorem zk_at_4 {L : Nat} {xs : Nat → Int} {w : zW} (hb : zBase L xs w) : zk w 4 = 17 := (hb.2.2 (4, 17, 7) (List.mem_of_getElem? (i := 3) rfl)).1
theorem zl_at_4 {L : Nat} {xs : Nat → Int} {w : zW} (hb : zBase L xs w) : zl w 4 = 7 := (hb.2.2 (4, 17, 7) (List.mem_of_getElem? (i := 3) rfl)).2
theorem zk_at_5 {L : Nat} {xs : Nat → Int} {w : zW} (hb : zBase L xs w) : zk w 5 = 1 := (hb.2.2 (5, 1, 11) (List.mem_of_getElem? (i := 4) rfl)).1
theorem zk_at_6 {L : Nat} {xs : Nat → Int} {w : zW} (hb : zBase L xs w) : zk w 6 = 18 := (hb.2.2 (6, 18, 64) (List.mem_of_getElem? (i := 5) rfl)).1
theorem zl_at_6 {L : Nat} {xs : Nat → Int} {w : zW} (hb : zBase L xs w) : zl w 6 = 64 := (hb.2.2 (6, 18, 64) (List.mem_of_getElem? (i := 5) rfl)).2
theorem zk_at_7 {L : Nat} {xs : Nat → Int} {w : zW} (hb : zBase L xs w) : zk w 7 = 2 := (hb.2.2 (7, 2, 9) (List.mem_of_getElem? (i := 6) rfl)).1
theorem zk_at_8 {L : Nat} {xs : Nat → Int} {w : zW} (hb : zBase L xs w) : zk w 8 = 19 := (hb.2.2 (8, 19, 8) (List.mem_of_getElem? (i := 7) rfl)).1
theorem zl_at_8 {L : Nat} {xs : Nat → Int} {w : zW} (hb : zBase L xs w) : zl w 8 = 8 := (hb.2.2 (8, 19, 8) (List.mem_of_getElem? (i := 7) rfl)).2
theorem zk_at_9 {L : Nat} {xs : Nat → Int} {w : zW} (hb : zBase L xs w) : zk w 9 = 3 := (hb.2.2 (9, 3, 5) (List.mem_of_getElem? (i := 8) rfl)).1
theorem zk_at_10 {L : Nat} {xs : Nat → Int} {w : zW} (hb : zBase L xs w) : zk w 10 = 12 := (hb.2.2 (10, 12, 8) (List.mem_of_getElem? (i := 9) rfl)).1
theorem zl_at_10 {L : Nat} {xs : Nat → Int} {w : zW} (hb : zBase L xs w) : zl w 10 = 8 := (hb.2.2 (10, 12, 8) (List.mem_of_getElem? (i := 9) rfl)).2
theorem zk_at_11 {L : Nat} {xs : Nat → Int} {w : zW} (hb : zBase L xs w) : zk w 11 = 3 := (hb.2.2 (11, 3, 5) (List.mem_of_getElem? (i := 10) rfl)).1
theorem zk_at_12 {L : Nat} {xs : Nat → Int} {w : zW} (hb : zBase L xs w) : zk w 12 = 12 := (hb.2.2 (12, 12, 8) (List.mem_of_getElem? (i := 11) rfl)).1
theorem zl_at_12 {L : Nat} {xs : Nat → Int} {w : zW} (hb : zBase L xs w) : zl w 12 = 8 := (hb.2.2 (12, 12, 8) (List.mem_of_getElem? (i := 11) rfl)).2
theorem zk_at_13 {L : Nat} {xs : Nat → Int} {w : zW} (hb : zBase L xs w) : zk w 13 = 3 := (hb.2.2 (13, 3, 5) (List.mem_of_getElem? (i := 12) rfl)).1
theorem zk_at_14 {L : Nat} {xs : Nat → Int} {w : zW} (hb : zBase L xs w) : zk w 14 = 12 := (hb.2.2 (14, 12, 8) (List.mem_of_getElem? (i := 13) rfl)).1
theorem zl_at_14 {L : Nat} {xs : Nat → Int} {w : zW} (hb : zBase L xs w) : zl w 14 = 8 := (hb.2.2 (14, 12, 8) (List.mem_of_getElem? (i := 13) rfl)).2
theorem zk_at_15 {L : Nat} {xs : Nat → Int} {w : zW} (hb : zBase L xs w) : zk w 15 = 3 := (hb.2.2 (15, 3, 5) (List.mem_of_getElem? (i := 14) rfl)).1
theorem zk_at_16 {L : Nat} {xs : Nat → Int} {w : zW} (hb : zBase L xs w) : zk w 16 = 12 := (hb.2.2 (16, 12, 8) (List.mem_of_getElem? (i := 15) rfl)).1
theorem zl_at_16 {L : Nat} {xs : Nat → Int} {w : zW} (hb : zBase L xs w) : zl w 16 = 8 := (hb.2.2 (16, 12, 8) (List.mem_of_getElem? (i := 15) rfl)).2
theorem zk_at_17 {L : Nat} {xs : Nat → Int} {w : zW} (hb : zBase L xs w) : zk w 17 = 3 := (hb.2.2 (17, 3, 5) (List.mem_of_getElem? (i := 16) rfl)).1
theorem zk_at_18 {L : Nat} {xs : Nat → Int} {w : zW} (hb : zBase L xs w) : zk w 18 = 12 := (hb.2.2 (18, 12, 8) (List.mem_of_getElem? (i := 17) rfl)).1
theorem zl_at_18 {L : Nat} {xs : Nat → Int} {w : zW} (hb : zBase L xs w) : zl w 18 = 8 := (hb.2.2 (18, 12, 8) (List.mem_of_getElem? (i := 17) rfl)).2
theorem zk_at_19 {L : Nat} {xs : Nat → Int} {w : zW} (hb : zBase L xs w) : zk w 19 = 3 := (hb.2.2 (19, 3, 5) (List.mem_of_getElem? (i := 18) rfl)).1
theorem zk_at_20 {L : Nat} {xs : Nat → Int} {w : zW} (hb : zBase L xs w) : zk w 20 = 12 := (hb.2.2 (20, 12, 8) (List.mem_of_getElem? (i := 19) rfl)).1
theorem zl_at_20 {L : Nat} {xs : Nat → Int} {w : zW} (hb : zBase L xs w) : zl w 20 = 8 := (hb.2.2 (20, 12, 8) (List.mem_of_getElem? (i := 19) rfl)).2
theorem zk_at_21 {L : Nat} {xs : Nat → Int} {w : zW} (hb : zBase L xs w) : zk w 21 = 3 := (hb.2.2 (21, 3, 5) (List.mem_of_getElem? (i := 20) rfl)).1
theorem zk_at_22 {L : Nat} {xs : Nat → Int} {w : zW} (hb : zBase L xs w) : zk w 22 = 12 := (hb.2.2 (22, 12, 8) (List.mem_of_getElem? (i := 21) rfl)).1
theorem zl_at_22 {L : Nat} {xs : Nat → Int} {w : zW} (hb : zBase L xs w) : zl w 22 = 8 := (hb.2.2 (22, 12, 8) (List.mem_of_getElem? (i := 21) rfl)).2
theorem zk_at_23 {L : Nat} {xs : Nat → Int} {w : zW} (hb : zBase L xs w) : zk w 23 = 3 := (hb.2.2 (23, 3, 5) (List.mem_of_getElem? (i := 22) rfl)).1
theorem zk_at_24 {L : Nat} {xs : Nat → Int} {w : zW} (hb : zBase L xs w) : zk w 24 = 12 := (hb.2.2 (24, 12, 8) (List.mem_of_getElem? (i := 23) rfl)).1
theorem zl_at_24 {L : Nat} {xs : Nat → Int} {w : zW} (hb : zBase L xs w) : zl w 24 = 8 := (hb.2.2 (24, 12, 8) (List.mem_of_getElem? (i := 23) rfl)).2
theorem zk_at_25 {L : Nat} {xs : Nat → Int} {w : zW} (hb : zBase L xs w) : zk w 25 = 12 := (hb.2.2 (25, 12, 32) (List.mem_of_getElem? (i := 24) rfl)).1
theorem zl_at_25 {L : Nat} {xs : Nat → Int} {w : zW} (hb : zBase L xs w) : zl w 25 = 32 := (hb.2.2 (25, 12, 32) (List.mem_of_getElem? (i := 24) rfl)).2
theorem zk_at_26 {L : Nat} {xs : Nat → Int} {w : zW} (hb : zBase L xs w) : zk w 26 = 12 := (hb.2.2 (26, 12, 16) (List.mem_of_getElem? (i := 25) rfl)).1
theorem zl_at_26 {L : Nat} {xs : Nat → Int} {w : zW} (hb : zBase L xs w) : zl w 26 = 16 := (hb.2.2 (26, 12, 16) (List.mem_of_getElem? (i := 25) rfl)).2
theorem zk_at_27 {L : Nat} {xs : Nat → Int} {w : zW} (hb : zBase L xs w) : zk w 27 = 12 := (hb.2.2 (27, 12, 16) (List.mem_of_getElem? (i := 26) rfl)).1
theorem zl_at_27 {L : Nat} {xs : Nat → Int} {w : zW} (hb : zBase L xs w) : zl w 27 = 16 := (hb.2.2 (27, 12, 16) (List.mem_of_getElem? (i := 26) rfl)).2
theorem zk_at_28 {L : Nat} {xs : Nat → Int} {w : zW} (hb : zBase L xs w) : zk w 28 = 12 := (hb.2.2 (28, 12, 16) (List.mem_of_getElem? (i := 27) rfl)).1
theorem zl_at_28 {L : Nat} {xs : Nat → Int} {w : zW} (hb : zBase L xs w) : zl w 28 = 16 := (hb.2.2 (28, 12, 16) (List.mem_of_getElem? (i := 27) rfl)).2
theorem zk_at_29 {L : Nat} {xs : Nat → Int} {w : zW} (hb : zBase L xs w) : zk w 29 = 20 := (hb.2.2 (29, 20, 40) (List.mem_of_getElem? (i := 28) rfl)).1
theorem zl_at_29 {L : Nat} {xs : Nat → Int} {w : zW} (hb : zBase L xs w) : zl w 29 = 40 := (hb.2.2 (29, 20, 40) (List.mem_of_getElem? (i := 28) rfl)).2
theorem zk_at_30 {L : Nat} {xs : Nat → Int} {w : zW} (hb : zBase L xs w) : zk w 30 = 4 := (hb.2.2 (30, 4, 13) (List.mem_of_getElem? (i := 29) rfl)).1
theorem zk_at_31 {L : Nat} {xs : Nat → Int} {w : zW} (hb : zBase L xs w) : zk w 31 = 18 := (hb.2.2 (31, 18, 64) (List.mem_of_getElem? (i := 30) rfl)).1
theorem zl_at_31 {L : Nat} {xs : Nat → Int} {w : zW} (hb : zBase L xs w) : zl w 31 = 64 := (hb.2.2 (31, 18, 64) (List.mem_of_getElem? (i := 30) rfl)).2
theorem zk_at_32 {L : Nat} {xs : Nat → Int} {w : zW} (hb : zBase L xs w) : zk w 32 = 2 := (hb.2.2 (32, 2, 9) (List.mem_of_getElem? (i := 31) rfl)).1
theorem zk_at_33 {L : Nat} {xs : Nat → Int} {w : zW} (hb : zBase L xs w) : zk w 33 = 19 := (hb.2.2 (33, 19, 8) (List.mem_of_getElem? (i := 32) rfl)).1
theorem zl_at_33 {L : Nat} {xs : Nat → Int} {w : zW} (hb : zBase L xs w) : zl w 33 = 8 := (hb.2.2 (33, 19, 8) (List.mem_of_getElem? (i := 32) rfl)).2
theorem zk_at_34 {L : Nat} {xs : Nat → Int} {w : zW} (hb : zBase L xs w) : zk w 34 = 3 := (hb.2.2 (34, 3, 5) (List.mem_of_getElem? (i := 33) rfl)).1
theorem zk_at_35 {L : Nat} {xs : Nat → Int} {w : zW} (hb : zBase L xs w) : zk w 35 = 12 := (hb.2.2 (35, 12, 8) (List.mem_of_getElem? (i := 34) rfl)).1
theorem zl_at_35 {L : Nat} {xs : Nat → Int} {w : zW} (hb : zBase L xs w) : zl w 35 = 8 := (hb.2.2 (35, 12, 8) (List.mem_of_getElem? (i := 34) rfl)).2
theorem zk_at_36 {L : Nat} {xs : Nat → Int} {w : zW} (hb : zBase L xs w) : zk w 36 = 3 := (hb.2.2 (36, 3, 5) (List.mem_of_getElem? (i := 35) rfl)).1
theorem zk_at_37 {L : Nat} {xs : Nat → Int} {w : zW} (hb : zBase L xs w) : zk w 37 = 12 := (hb.2.2 (37, 12, 8) (List.mem_of_getElem? (i := 36) rfl)).1
theorem zl_at_37 {L : Nat} {xs : Nat → Int} {w : zW} (hb : zBase L xs w) : zl w 37 = 8 := (hb.2.2 (37, 12, 8) (List.mem_of_getElem? (i := 36) rfl)).2
theorem zk_at_38 {L : Nat} {xs : Nat → Int} {w : zW} (hb : zBase L xs w) : zk w 38 = 3 := (hb.2.2 (38, 3, 5) (List.mem_of_getElem? (i := 37) rfl)).1
theorem zk_at_39 {L : Nat} {xs : Nat → Int} {w : zW} (hb : zBase L xs w) : zk w 39 = 12 := (hb.2.2 (39, 12, 8) (List.mem_of_getElem? (i := 38) rfl)).1
theorem zl_at_39 {L : Nat} {xs : Nat → Int} {w : zW} (hb : zBase L xs w) : zl w 39 = 8 := (hb.2.2 (39, 12, 8) (List.mem_of_getElem? (i := 38) rfl)).2
theorem zk_at_40 {L : Nat} {xs : Nat → Int} {w : zW} (hb : zBase L xs w) : zk w 40 = 3 := (hb.2.2 (40, 3, 5) (List.mem_of_getElem? (i := 39) rfl)).1
theorem zk_at_41 {L : Nat} {xs : Nat → Int} {w : zW} (hb : zBase L xs w) : zk w 41 = 12 := (hb.2.2 (41, 12, 8) (List.mem_of_getElem? (i := 40) rfl)).1
theorem zl_at_41 {L : Nat} {xs : Nat → Int} {w : zW} (hb : zBase L xs w) : zl w 41 = 8 := (hb.2.2 (41, 12, 8) (List.mem_of_getElem? (i := 40) rfl)).2
theorem zk_at_42 {L : Nat} {xs : Nat → Int} {w : zW} (hb : zBase L xs w) : zk w 42 = 3 := (hb.2.2 (42, 3, 5) (List.mem_of_getElem? (i := 41) rfl)).1
theorem zk_at_43 {L : Nat} {xs : Nat → Int} {w : zW} (hb : zBase L xs w) : zk w 43 = 12 := (hb.2.2 (43, 12, 8) (List.mem_of_getElem? (i := 42) rfl)).1
theorem zl_at_43 {L : Nat} {xs : Nat → Int} {w : zW} (hb : zBase L xs w) : zl w 43 = 8 := (hb.2.2 (43, 12, 8) (List.mem_of_getElem? (i := 42) rfl)).2
theorem zk_at_44 {L : Nat} {xs : Nat → Int} {w : zW} (hb : zBase L xs w) : zk w 44 = 3 := (hb.2.2 (44, 3, 5) (List.mem_of_getElem? (i := 43) rfl)).1
theorem zk_at_45 {L : Nat} {xs : Nat → Int} {w : zW} (hb : zBase L xs w) : zk w 45 = 12 := (hb.2.2 (45, 12, 8) (List.mem_of_getElem? (i := 44) rfl)).1
theorem zl_at_45 {L : Nat} {xs : Nat → Int} {w : zW} (hb : zBase L xs w) : zl w 45 = 8 := (hb.2.2 (45, 12, 8) (List.mem_of_getElem? (i := 44) rfl)).2
theorem zk_at_46 {L : Nat} {xs : Nat → Int} {w : zW} (hb : zBase L xs w) : zk w 46 = 3 := (hb.2.2 (46, 3, 5) (List.mem_of_getElem? (i := 45) rfl)).1
theorem zk_at_47 {L : Nat} {xs : Nat → Int} {w : zW} (hb : zBase L xs w) : zk w 47 = 12 := (hb.2.2 (47, 12, 8) (List.mem_of_getElem? (i := 46) rfl)).1
theorem zl_at_47 {L : Nat} {xs : Nat → Int} {w : zW} (hb : zBase L xs w) : zl w 47 = 8 := (hb.2.2 (47, 12, 8) (List.mem_of_getElem? (i := 46) rfl)).2
theorem zk_at_48 {L : Nat} {xs : Nat → Int} {w : zW} (hb : zBase L xs w) : zk w 48 = 3 := (hb.2.2 (48, 3, 5) (List.mem_of_getElem? (i := 47) rfl)).1
theorem zk_at_49 {L : Nat} {xs : Nat → Int} {w : zW} (hb : zBase L xs w) : zk w 49 = 12 := (hb.2.2 (49, 12, 8) (List.mem_of_getElem? (i := 48) rfl)).1
theorem zl_at_49 {L : Nat} {xs : Nat → Int} {w : zW} (hb : zBase L xs w) : zl w 49 = 8 := (hb.2.2 (49, 12, 8) (List.mem_of_getElem? (i := 48) rfl)).2
theorem zk_at_50 {L : Nat} {xs : Nat → Int} {w : zW} (hb : zBase L xs w) : zk w 50 = 12 := (hb.2.2 (50, 12, 24) (List.mem_of_getElem? (i := 49) rfl)).1
theorem zl_at_50 {L : Nat} {xs : Nat → Int} {w : zW} (hb : zBase L xs w) : zl w 50 = 24 := (hb.2.2 (50, 12, 24) (List.mem_of_getElem? (i := 49) rfl)).2
theorem zk_at_51 {L : Nat} {xs : Nat → Int} {w : zW} (hb : zBase L xs w) : zk w 51 = 12 := (hb.2.2 (51, 12, 32) (List.mem_of_getElem? (i := 50) rfl)).1
theorem zl_at_51 {L : Nat} {xs : Nat → Int} {w : zW} (hb : zBase L xs w) : zl w 51 = 32 := (hb.2.2 (51, 12, 32) (List.mem_of_getElem? (i := 50) rfl)).2
theorem zk_at_52 {L : Nat} {xs : Nat → Int} {w : zW} (hb : zBase L xs w) : zk w 52 = 2 := (hb.2.2 (52, 2, 9) (List.mem_of_getElem? (i := 51) rfl)).1
theorem zk_at_53 {L : Nat} {xs : Nat → Int} {w : zW} (hb : zBase L xs w) : zk w 53 = 19 := (hb.2.2 (53, 19, 8) (List.mem_of_getElem? (i := 52) rfl)).1
theorem zl_at_53 {L : Nat} {xs : Nat → Int} {w : zW} (hb : zBase L xs w) : zl w 53 = 8 := (hb.2.2 (53, 19, 8) (List.mem_of_getElem? (i := 52) rfl)).2
theorem zk_at_54 {L : Nat} {xs : Nat → Int} {w : zW} (hb : zBase L xs w) : zk w 54 = 3 := (hb.2.2 (54, 3, 5) (List.mem_of_getElem? (i := 53) rfl)).1
theorem zk_at_55 {L : Nat} {xs : Nat → Int} {w : zW} (hb : zBase L xs w) : zk w 55 = 12 := (hb.2.2 (55, 12, 8) (List.mem_of_getElem? (i := 54) rfl)).1
theorem zl_at_55 {L : Nat} {xs : Nat → Int} {w : zW} (hb : zBase L xs w) : zl w 55 = 8 := (hb.2.2 (55, 12, 8) (List.mem_of_getElem? (i := 54) rfl)).2
theorem zk_at_56 {L : Nat} {xs : Nat → Int} {w : zW} (hb : zBase L xs w) : zk w 56 = 3 := (hb.2.2 (56, 3, 5) (List.mem_of_getElem? (i := 55) rfl)).1
theorem zk_at_57 {L : Nat} {xs : Nat → Int} {w : zW} (hb : zBase L xs w) : zk w 57 = 12 := (hb.2.2 (57, 12, 8) (List.mem_of_getElem? (i := 56) rfl)).1
theorem zl_at_57 {L : Nat} {xs : Nat → Int} {w : zW} (hb : zBase L xs w) : zl w 57 = 8 := (hb.2.2 (57, 12, 8) (List.mem_of_getElem? (i := 56) rfl)).2
theorem zk_at_58 {L : Nat} {xs : Nat → Int} {w : zW} (hb : zBase L xs w) : zk w 58 = 3 := (hb.2.2 (58, 3, 5) (List.mem_of_getElem? (i := 57) rfl)).1
theorem zk_at_59 {L : Nat} {xs : Nat → Int} {w : zW} (hb : zBase L xs w) : zk w 59 = 12 := (hb.2.2 (59, 12, 8) (List.mem_of_getElem? (i := 58) rfl)).1
theorem zl_at_59 {L : Nat} {xs : Nat → Int} {w : zW} (hb : zBase L xs w) : zl w 59 = 8 := (hb.2.2 (59, 12, 8) (List.mem_of_getElem? (i := 58) rfl)).2
theorem zk_at_60 {L : Nat} {xs : Nat → Int} {w : zW} (hb : zBase L xs w) : zk w 60 = 3 := (hb.2.2 (60, 3, 5) (List.mem_of_getElem? (i := 59) rfl)).1
theorem zk_at_61 {L : Nat} {xs : Nat → Int} {w : zW} (hb : zBase L xs w) : zk w 61 = 12 := (hb.2.2 (61, 12, 8) (List.mem_of_getElem? (i := 60) rfl)).1
theorem zl_at_61 {L : Nat} {xs : Nat → Int} {w : zW} (hb : zBase L xs w) : zl w 61 = 8 := (hb.2.2 (61, 12, 8) (List.mem_of_getElem? (i := 60) rfl)).2
theorem zk_at_62 {L : Nat} {xs : Nat → Int} {w : zW} (hb : zBase L xs w) : zk w 62 = 3 := (hb.2.2 (62, 3, 5) (List.mem_of_getElem? (i := 61) rfl)).1
theorem zk_at_63 {L : Nat} {xs : Nat → Int} {w : zW} (hb : zBase L xs w) : zk w 63 = 12 := (hb.2.2 (63, 12, 8) (List.mem_of_getElem? (i := 62) rfl)).1
theorem zl_at_63 {L : Nat} {xs : Nat → Int} {w : zW} (hb : zBase L xs w) : zl w 63 = 8 := (hb.2.2 (63, 12, 8) (List.mem_of_getElem? (i := 62) rfl)).2
theorem zk_at_64 {L : Nat} {xs : Nat → Int} {w : zW} (hb : zBase L xs w) : zk w 64 = 3 := (hb.2.2 (64, 3, 5) (List.mem_of_getElem? (i := 63) rfl)).1
theorem zk_at_65 {L : Nat} {xs : Nat → Int} {w : zW} (hb : zBase L xs w) : zk w 65 = 12 := (hb.2.2 (65, 12, 8) (List.mem_of_getElem? (i := 64) rfl)).1
theorem zl_at_65 {L : Nat} {xs : Nat → Int} {w : zW} (hb : zBase L xs w) : zl w 65 = 8 := (hb.2.2 (65, 12, 8) (List.mem_of_getElem? (i := 64) rfl)).2
theorem zk_at_66 {L : Nat} {xs : Nat → Int} {w : zW} (hb : zBase L xs w) : zk w 66 = 3 := (hb.2.2 (66, 3, 5) (List.mem_of_getElem? (i := 65) rfl)).1
theorem zk_at_67 {L : Nat} {xs : Nat → Int} {w : zW} (hb : zBase L xs w) : zk w 67 = 12 := (hb.2.2 (67, 12, 8) (List.mem_of_getElem? (i := 66) rfl)).1
theorem zl_at_67 {L : Nat} {xs : Nat → Int} {w : zW} (hb : zBase L xs w) : zl w 67 = 8 := (hb.2.2 (67, 12, 8) (List.mem_of_getElem? (i := 66) rfl)).2
theorem zk_at_68 {L : Nat} {xs : Nat → Int} {w : zW} (hb : zBase L xs w) : zk w 68 = 3 := (hb.2.2 (68, 3, 5) (List.mem_of_getElem? (i := 67) rfl)).1
theorem zk_at_69 {L : Nat} {xs : Nat → Int} {w : zW} (hb : zBase L xs w) : zk w 69 = 12 := (hb.2.2 (69, 12, 8) (List.mem_of_getElem? (i := 68) rfl)).1
theorem zl_at_69 {L : Nat} {xs : Nat → Int} {w : zW} (hb : zBase L xs w) : zl w 69 = 8 := (hb.2.2 (69, 12, 8) (List.mem_of_getElem? (i := 68) rfl)).2
theorem zk_at_70 {L : Nat} {xs : Nat → Int} {w : zW} (hb : zBase L xs w) : zk w 70 = 5 := (hb.2.2 (70, 5, 7) (List.mem_of_getElem? (i := 69) rfl)).1
theorem zk_at_71 {L : Nat} {xs : Nat → Int} {w : zW} (hb : zBase L xs w) : zk w 71 = 21 := (hb.2.2 (71, 21, 7) (List.mem_of_getElem? (i := 70) rfl)).1
theorem zl_at_71 {L : Nat} {xs : Nat → Int} {w : zW} (hb : zBase L xs w) : zl w 71 = 7 := (hb.2.2 (71, 21, 7) (List.mem_of_getElem? (i := 70) rfl)).2
theorem zk_at_72 {L : Nat} {xs : Nat → Int} {w : zW} (hb : zBase L xs w) : zk w 72 = 6 := (hb.2.2 (72, 6, 8) (List.mem_of_getElem? (i := 71) rfl)).1
theorem zk_at_73 {L : Nat} {xs : Nat → Int} {w : zW} (hb : zBase L xs w) : zk w 73 = 7 := (hb.2.2 (73, 7, 2) (List.mem_of_getElem? (i := 72) rfl)).1
theorem zk_at_74 {L : Nat} {xs : Nat → Int} {w : zW} (hb : zBase L xs w) : zk w 74 = 12 := (hb.2.2 (74, 12, 13) (List.mem_of_getElem? (i := 73) rfl)).1
theorem zl_at_74 {L : Nat} {xs : Nat → Int} {w : zW} (hb : zBase L xs w) : zl w 74 = 13 := (hb.2.2 (74, 12, 13) (List.mem_of_getElem? (i := 73) rfl)).2
theorem zk_at_75 {L : Nat} {xs : Nat → Int} {w : zW} (hb : zBase L xs w) : zk w 75 = 7 := (hb.2.2 (75, 7, 2) (List.mem_of_getElem? (i := 74) rfl)).1
theorem zk_at_76 {L : Nat} {xs : Nat → Int} {w : zW} (hb : zBase L xs w) : zk w 76 = 12 := (hb.2.2 (76, 12, 13) (List.mem_of_getElem? (i := 75) rfl)).1
theorem zl_at_76 {L : Nat} {xs : Nat → Int} {w : zW} (hb : zBase L xs w) : zl w 76 = 13 := (hb.2.2 (76, 12, 13) (List.mem_of_getElem? (i := 75) rfl)).2
theorem zk_at_77 {L : Nat} {xs : Nat → Int} {w : zW} (hb : zBase L xs w) : zk w 77 = 5 := (hb.2.2 (77, 5, 7) (List.mem_of_getElem? (i := 76) rfl)).1
theorem zk_at_78 {L : Nat} {xs : Nat → Int} {w : zW} (hb : zBase L xs w) : zk w 78 = 21 := (hb.2.2 (78, 21, 7) (List.mem_of_getElem? (i := 77) rfl)).1
theorem zl_at_78 {L : Nat} {xs : Nat → Int} {w : zW} (hb : zBase L xs w) : zl w 78 = 7 := (hb.2.2 (78, 21, 7) (List.mem_of_getElem? (i := 77) rfl)).2
theorem zk_at_79 {L : Nat} {xs : Nat → Int} {w : zW} (hb : zBase L xs w) : zk w 79 = 6 := (hb.2.2 (79, 6, 8) (List.mem_of_getElem? (i := 78) rfl)).1
theorem zk_at_80 {L : Nat} {xs : Nat → Int} {w : zW} (hb : zBase L xs w) : zk w 80 = 7 := (hb.2.2 (80, 7, 2) (List.mem_of_getElem? (i := 79) rfl)).1
theorem zk_at_81 {L : Nat} {xs : Nat → Int} {w : zW} (hb : zBase L xs w) : zk w 81 = 12 := (hb.2.2 (81, 12, 13) (List.mem_of_getElem? (i := 80) rfl)).1
theorem zl_at_81 {L : Nat} {xs : Nat → Int} {w : zW} (hb : zBase L xs w) : zl w 81 = 13 := (hb.2.2 (81, 12, 13) (List.mem_of_getElem? (i := 80) rfl)).2
theorem zk_at_82 {L : Nat} {xs : Nat → Int} {w : zW} (hb : zBase L xs w) : zk w 82 = 7 := (hb.2.2 (82, 7, 2) (List.mem_of_getElem? (i := 81) rfl)).1
theorem zk_at_83 {L : Nat} {xs : Nat → Int} {w : zW} (hb : zBase L xs w) : zk w 83 = 12 := (hb.2.2 (83, 12, 13) (List.mem_of_getElem? (i := 82) rfl)).1
theorem zl_at_83 {L : Nat} {xs : Nat → Int} {w : zW} (hb : zBase L xs w) : zl w 83 = 13 := (hb.2.2 (83, 12, 13) (List.mem_of_getElem? (i := 82) rfl)).2
theorem zk_at_84 {L : Nat} {xs : Nat → Int} {w : zW} (hb : zBase L xs w) : zk w 84 = 8 := (hb.2.2 (84, 8, 12) (List.mem_of_getElem? (i := 83) rfl)).1
theorem zk_at_85 {L : Nat} {xs : Nat → Int} {w : zW} (hb : zBase L xs w) : zk w 85 = 18 := (hb.2.2 (85, 18, 64) (List.mem_of_getElem? (i := 84) rfl)).1
theorem zl_at_85 {L : Nat} {xs : Nat → Int} {w : zW} (hb : zBase L xs w) : zl w 85 = 64 := (hb.2.2 (85, 18, 64) (List.mem_of_getElem? (i := 84) rfl)).2
theorem zk_at_86 {L : Nat} {xs : Nat → Int} {w : zW} (hb : zBase L xs w) : zk w 86 = 2 := (hb.2.2 (86, 2, 9) (List.mem_of_getElem? (i := 85) rfl)).1
theorem zk_at_87 {L : Nat} {xs : Nat → Int} {w : zW} (hb : zBase L xs w) : zk w 87 = 19 := (hb.2.2 (87, 19, 8) (List.mem_of_getElem? (i := 86) rfl)).1
theorem zl_at_87 {L : Nat} {xs : Nat → Int} {w : zW} (hb : zBase L xs w) : zl w 87 = 8 := (hb.2.2 (87, 19, 8) (List.mem_of_getElem? (i := 86) rfl)).2
theorem zk_at_88 {L : Nat} {xs : Nat → Int} {w : zW} (hb : zBase L xs w) : zk w 88 = 3 := (hb.2.2 (88, 3, 5) (List.mem_of_getElem? (i := 87) rfl)).1
theorem zk_at_89 {L : Nat} {xs : Nat → Int} {w : zW} (hb : zBase L xs w) : zk w 89 = 12 := (hb.2.2 (89, 12, 8) (List.mem_of_getElem? (i := 88) rfl)).1
theorem zl_at_89 {L : Nat} {xs : Nat → Int} {w : zW} (hb : zBase L xs w) : zl w 89 = 8 := (hb.2.2 (89, 12, 8) (List.mem_of_getElem? (i := 88) rfl)).2
theorem zk_at_90 {L : Nat} {xs : Nat → Int} {w : zW} (hb : zBase L xs w) : zk w 90 = 3 := (hb.2.2 (90, 3, 5) (List.mem_of_getElem? (i := 89) rfl)).1
theorem zk_at_91 {L : Nat} {xs : Nat → Int} {w : zW} (hb : zBase L xs w) : zk w 91 = 12 := (hb.2.2 (91, 12, 8) (List.mem_of_getElem? (i := 90) rfl)).1
theorem zl_at_91 {L : Nat} {xs : Nat → Int} {w : zW} (hb : zBase L xs w) : zl w 91 = 8 := (hb.2.2 (91, 12, 8) (List.mem_of_getElem? (i := 90) rfl)).2
theorem zk_at_92 {L : Nat} {xs : Nat → Int} {w : zW} (hb : zBase L xs w) : zk w 92 = 3 := (hb.2.2 (92, 3, 5) (List.mem_of_getElem? (i := 91) rfl)).1
theorem zk_at_93 {L : Nat} {xs : Nat → Int} {w : zW} (hb : zBase L xs w) : zk w 93 = 12 := (hb.2.2 (93, 12, 8) (List.mem_of_getElem? (i := 92) rfl)).1
theorem zl_at_93 {L : Nat} {xs : Nat → Int} {w : zW} (hb : zBase L xs w) : zl w 93 = 8 := (hb.2.2 (93, 12, 8) (List.mem_of_getElem? (i := 92) rfl)).2
theorem zk_at_94 {L : Nat} {xs : Nat → Int} {w : zW} (hb : zBase L xs w) : zk w 94 = 3 := (hb.2.2 (94, 3, 5) (List.mem_of_getElem? (i := 93) rfl)).1
theorem zk_at_95 {L : Nat} {xs : Nat → Int} {w : zW} (hb : zBase L xs w) : zk w 95 = 12 := (hb.2.2 (95, 12, 8) (List.mem_of_getElem? (i := 94) rfl)).1
theorem zl_at_95 {L : Nat} {xs : Nat → Int} {w : zW} (hb : zBase L xs w) : zl w 95 = 8 := (hb.2.2 (95, 12, 8) (List.mem_of_getElem? (i := 94) rfl)).2
theorem zk_at_96 {L : Nat} {xs : Nat → Int} {w : zW} (hb : zBase L xs w) : zk w 96 = 3 := (hb.2.2 (96, 3, 5) (List.mem_of_getElem? (i := 95) rfl)).1
theorem zk_at_97 {L : Nat} {xs : Nat → Int} {w : zW} (hb : zBase L xs w) : zk w 97 = 12 := (hb.2.2 (97, 12, 8) (List.mem_of_getElem? (i := 96) rfl)).1
theorem zl_at_97 {L : Nat} {xs : Nat → Int} {w : zW} (hb : zBase L xs w) : zl w 97 = 8 := (hb.2.2 (97, 12, 8) (List.mem_of_getElem? (i := 96) rfl)).2
theorem zk_at_98 {L : Nat} {xs : Nat → Int} {w : zW} (hb : zBase L xs w) : zk w 98 = 3 := (hb.2.2 (98, 3, 5) (List.mem_of_getElem? (i := 97) rfl)).1
theorem zk_at_99 {L : Nat} {xs : Nat → Int} {w : zW} (hb : zBase L xs w) : zk w 99 = 12 := (hb.2.2 (99, 12, 8) (List.mem_of_getElem? (i := 98) rfl)).1
theorem zl_at_99 {L : Nat} {xs : Nat → Int} {w : zW} (hb : zBase L xs w) : zl w 99 = 8 := (hb.2.2 (99, 12, 8) (List.mem_of_getElem? (i := 98) rfl)).2
theorem zk_at_100 {L : Nat} {xs : Nat → Int} {w : zW} (hb : zBase L xs w) : zk w 100 = 3 := (hb.2.2 (100, 3, 5) (List.mem_of_getElem? (i := 99) rfl)).1
theorem zk_at_101 {L : Nat} {xs : Nat → Int} {w : zW} (hb : zBase L xs w) : zk w 101 = 12 := (hb.2.2 (101, 12, 8) (List.mem_of_getElem? (i := 100) rfl)).1
theorem zl_at_101 {L : Nat} {xs : Nat → Int} {w : zW} (hb : zBase L xs w) : zl w 101 = 8 := (hb.2.2 (101, 12, 8) (List.mem_of_getElem? (i := 100) rfl)).2
theorem zk_at_102 {L : Nat} {xs : Nat → Int} {w : zW} (hb : zBase L xs w) : zk w 102 = 3 := (hb.2.2 (102, 3, 5) (List.mem_of_getElem? (i := 101) rfl)).1
theorem zk_at_103 {L : Nat} {xs : Nat → Int} {w : zW} (hb : zBase L xs w) : zk w 103 = 12 := (hb.2.2 (103, 12, 8) (List.mem_of_getElem? (i := 102) rfl)).1
theorem zl_at_103 {L : Nat} {xs : Nat → Int} {w : zW} (hb : zBase L xs w) : zl w 103 = 8 := (hb.2.2 (103, 12, 8) (List.mem_of_getElem? (i := 102) rfl)).2
theorem zk_at_104 {L : Nat} {xs : Nat → Int} {w : zW} (hb : zBase L xs w) : zk w 104 = 12 := (hb.2.2 (104, 12, 24) (List.mem_of_getElem? (i := 103) rfl)).1
theorem zl_at_104 {L : Nat} {xs : Nat → Int} {w : zW} (hb : zBase L xs w) : zl w 104 = 24 := (hb.2.2 (104, 12, 24) (List.mem_of_getElem? (i := 103) rfl)).2
theorem zk_at_105 {L : Nat} {xs : Nat → Int} {w : zW} (hb : zBase L xs w) : zk w 105 = 12 := (hb.2.2 (105, 12, 32) (List.mem_of_getElem? (i := 104) rfl)).1
theorem zl_at_105 {L : Nat} {xs : Nat → Int} {w : zW} (hb : zBase L xs w) : zl w 105 = 32 := (hb.2.2 (105, 12, 32) (List.mem_of_getElem? (i := 104) rfl)).2
theorem zk_at_106 {L : Nat} {xs : Nat → Int} {w : zW} (hb : zBase L xs w) : zk w 106 = 8 := (hb.2.2 (106, 8, 12) (List.mem_of_getElem? (i := 105) rfl)).1
theorem zk_at_107 {L : Nat} {xs : Nat → Int} {w : zW} (hb : zBase L xs w) : zk w 107 = 18 := (hb.2.2 (107, 18, 64) (List.mem_of_getElem? (i := 106) rfl)).1
theorem zl_at_107 {L : Nat} {xs : Nat → Int} {w : zW} (hb : zBase L xs w) : zl w 107 = 64 := (hb.2.2 (107, 18, 64) (List.mem_of_getElem? (i := 106) rfl)).2
theorem zk_at_108 {L : Nat} {xs : Nat → Int} {w : zW} (hb : zBase L xs w) : zk w 108 = 2 := (hb.2.2 (108, 2, 9) (List.mem_of_getElem? (i := 107) rfl)).1
theorem zk_at_109 {L : Nat} {xs : Nat → Int} {w : zW} (hb : zBase L xs w) : zk w 109 = 19 := (hb.2.2 (109, 19, 8) (List.mem_of_getElem? (i := 108) rfl)).1
theorem zl_at_109 {L : Nat} {xs : Nat → Int} {w : zW} (hb : zBase L xs w) : zl w 109 = 8 := (hb.2.2 (109, 19, 8) (List.mem_of_getElem? (i := 108) rfl)).2
theorem zk_at_110 {L : Nat} {xs : Nat → Int} {w : zW} (hb : zBase L xs w) : zk w 110 = 3 := (hb.2.2 (110, 3, 5) (List.mem_of_getElem? (i := 109) rfl)).1
theorem zk_at_111 {L : Nat} {xs : Nat → Int} {w : zW} (hb : zBase L xs w) : zk w 111 = 12 := (hb.2.2 (111, 12, 8) (List.mem_of_getElem? (i := 110) rfl)).1
theorem zl_at_111 {L : Nat} {xs : Nat → Int} {w : zW} (hb : zBase L xs w) : zl w 111 = 8 := (hb.2.2 (111, 12, 8) (List.mem_of_getElem? (i := 110) rfl)).2
theorem zk_at_112 {L : Nat} {xs : Nat → Int} {w : zW} (hb : zBase L xs w) : zk w 112 = 3 := (hb.2.2 (112, 3, 5) (List.mem_of_getElem? (i := 111) rfl)).1
theorem zk_at_113 {L : Nat} {xs : Nat → Int} {w : zW} (hb : zBase L xs w) : zk w 113 = 12 := (hb.2.2 (113, 12, 8) (List.mem_of_getElem? (i := 112) rfl)).1
theorem zl_at_113 {L : Nat} {xs : Nat → Int} {w : zW} (hb : zBase L xs w) : zl w 113 = 8 := (hb.2.2 (113, 12, 8) (List.mem_of_getElem? (i := 112) rfl)).2
theorem zk_at_114 {L : Nat} {xs : Nat → Int} {w : zW} (hb : zBase L xs w) : zk w 114 = 3 := (hb.2.2 (114, 3, 5) (List.mem_of_getElem? (i := 113) rfl)).1
theorem zk_at_115 {L : Nat} {xs : Nat → Int} {w : zW} (hb : zBase L xs w) : zk w 115 = 12 := (hb.2.2 (115, 12, 8) (List.mem_of_getElem? (i := 114) rfl)).1
theorem zl_at_115 {L : Nat} {xs : Nat → Int} {w : zW} (hb : zBase L xs w) : zl w 115 = 8 := (hb.2.2 (115, 12, 8) (List.mem_of_getElem? (i := 114) rfl)).2
theorem zk_at_116 {L : Nat} {xs : Nat → Int} {w : zW} (hb : zBase L xs w) : zk w 116 = 3 := (hb.2.2 (116, 3, 5) (List.mem_of_getElem? (i := 115) rfl)).1
theorem zk_at_117 {L : Nat} {xs : Nat → Int} {w : zW} (hb : zBase L xs w) : zk w 117 = 12 := (hb.2.2 (117, 12, 8) (List.mem_of_getElem? (i := 116) rfl)).1
theorem zl_at_117 {L : Nat} {xs : Nat → Int} {w : zW} (hb : zBase L xs w) : zl w 117 = 8 := (hb.2.2 (117, 12, 8) (List.mem_of_getElem? (i := 116) rfl)).2
theorem zk_at_118 {L : Nat} {xs : Nat → Int} {w : zW} (hb : zBase L xs w) : zk w 118 = 3 := (hb.2.2 (118, 3, 5) (List.mem_of_getElem? (i := 117) rfl)).1
theorem zk_at_119 {L : Nat} {xs : Nat → Int} {w : zW} (hb : zBase L xs w) : zk w 119 = 12 := (hb.2.2 (119, 12, 8) (List.mem_of_getElem? (i := 118) rfl)).1
theorem zl_at_119 {L : Nat} {xs : Nat → Int} {w : zW} (hb : zBase L xs w) : zl w 119 = 8 := (hb.2.2 (119, 12, 8) (List.mem_of_getElem? (i := 118) rfl)).2
theorem zk_at_120 {L : Nat} {xs : Nat → Int} {w : zW} (hb : zBase L xs w) : zk w 120 = 3 := (hb.2.2 (120, 3, 5) (List.mem_of_getElem? (i := 119) rfl)).1
theorem zk_at_121 {L : Nat} {xs : Nat → Int} {w : zW} (hb : zBase L xs w) : zk w 121 = 12 := (hb.2.2 (121, 12, 8) (List.mem_of_getElem? (i := 120) rfl)).1
theorem zl_at_121 {L : Nat} {xs : Nat → Int} {w : zW} (hb : zBase L xs w) : zl w 121 = 8 := (hb.2.2 (121, 12, 8) (List.mem_of_getElem? (i := 120) rfl)).2
theorem zk_at_122 {L : Nat} {xs : Nat → Int} {w : zW} (hb : zBase L xs w) : zk w 122 = 3 := (hb.2.2 (122, 3, 5) (List.mem_of_getElem? (i := 121) rfl)).1
theorem zk_at_123 {L : Nat} {xs : Nat → Int} {w : zW} (hb : zBase L xs w) : zk w 123 = 12 := (hb.2.2 (123, 12, 8) (List.mem_of_getElem? (i := 122) rfl)).1
theorem zl_at_123 {L : Nat} {xs : Nat → Int} {w : zW} (hb : zBase L xs w) : zl w 123 = 8 := (hb.2.2 (123, 12, 8) (List.mem_of_getElem? (i := 122) rfl)).2
theorem zk_at_124 {L : Nat} {xs : Nat → Int} {w : zW} (hb : zBase L xs w) : zk w 124 = 3 := (hb.2.2 (124, 3, 5) (List.mem_of_getElem? (i := 123) rfl)).1
theorem zk_at_125 {L : Nat} {xs : Nat → Int} {w : zW} (hb : zBase L xs w) : zk w 125 = 12 := (hb.2.2 (125, 12, 8) (List.mem_of_getElem? (i := 124) rfl)).1
theorem zl_at_125 {L : Nat} {xs : Nat → Int} {w : zW} (hb : zBase L xs w) : zl w 125 = 8 := (hb.2.2 (125, 12, 8) (List.mem_of_getElem? (i := 124) rfl)).2
theorem zk_at_126 {L : Nat} {xs : Nat → Int} {w : zW} (hb : zBase L xs w) : zk w 126 = 12 := (hb.2.2 (126, 12, 24) (List.mem_of_getElem? (i := 125) rfl)).1
theorem zl_at_126 {L : Nat} {xs : Nat → Int} {w : zW} (hb : zBase L xs w) : zl w 126 = 24 := (hb.2.2 (126, 12, 24) (List.mem_of_getElem? (i := 125) rfl)).2
theorem zk_at_127 {L : Nat} {xs : Nat → Int} {w : zW} (hb : zBase L xs w) : zk w 127 = 12 := (hb.2.2 (127, 12, 32) (List.mem_of_getElem? (i := 126) rfl)).1
theorem zl_at_127 {L : Nat} {xs : Nat → Int} {w : zW} (hb : zBase L xs w) : zl w 127 = 32 := (hb.2.2 (127, 12, 32) (List.mem_of_getElem? (i := 126) rfl)).2
theorem zk_at_128 {L : Nat} {xs : Nat → Int} {w : zW} (hb : zBase L xs w) : zk w 128 = 8 := (hb.2.2 (128, 8, 12) (List.mem_of_getElem? (i := 127) rfl)).1
theorem zk_at_129 {L : Nat} {xs : Nat → Int} {w : zW} (hb : zBase L xs w) : zk w 129 = 18 := (hb.2.2 (129, 18, 64) (List.mem_of_getElem? (i := 128) rfl)).1
theorem zl_at_129 {L : Nat} {xs : Nat → Int} {w : zW} (hb : zBase L xs w) : zl w 129 = 64 := (hb.2.2 (129, 18, 64) (List.mem_of_getElem? (i := 128) rfl)).2
theorem zk_at_130 {L : Nat} {xs : Nat → Int} {w : zW} (hb : zBase L xs w) : zk w 130 = 2 := (hb.2.2 (130, 2, 9) (List.mem_of_getElem? (i := 129) rfl)).1
theorem zk_at_131 {L : Nat} {xs : Nat → Int} {w : zW} (hb : zBase L xs w) : zk w 131 = 19 := (hb.2.2 (131, 19, 8) (List.mem_of_getElem? (i := 130) rfl)).1
theorem zl_at_131 {L : Nat} {xs : Nat → Int} {w : zW} (hb : zBase L xs w) : zl w 131 = 8 := (hb.2.2 (131, 19, 8) (List.mem_of_getElem? (i := 130) rfl)).2
theorem zk_at_132 {L : Nat} {xs : Nat → Int} {w : zW} (hb : zBase L xs w) : zk w 132 = 3 := (hb.2.2 (132, 3, 5) (List.mem_of_getElem? (i := 131) rfl)).1
theorem zk_at_133 {L : Nat} {xs : Nat → Int} {w : zW} (hb : zBase L xs w) : zk w 133 = 12 := (hb.2.2 (133, 12, 8) (List.mem_of_getElem? (i := 132) rfl)).1
theorem zl_at_133 {L : Nat} {xs : Nat → Int} {w : zW} (hb : zBase L xs w) : zl w 133 = 8 := (hb.2.2 (133, 12, 8) (List.mem_of_getElem? (i := 132) rfl)).2
theorem zk_at_134 {L : Nat} {xs : Nat → Int} {w : zW} (hb : zBase L xs w) : zk w 134 = 3 := (hb.2.2 (134, 3, 5) (List.mem_of_getElem? (i := 133) rfl)).1
theorem zk_at_135 {L : Nat} {xs : Nat → Int} {w : zW} (hb : zBase L xs w) : zk w 135 = 12 := (hb.2.2 (135, 12, 8) (List.mem_of_getElem? (i := 134) rfl)).1
theorem zl_at_135 {L : Nat} {xs : Nat → Int} {w : zW} (hb : zBase L xs w) : zl w 135 = 8 := (hb.2.2 (135, 12, 8) (List.mem_of_getElem? (i := 134) rfl)).2
theorem zk_at_136 {L : Nat} {xs : Nat → Int} {w : zW} (hb : zBase L xs w) : zk w 136 = 3 := (hb.2.2 (136, 3, 5) (List.mem_of_getElem? (i := 135) rfl)).1
theorem zk_at_137 {L : Nat} {xs : Nat → Int} {w : zW} (hb : zBase L xs w) : zk w 137 = 12 := (hb.2.2 (137, 12, 8) (List.mem_of_getElem? (i := 136) rfl)).1
theorem zl_at_137 {L : Nat} {xs : Nat → Int} {w : zW} (hb : zBase L xs w) : zl w 137 = 8 := (hb.2.2 (137, 12, 8) (List.mem_of_getElem? (i := 136) rfl)).2
theorem zk_at_138 {L : Nat} {xs : Nat → Int} {w : zW} (hb : zBase L xs w) : zk w 138 = 3 := (hb.2.2 (138, 3, 5) (List.mem_of_getElem? (i := 137) rfl)).1
theorem zk_at_139 {L : Nat} {xs : Nat → Int} {w : zW} (hb : zBase L xs w) : zk w 139 = 12 := (hb.2.2 (139, 12, 8) (List.mem_of_getElem? (i := 138) rfl)).1
theorem zl_at_139 {L : Nat} {xs : Nat → Int} {w : zW} (hb : zBase L xs w) : zl w 139 = 8 := (hb.2.2 (139, 12, 8) (List.mem_of_getElem? (i := 138) rfl)).2
theorem zk_at_140 {L : Nat} {xs : Nat → Int} {w : zW} (hb : zBase L xs w) : zk w 140 = 3 := (hb.2.2 (140, 3, 5) (List.mem_of_getElem? (i := 139) rfl)).1
theorem zk_at_141 {L : Nat} {xs : Nat → Int} {w : zW} (hb : zBase L xs w) : zk w 141 = 12 := (hb.2.2 (141, 12, 8) (List.mem_of_getElem? (i := 140) rfl)).1
theorem zl_at_141 {L : Nat} {xs : Nat → Int} {w : zW} (hb : zBase L xs w) : zl w 141 = 8 := (hb.2.2 (141, 12, 8) (List.mem_of_getElem? (i := 140) rfl)).2
theorem zk_at_142 {L : Nat} {xs : Nat → Int} {w : zW} (hb : zBase L xs w) : zk w 142 = 3 := (hb.2.2 (142, 3, 5) (List.mem_of_getElem? (i := 141) rfl)).1
theorem zk_at_143 {L : Nat} {xs : Nat → Int} {w : zW} (hb : zBase L xs w) : zk w 143 = 12 := (hb.2.2 (143, 12, 8) (List.mem_of_getElem? (i := 142) rfl)).1
theorem zl_at_143 {L : Nat} {xs : Nat → Int} {w : zW} (hb : zBase L xs w) : zl w 143 = 8 := (hb.2.2 (143, 12, 8) (List.mem_of_getElem? (i := 142) rfl)).2
theorem zk_at_144 {L : Nat} {xs : Nat → Int} {w : zW} (hb : zBase L xs w) : zk w 144 = 3 := (hb.2.2 (144, 3, 5) (List.mem_of_getElem? (i := 143) rfl)).1
theorem zk_at_145 {L : Nat} {xs : Nat → Int} {w : zW} (hb : zBase L xs w) : zk w 145 = 12 := (hb.2.2 (145, 12, 8) (List.mem_of_getElem? (i := 144) rfl)).1
theorem zl_at_145 {L : Nat} {xs : Nat → Int} {w : zW} (hb : zBase L xs w) : zl w 145 = 8 := (hb.2.2 (145, 12, 8) (List.mem_of_getElem? (i := 144) rfl)).2
theorem zk_at_146 {L : Nat} {xs : Nat → Int} {w : zW} (hb : zBase L xs w) : zk w 146 = 3 := (hb.2.2 (146, 3, 5) (List.mem_of_getElem? (i := 145) rfl)).1
theorem zk_at_147 {L : Nat} {xs : Nat → Int} {w : zW} (hb : zBase L xs w) : zk w 147 = 12 := (hb.2.2 (147, 12, 8) (List.mem_of_getElem? (i := 146) rfl)).1
theorem zl_at_147 {L : Nat} {xs : Nat → Int} {w : zW} (hb : zBase L xs w) : zl w 147 = 8 := (hb.2.2 (147, 12, 8) (List.mem_of_getElem? (i := 146) rfl)).2
theorem zk_at_148 {L : Nat} {xs : Nat → Int} {w : zW} (hb : zBase L xs w) : zk w 148 = 12 := (hb.2.2 (148, 12, 24) (List.mem_of_getElem? (i := 147) rfl)).1
theorem zl_at_148 {L : Nat} {xs : Nat → Int} {w : zW} (hb : zBase L xs w) : zl w 148 = 24 := (hb.2.2 (148, 12, 24) (List.mem_of_getElem? (i := 147) rfl)).2
theorem zk_at_149 {L : Nat} {xs : Nat → Int} {w : zW} (hb : zBase L xs w) : zk w 149 = 12 := (hb.2.2 (149, 12, 32) (List.mem_of_getElem? (i := 148) rfl)).1
theorem zl_at_149 {L : Nat} {xs : Nat → Int} {w : zW} (hb : zBase L xs w) : zl w 149 = 32 := (hb.2.2 (149, 12, 32) (List.mem_of_getElem? (i := 148) rfl)).2
theorem zk_at_150 {L : Nat} {xs : Nat → Int} {w : zW} (hb : zBase L xs w) : zk w 150 = 8 := (hb.2.2 (150, 8, 12) (List.mem_of_getElem? (i := 149) rfl)).1
theorem zk_at_151 {L : Nat} {xs : Nat → Int} {w : zW} (hb : zBase L xs w) : zk w 151 = 18 := (hb.2.2 (151, 18, 64) (List.mem_of_getElem? (i := 150) rfl)).1
theorem zl_at_151 {L : Nat} {xs : Nat → Int} {w : zW} (hb : zBase L xs w) : zl w 151 = 64 := (hb.2.2 (151, 18, 64) (List.mem_of_getElem? (i := 150) rfl)).2
theorem zk_at_152 {L : Nat} {xs : Nat → Int} {w : zW} (hb : zBase L xs w) : zk w 152 = 2 := (hb.2.2 (152, 2, 9) (List.mem_of_getElem? (i := 151) rfl)).1
theorem zk_at_153 {L : Nat} {xs : Nat → Int} {w : zW} (hb : zBase L xs w) : zk w 153 = 19 := (hb.2.2 (153, 19, 8) (List.mem_of_getElem? (i := 152) rfl)).1
theorem zl_at_153 {L : Nat} {xs : Nat → Int} {w : zW} (hb : zBase L xs w) : zl w 153 = 8 := (hb.2.2 (153, 19, 8) (List.mem_of_getElem? (i := 152) rfl)).2
theorem zk_at_154 {L : Nat} {xs : Nat → Int} {w : zW} (hb : zBase L xs w) : zk w 154 = 3 := (hb.2.2 (154, 3, 5) (List.mem_of_getElem? (i := 153) rfl)).1
theorem zk_at_155 {L : Nat} {xs : Nat → Int} {w : zW} (hb : zBase L xs w) : zk w 155 = 12 := (hb.2.2 (155, 12, 8) (List.mem_of_getElem? (i := 154) rfl)).1
theorem zl_at_155 {L : Nat} {xs : Nat → Int} {w : zW} (hb : zBase L xs w) : zl w 155 = 8 := (hb.2.2 (155, 12, 8) (List.mem_of_getElem? (i := 154) rfl)).2
theorem zk_at_156 {L : Nat} {xs : Nat → Int} {w : zW} (hb : zBase L xs w) : zk w 156 = 3 := (hb.2.2 (156, 3, 5) (List.mem_of_getElem? (i := 155) rfl)).1
theorem zk_at_157 {L : Nat} {xs : Nat → Int} {w : zW} (hb : zBase L xs w) : zk w 157 = 12 := (hb.2.2 (157, 12, 8) (List.mem_of_getElem? (i := 156) rfl)).1
theorem zl_at_157 {L : Nat} {xs : Nat → Int} {w : zW} (hb : zBase L xs w) : zl w 157 = 8 := (hb.2.2 (157, 12, 8) (List.mem_of_getElem? (i := 156) rfl)).2
theorem zk_at_158 {L : Nat} {xs : Nat → Int} {w : zW} (hb : zBase L xs w) : zk w 158 = 3 := (hb.2.2 (158, 3, 5) (List.mem_of_getElem? (i := 157) rfl)).1
theorem zk_at_159 {L : Nat} {xs : Nat → Int} {w : zW} (hb : zBase L xs w) : zk w 159 = 12 := (hb.2.2 (159, 12, 8) (List.mem_of_getElem? (i := 158) rfl)).1
theorem zl_at_159 {L : Nat} {xs : Nat → Int} {w : zW} (hb : zBase L xs w) : zl w 159 = 8 := (hb.2.2 (159, 12, 8) (List.mem_of_getElem? (i := 158) rfl)).2
theorem zk_at_160 {L : Nat} {xs : Nat → Int} {w : zW} (hb : zBase L xs w) : zk w 160 = 3 := (hb.2.2 (160, 3, 5) (List.mem_of_getElem? (i := 159) rfl)).1
theorem zk_at_161 {L : Nat} {xs : Nat → Int} {w : zW} (hb : zBase L xs w) : zk w 161 = 12 := (hb.2.2 (161, 12, 8) (List.mem_of_getElem? (i := 160) rfl)).1
theorem zl_at_161 {L : Nat} {xs : Nat → Int} {w : zW} (hb : zBase L xs w) : zl w 161 = 8 := (hb.2.2 (161, 12, 8) (List.mem_of_getElem? (i := 160) rfl)).2
theorem zk_at_162 {L : Nat} {xs : Nat → Int} {w : zW} (hb : zBase L xs w) : zk w 162 = 3 := (hb.2.2 (162, 3, 5) (List.mem_of_getElem? (i := 161) rfl)).1
theorem zk_at_163 {L : Nat} {xs : Nat → Int} {w : zW} (hb : zBase L xs w) : zk w 163 = 12 := (hb.2.2 (163, 12, 8) (List.mem_of_getElem? (i := 162) rfl)).1
theorem zl_at_163 {L : Nat} {xs : Nat → Int} {w : zW} (hb : zBase L xs w) : zl w 163 = 8 := (hb.2.2 (163, 12, 8) (List.mem_of_getElem? (i := 162) rfl)).2
theorem zk_at_164 {L : Nat} {xs : Nat → Int} {w : zW} (hb : zBase L xs w) : zk w 164 = 3 := (hb.2.2 (164, 3, 5) (List.mem_of_getElem? (i := 163) rfl)).1
theorem zk_at_165 {L : Nat} {xs : Nat → Int} {w : zW} (hb : zBase L xs w) : zk w 165 = 12 := (hb.2.2 (165, 12, 8) (List.mem_of_getElem? (i := 164) rfl)).1
theorem zl_at_165 {L : Nat} {xs : Nat → Int} {w : zW} (hb : zBase L xs w) : zl w 165 = 8 := (hb.2.2 (165, 12, 8) (List.mem_of_getElem? (i := 164) rfl)).2
theorem zk_at_166 {L : Nat} {xs : Nat → Int} {w : zW} (hb : zBase L xs w) : zk w 166 = 3 := (hb.2.2 (166, 3, 5) (List.mem_of_getElem? (i := 165) rfl)).1
theorem zk_at_167 {L : Nat} {xs : Nat → Int} {w : zW} (hb : zBase L xs w) : zk w 167 = 12 := (hb.2.2 (167, 12, 8) (List.mem_of_getElem? (i := 166) rfl)).1
theorem zl_at_167 {L : Nat} {xs : Nat → Int} {w : zW} (hb : zBase L xs w) : zl w 167 = 8 := (hb.2.2 (167, 12, 8) (List.mem_of_getElem? (i := 166) rfl)).2
theorem zk_at_168 {L : Nat} {xs : Nat → Int} {w : zW} (hb : zBase L xs w) : zk w 168 = 3 := (hb.2.2 (168, 3, 5) (List.mem_of_getElem? (i := 167) rfl)).1
theorem zk_at_169 {L : Nat} {xs : Nat → Int} {w : zW} (hb : zBase L xs w) : zk w 169 = 12 := (hb.2.2 (169, 12, 8) (List.mem_of_getElem? (i := 168) rfl)).1
theorem zl_at_169 {L : Nat} {xs : Nat → Int} {w : zW} (hb : zBase L xs w) : zl w 169 = 8 := (hb.2.2 (169, 12, 8) (List.mem_of_getElem? (i := 168) rfl)).2
theorem zk_at_170 {L : Nat} {xs : Nat → Int} {w : zW} (hb : zBase L xs w) : zk w 170 = 12 := (hb.2.2 (170, 12, 24) (List.mem_of_getElem? (i := 169) rfl)).1
theorem zl_at_170 {L : Nat} {xs : Nat → Int} {w : zW} (hb : zBase L xs w) : zl w 170 = 24 := (hb.2.2 (170, 12, 24) (List.mem_of_getElem? (i := 169) rfl)).2
theorem zk_at_171 {L : Nat} {xs : Nat → Int} {w : zW} (hb : zBase L xs w) : zk w 171 = 12 := (hb.2.2 (171, 12, 32) (List.mem_of_getElem? (i := 170) rfl)).1
theorem zl_at_171 {L : Nat} {xs : Nat → Int} {w : zW} (hb : zBase L xs w) : zl w 171 = 32 := (hb.2.2 (171, 12, 32) (List.mem_of_getElem? (i := 170) rfl)).2
theorem zk_at_172 {L : Nat} {xs : Nat → Int} {w : zW} (hb : zBase L xs w) : zk w 172 = 8 := (hb.2.2 (172, 8, 12) (List.mem_of_getElem? (i := 171) rfl)).1
theorem zk_at_173 {L : Nat} {xs : Nat → Int} {w : zW} (hb : zBase L xs w) : zk w 173 = 18 := (hb.2.2 (173, 18, 64) (List.mem_of_getElem? (i := 172) rfl)).1
theorem zl_at_173 {L : Nat} {xs : Nat → Int} {w : zW} (hb : zBase L xs w) : zl w 173 = 64 := (hb.2.2 (173, 18, 64) (List.mem_of_getElem? (i := 172) rfl)).2
theorem zk_at_174 {L : Nat} {xs : Nat → Int} {w : zW} (hb : zBase L xs w) : zk w 174 = 2 := (hb.2.2 (174, 2, 9) (List.mem_of_getElem? (i := 173) rfl)).1
theorem zk_at_175 {L : Nat} {xs : Nat → Int} {w : zW} (hb : zBase L xs w) : zk w 175 = 19 := (hb.2.2 (175, 19, 8) (List.mem_of_getElem? (i := 174) rfl)).1
theorem zl_at_175 {L : Nat} {xs : Nat → Int} {w : zW} (hb : zBase L xs w) : zl w 175 = 8 := (hb.2.2 (175, 19, 8) (List.mem_of_getElem? (i := 174) rfl)).2
theorem zk_at_176 {L : Nat} {xs : Nat → Int} {w : zW} (hb : zBase L xs w) : zk w 176 = 3 := (hb.2.2 (176, 3, 5) (List.mem_of_getElem? (i := 175) rfl)).1
theorem zk_at_177 {L : Nat} {xs : Nat → Int} {w : zW} (hb : zBase L xs w) : zk w 177 = 12 := (hb.2.2 (177, 12, 8) (List.mem_of_getElem? (i := 176) rfl)).1
theorem zl_at_177 {L : Nat} {xs : Nat → Int} {w : zW} (hb : zBase L xs w) : zl w 177 = 8 := (hb.2.2 (177, 12, 8) (List.mem_of_getElem? (i := 176) rfl)).2
theorem zk_at_178 {L : Nat} {xs : Nat → Int} {w : zW} (hb : zBase L xs w) : zk w 178 = 3 := (hb.2.2 (178, 3, 5) (List.mem_of_getElem? (i := 177) rfl)).1
theorem zk_at_179 {L : Nat} {xs : Nat → Int} {w : zW} (hb : zBase L xs w) : zk w 179 = 12 := (hb.2.2 (179, 12, 8) (List.mem_of_getElem? (i := 178) rfl)).1
theorem zl_at_179 {L : Nat} {xs : Nat → Int} {w : zW} (hb : zBase L xs w) : zl w 179 = 8 := (hb.2.2 (179, 12, 8) (List.mem_of_getElem? (i := 178) rfl)).2
theorem zk_at_180 {L : Nat} {xs : Nat → Int} {w : zW} (hb : zBase L xs w) : zk w 180 = 3 := (hb.2.2 (180, 3, 5) (List.mem_of_getElem? (i := 179) rfl)).1
theorem zk_at_181 {L : Nat} {xs : Nat → Int} {w : zW} (hb : zBase L xs w) : zk w 181 = 12 := (hb.2.2 (181, 12, 8) (List.mem_of_getElem? (i := 180) rfl)).1
theorem zl_at_181 {L : Nat} {xs : Nat → Int} {w : zW} (hb : zBase L xs w) : zl w 181 = 8 := (hb.2.2 (181, 12, 8) (List.mem_of_getElem? (i := 180) rfl)).2
theorem zk_at_182 {L : Nat} {xs : Nat → Int} {w : zW} (hb : zBase L xs w) : zk w 182 = 3 := (hb.2.2 (182, 3, 5) (List.mem_of_getElem? (i := 181) rfl)).1
theorem zk_at_183 {L : Nat} {xs : Nat → Int} {w : zW} (hb : zBase L xs w) : zk w 183 = 12 := (hb.2.2 (183, 12, 8) (List.mem_of_getElem? (i := 182) rfl)).1
theorem zl_at_183 {L : Nat} {xs : Nat → Int} {w : zW} (hb : zBase L xs w) : zl w 183 = 8 := (hb.2.2 (183, 12, 8) (List.mem_of_getElem? (i := 182) rfl)).2
theorem zk_at_184 {L : Nat} {xs : Nat → Int} {w : zW} (hb : zBase L xs w) : zk w 184 = 3 := (hb.2.2 (184, 3, 5) (List.mem_of_getElem? (i := 183) rfl)).1
theorem zk_at_185 {L : Nat} {xs : Nat → Int} {w : zW} (hb : zBase L xs w) : zk w 185 = 12 := (hb.2.2 (185, 12, 8) (List.mem_of_getElem? (i := 184) rfl)).1
theorem zl_at_185 {L : Nat} {xs : Nat → Int} {w : zW} (hb : zBase L xs w) : zl w 185 = 8 := (hb.2.2 (185, 12, 8) (List.mem_of_getElem? (i := 184) rfl)).2
theorem zk_at_186 {L : Nat} {xs : Nat → Int} {w : zW} (hb : zBase L xs w) : zk w 186 = 3 := (hb.2.2 (186, 3, 5) (List.mem_of_getElem? (i := 185) rfl)).1
theorem zk_at_187 {L : Nat} {xs : Nat → Int} {w : zW} (hb : zBase L xs w) : zk w 187 = 12 := (hb.2.2 (187, 12, 8) (List.mem_of_getElem? (i := 186) rfl)).1
theorem zl_at_187 {L : Nat} {xs : Nat → Int} {w : zW} (hb : zBase L xs w) : zl w 187 = 8 := (hb.2.2 (187, 12, 8) (List.mem_of_getElem? (i := 186) rfl)).2
theorem zk_at_188 {L : Nat} {xs : Nat → Int} {w : zW} (hb : zBase L xs w) : zk w 188 = 3 := (hb.2.2 (188, 3, 5) (List.mem_of_getElem? (i := 187) rfl)).1
theorem zk_at_189 {L : Nat} {xs : Nat → Int} {w : zW} (hb : zBase L xs w) : zk w 189 = 12 := (hb.2.2 (189, 12, 8) (List.mem_of_getElem? (i := 188) rfl)).1
theorem zl_at_189 {L : Nat} {xs : Nat → Int} {w : zW} (hb : zBase L xs w) : zl w 189 = 8 := (hb.2.2 (189, 12, 8) (List.mem_of_getElem? (i := 188) rfl)).2
theorem zk_at_190 {L : Nat} {xs : Nat → Int} {w : zW} (hb : zBase L xs w) : zk w 190 = 3 := (hb.2.2 (190, 3, 5) (List.mem_of_getElem? (i := 189) rfl)).1
theorem zk_at_191 {L : Nat} {xs : Nat → Int} {w : zW} (hb : zBase L xs w) : zk w 191 = 12 := (hb.2.2 (191, 12, 8) (List.mem_of_getElem? (i := 190) rfl)).1
theorem zl_at_191 {L : Nat} {xs : Nat → Int} {w : zW} (hb : zBase L xs w) : zl w 191 = 8 := (hb.2.2 (191, 12, 8) (List.mem_of_getElem? (i := 190) rfl)).2
theorem zk_at_192 {L : Nat} {xs : Nat → Int} {w : zW} (hb : zBase L xs w) : zk w 192 = 12 := (hb.2.2 (192, 12, 24) (List.mem_of_getElem? (i := 191) rfl)).1
theorem zl_at_192 {L : Nat} {xs : Nat → Int} {w : zW} (hb : zBase L xs w) : zl w 192 = 24 := (hb.2.2 (192, 12, 24) (List.mem_of_getElem? (i := 191) rfl)).2
theorem zk_at_193 {L : Nat} {xs : Nat → Int} {w : zW} (hb : zBase L xs w) : zk w 193 = 12 := (hb.2.2 (193, 12, 32) (List.mem_of_getElem? (i := 192) rfl)).1
theorem zl_at_193 {L : Nat} {xs : Nat → Int} {w : zW} (hb : zBase L xs w) : zl w 193 = 32 := (hb.2.2 (193, 12, 32) (List.mem_of_getElem? (i := 192) rfl)).2
theorem zk_at_194 {L : Nat} {xs : Nat → Int} {w : zW} (hb : zBase L xs w) : zk w 194 = 11 := (hb.2.2 (194, 11, 52) (List.mem_of_getElem? (i := 193) rfl)).1
theorem zk_at_195 {L : Nat} {xs : Nat → Int} {w : zW} (hb : zBase L xs w) : zk w 195 = 12 := (hb.2.2 (195, 12, 8) (List.mem_of_getElem? (i := 194) rfl)).1
theorem zl_at_195 {L : Nat} {xs : Nat → Int} {w : zW} (hb : zBase L xs w) : zl w 195 = 8 := (hb.2.2 (195, 12, 8) (List.mem_of_getElem? (i := 194) rfl)).2
theorem zk_at_196 {L : Nat} {xs : Nat → Int} {w : zW} (hb : zBase L xs w) : zk w 196 = 12 := (hb.2.2 (196, 12, 8) (List.mem_of_getElem? (i := 195) rfl)).1
theorem zl_at_196 {L : Nat} {xs : Nat → Int} {w : zW} (hb : zBase L xs w) : zl w 196 = 8 := (hb.2.2 (196, 12, 8) (List.mem_of_getElem? (i := 195) rfl)).2
theorem zk_at_197 {L : Nat} {xs : Nat → Int} {w : zW} (hb : zBase L xs w) : zk w 197 = 12 := (hb.2.2 (197, 12, 8) (List.mem_of_getElem? (i := 196) rfl)).1
theorem zl_at_197 {L : Nat} {xs : Nat → Int} {w : zW} (hb : zBase L xs w) : zl w 197 = 8 := (hb.2.2 (197, 12, 8) (List.mem_of_getElem? (i := 196) rfl)).2
theorem zk_at_198 {L : Nat} {xs : Nat → Int} {w : zW} (hb : zBase L xs w) : zk w 198 = 13 := (hb.2.2 (198, 13, 8) (List.mem_of_getElem? (i := 197) rfl)).1
theorem zl_at_198 {L : Nat} {xs : Nat → Int} {w : zW} (hb : zBase L xs w) : zl w 198 = 8 := (hb.2.2 (198, 13, 8) (List.mem_of_getElem? (i := 197) rfl)).2
theorem zk_at_199 {L : Nat} {xs : Nat → Int} {w : zW} (hb : zBase L xs w) : zk w 199 = 12 := (hb.2.2 (199, 12, 8) (List.mem_of_getElem? (i := 198) rfl)).1
theorem zl_at_199 {L : Nat} {xs : Nat → Int} {w : zW} (hb : zBase L xs w) : zl w 199 = 8 := (hb.2.2 (199, 12, 8) (List.mem_of_getElem? (i := 198) rfl)).2
theorem zk_at_200 {L : Nat} {xs : Nat → Int} {w : zW} (hb : zBase L xs w) : zk w 200 = 12 := (hb.2.2 (200, 12, 8) (List.mem_of_getElem? (i := 199) rfl)).1
theorem zl_at_200 {L : Nat} {xs : Nat → Int} {w : zW} (hb : zBase L xs w) : zl w 200 = 8 := (hb.2.2 (200, 12, 8) (List.mem_of_getElem? (i := 199) rfl)).2
theorem zk_at_201 {L : Nat} {xs : Nat → Int} {w : zW} (hb : zBase L xs w) : zk w 201 = 12 := (hb.2.2 (201, 12, 768) (List.mem_of_getElem? (i := 200) rfl)).1
theorem zl_at_201 {L : Nat} {xs : Nat → Int} {w : zW} (hb : zBase L xs w) : zl w 201 = 768 := (hb.2.2 (201, 12, 768) (List.mem_of_getElem? (i := 200) rfl)).2
theorem zk_at_202 {L : Nat} {xs : Nat → Int} {w : zW} (hb : zBase L xs w) : zk w 202 = 12 := (hb.2.2 (202, 12, 7) (List.mem_of_getElem? (i := 201) rfl)).1
theorem zl_at_202 {L : Nat} {xs : Nat → Int} {w : zW} (hb : zBase L xs w) : zl w 202 = 7 := (hb.2.2 (202, 12, 7) (List.mem_of_getElem? (i := 201) rfl)).2
theorem zk_at_203 {L : Nat} {xs : Nat → Int} {w : zW} (hb : zBase L xs w) : zk w 203 = 12 := (hb.2.2 (203, 12, 448) (List.mem_of_getElem? (i := 202) rfl)).1
theorem zl_at_203 {L : Nat} {xs : Nat → Int} {w : zW} (hb : zBase L xs w) : zl w 203 = 448 := (hb.2.2 (203, 12, 448) (List.mem_of_getElem? (i := 202) rfl)).2
theorem zk_at_204 {L : Nat} {xs : Nat → Int} {w : zW} (hb : zBase L xs w) : zk w 204 = 12 := (hb.2.2 (204, 12, 448) (List.mem_of_getElem? (i := 203) rfl)).1
theorem zl_at_204 {L : Nat} {xs : Nat → Int} {w : zW} (hb : zBase L xs w) : zl w 204 = 448 := (hb.2.2 (204, 12, 448) (List.mem_of_getElem? (i := 203) rfl)).2
theorem zk_at_205 {L : Nat} {xs : Nat → Int} {w : zW} (hb : zBase L xs w) : zk w 205 = 12 := (hb.2.2 (205, 12, 448) (List.mem_of_getElem? (i := 204) rfl)).1
theorem zl_at_205 {L : Nat} {xs : Nat → Int} {w : zW} (hb : zBase L xs w) : zl w 205 = 448 := (hb.2.2 (205, 12, 448) (List.mem_of_getElem? (i := 204) rfl)).2
theorem zk_at_206 {L : Nat} {xs : Nat → Int} {w : zW} (hb : zBase L xs w) : zk w 206 = 12 := (hb.2.2 (206, 12, 14336) (List.mem_of_getElem? (i := 205) rfl)).1
theorem zl_at_206 {L : Nat} {xs : Nat → Int} {w : zW} (hb : zBase L xs w) : zl w 206 = 14336 := (hb.2.2 (206, 12, 14336) (List.mem_of_getElem? (i := 205) rfl)).2
theorem zk_at_207 {L : Nat} {xs : Nat → Int} {w : zW} (hb : zBase L xs w) : zk w 207 = 12 := (hb.2.2 (207, 12, 7) (List.mem_of_getElem? (i := 206) rfl)).1
theorem zl_at_207 {L : Nat} {xs : Nat → Int} {w : zW} (hb : zBase L xs w) : zl w 207 = 7 := (hb.2.2 (207, 12, 7) (List.mem_of_getElem? (i := 206) rfl)).2
theorem zk_at_208 {L : Nat} {xs : Nat → Int} {w : zW} (hb : zBase L xs w) : zk w 208 = 12 := (hb.2.2 (208, 12, 7) (List.mem_of_getElem? (i := 207) rfl)).1
theorem zl_at_208 {L : Nat} {xs : Nat → Int} {w : zW} (hb : zBase L xs w) : zl w 208 = 7 := (hb.2.2 (208, 12, 7) (List.mem_of_getElem? (i := 207) rfl)).2
theorem zk_at_209 {L : Nat} {xs : Nat → Int} {w : zW} (hb : zBase L xs w) : zk w 209 = 12 := (hb.2.2 (209, 12, 7) (List.mem_of_getElem? (i := 208) rfl)).1
theorem zl_at_209 {L : Nat} {xs : Nat → Int} {w : zW} (hb : zBase L xs w) : zl w 209 = 7 := (hb.2.2 (209, 12, 7) (List.mem_of_getElem? (i := 208) rfl)).2
theorem zk_at_210 {L : Nat} {xs : Nat → Int} {w : zW} (hb : zBase L xs w) : zk w 210 = 12 := (hb.2.2 (210, 12, 7) (List.mem_of_getElem? (i := 209) rfl)).1
theorem zl_at_210 {L : Nat} {xs : Nat → Int} {w : zW} (hb : zBase L xs w) : zl w 210 = 7 := (hb.2.2 (210, 12, 7) (List.mem_of_getElem? (i := 209) rfl)).2
theorem zk_at_211 {L : Nat} {xs : Nat → Int} {w : zW} (hb : zBase L xs w) : zk w 211 = 12 := (hb.2.2 (211, 12, 7) (List.mem_of_getElem? (i := 210) rfl)).1
theorem zl_at_211 {L : Nat} {xs : Nat → Int} {w : zW} (hb : zBase L xs w) : zl w 211 = 7 := (hb.2.2 (211, 12, 7) (List.mem_of_getElem? (i := 210) rfl)).2
theorem zk_at_212 {L : Nat} {xs : Nat → Int} {w : zW} (hb : zBase L xs w) : zk w 212 = 12 := (hb.2.2 (212, 12, 7) (List.mem_of_getElem? (i := 211) rfl)).1
theorem zl_at_212 {L : Nat} {xs : Nat → Int} {w : zW} (hb : zBase L xs w) : zl w 212 = 7 := (hb.2.2 (212, 12, 7) (List.mem_of_getElem? (i := 211) rfl)).2
theorem zk_at_213 {L : Nat} {xs : Nat → Int} {w : zW} (hb : zBase L xs w) : zk w 213 = 12 := (hb.2.2 (213, 12, 7) (List.mem_of_getElem? (i := 212) rfl)).1
theorem zl_at_213 {L : Nat} {xs : Nat → Int} {w : zW} (hb : zBase L xs w) : zl w 213 = 7 := (hb.2.2 (213, 12, 7) (List.mem_of_getElem? (i := 212) rfl)).2
theorem zk_at_214 {L : Nat} {xs : Nat → Int} {w : zW} (hb : zBase L xs w) : zk w 214 = 12 := (hb.2.2 (214, 12, 168) (List.mem_of_getElem? (i := 213) rfl)).1
theorem zl_at_214 {L : Nat} {xs : Nat → Int} {w : zW} (hb : zBase L xs w) : zl w 214 = 168 := (hb.2.2 (214, 12, 168) (List.mem_of_getElem? (i := 213) rfl)).2
theorem zk_at_215 {L : Nat} {xs : Nat → Int} {w : zW} (hb : zBase L xs w) : zk w 215 = 12 := (hb.2.2 (215, 12, 2) (List.mem_of_getElem? (i := 214) rfl)).1
theorem zl_at_215 {L : Nat} {xs : Nat → Int} {w : zW} (hb : zBase L xs w) : zl w 215 = 2 := (hb.2.2 (215, 12, 2) (List.mem_of_getElem? (i := 214) rfl)).2
theorem zk_at_216 {L : Nat} {xs : Nat → Int} {w : zW} (hb : zBase L xs w) : zk w 216 = 12 := (hb.2.2 (216, 12, 2) (List.mem_of_getElem? (i := 215) rfl)).1
theorem zl_at_216 {L : Nat} {xs : Nat → Int} {w : zW} (hb : zBase L xs w) : zl w 216 = 2 := (hb.2.2 (216, 12, 2) (List.mem_of_getElem? (i := 215) rfl)).2
theorem zk_at_217 {L : Nat} {xs : Nat → Int} {w : zW} (hb : zBase L xs w) : zk w 217 = 12 := (hb.2.2 (217, 12, 2) (List.mem_of_getElem? (i := 216) rfl)).1
theorem zl_at_217 {L : Nat} {xs : Nat → Int} {w : zW} (hb : zBase L xs w) : zl w 217 = 2 := (hb.2.2 (217, 12, 2) (List.mem_of_getElem? (i := 216) rfl)).2
theorem zk_at_218 {L : Nat} {xs : Nat → Int} {w : zW} (hb : zBase L xs w) : zk w 218 = 12 := (hb.2.2 (218, 12, 2) (List.mem_of_getElem? (i := 217) rfl)).1
theorem zl_at_218 {L : Nat} {xs : Nat → Int} {w : zW} (hb : zBase L xs w) : zl w 218 = 2 := (hb.2.2 (218, 12, 2) (List.mem_of_getElem? (i := 217) rfl)).2
theorem zk_at_219 {L : Nat} {xs : Nat → Int} {w : zW} (hb : zBase L xs w) : zk w 219 = 12 := (hb.2.2 (219, 12, 2) (List.mem_of_getElem? (i := 218) rfl)).1
theorem zl_at_219 {L : Nat} {xs : Nat → Int} {w : zW} (hb : zBase L xs w) : zl w 219 = 2 := (hb.2.2 (219, 12, 2) (List.mem_of_getElem? (i := 218) rfl)).2
theorem zk_at_220 {L : Nat} {xs : Nat → Int} {w : zW} (hb : zBase L xs w) : zk w 220 = 12 := (hb.2.2 (220, 12, 32) (List.mem_of_getElem? (i := 219) rfl)).1
theorem zl_at_220 {L : Nat} {xs : Nat → Int} {w : zW} (hb : zBase L xs w) : zl w 220 = 32 := (hb.2.2 (220, 12, 32) (List.mem_of_getElem? (i := 219) rfl)).2
theorem zk_at_221 {L : Nat} {xs : Nat → Int} {w : zW} (hb : zBase L xs w) : zk w 221 = 12 := (hb.2.2 (221, 12, 2) (List.mem_of_getElem? (i := 220) rfl)).1
theorem zl_at_221 {L : Nat} {xs : Nat → Int} {w : zW} (hb : zBase L xs w) : zl w 221 = 2 := (hb.2.2 (221, 12, 2) (List.mem_of_getElem? (i := 220) rfl)).2
theorem zk_at_222 {L : Nat} {xs : Nat → Int} {w : zW} (hb : zBase L xs w) : zk w 222 = 12 := (hb.2.2 (222, 12, 2) (List.mem_of_getElem? (i := 221) rfl)).1
theorem zl_at_222 {L : Nat} {xs : Nat → Int} {w : zW} (hb : zBase L xs w) : zl w 222 = 2 := (hb.2.2 (222, 12, 2) (List.mem_of_getElem? (i := 221) rfl)).2
theorem zk_at_223 {L : Nat} {xs : Nat → Int} {w : zW} (hb : zBase L xs w) : zk w 223 = 12 := (hb.2.2 (223, 12, 2) (List.mem_of_getElem? (i := 222) rfl)).1
theorem zl_at_223 {L : Nat} {xs : Nat → Int} {w : zW} (hb : zBase L xs w) : zl w 223 = 2 := (hb.2.2 (223, 12, 2) (List.mem_of_getElem? (i := 222) rfl)).2
theorem zk_at_224 {L : Nat} {xs : Nat → Int} {w : zW} (hb : zBase L xs w) : zk w 224 = 12 := (hb.2.2 (224, 12, 16) (List.mem_of_getElem? (i := 223) rfl)).1
theorem zl_at_224 {L : Nat} {xs : Nat → Int} {w : zW} (hb : zBase L xs w) : zl w 224 = 16 := (hb.2.2 (224, 12, 16) (List.mem_of_getElem? (i := 223) rfl)).2
theorem zk_at_225 {L : Nat} {xs : Nat → Int} {w : zW} (hb : zBase L xs w) : zk w 225 = 12 := (hb.2.2 (225, 12, 16) (List.mem_of_getElem? (i := 224) rfl)).1
theorem zl_at_225 {L : Nat} {xs : Nat → Int} {w : zW} (hb : zBase L xs w) : zl w 225 = 16 := (hb.2.2 (225, 12, 16) (List.mem_of_getElem? (i := 224) rfl)).2
theorem zk_at_226 {L : Nat} {xs : Nat → Int} {w : zW} (hb : zBase L xs w) : zk w 226 = 12 := (hb.2.2 (226, 12, 32) (List.mem_of_getElem? (i := 225) rfl)).1
theorem zl_at_226 {L : Nat} {xs : Nat → Int} {w : zW} (hb : zBase L xs w) : zl w 226 = 32 := (hb.2.2 (226, 12, 32) (List.mem_of_getElem? (i := 225) rfl)).2
theorem zk_at_227 {L : Nat} {xs : Nat → Int} {w : zW} (hb : zBase L xs w) : zk w 227 = 12 := (hb.2.2 (227, 12, 2) (List.mem_of_getElem? (i := 226) rfl)).1
theorem zl_at_227 {L : Nat} {xs : Nat → Int} {w : zW} (hb : zBase L xs w) : zl w 227 = 2 := (hb.2.2 (227, 12, 2) (List.mem_of_getElem? (i := 226) rfl)).2
theorem zk_at_228 {L : Nat} {xs : Nat → Int} {w : zW} (hb : zBase L xs w) : zk w 228 = 12 := (hb.2.2 (228, 12, 12) (List.mem_of_getElem? (i := 227) rfl)).1
theorem zl_at_228 {L : Nat} {xs : Nat → Int} {w : zW} (hb : zBase L xs w) : zl w 228 = 12 := (hb.2.2 (228, 12, 12) (List.mem_of_getElem? (i := 227) rfl)).2
theorem zk_at_229 {L : Nat} {xs : Nat → Int} {w : zW} (hb : zBase L xs w) : zk w 229 = 12 := (hb.2.2 (229, 12, 40) (List.mem_of_getElem? (i := 228) rfl)).1
theorem zl_at_229 {L : Nat} {xs : Nat → Int} {w : zW} (hb : zBase L xs w) : zl w 229 = 40 := (hb.2.2 (229, 12, 40) (List.mem_of_getElem? (i := 228) rfl)).2
theorem zk_at_230 {L : Nat} {xs : Nat → Int} {w : zW} (hb : zBase L xs w) : zk w 230 = 12 := (hb.2.2 (230, 12, 32) (List.mem_of_getElem? (i := 229) rfl)).1
theorem zl_at_230 {L : Nat} {xs : Nat → Int} {w : zW} (hb : zBase L xs w) : zl w 230 = 32 := (hb.2.2 (230, 12, 32) (List.mem_of_getElem? (i := 229) rfl)).2
theorem zk_at_231 {L : Nat} {xs : Nat → Int} {w : zW} (hb : zBase L xs w) : zk w 231 = 12 := (hb.2.2 (231, 12, 40) (List.mem_of_getElem? (i := 230) rfl)).1
theorem zl_at_231 {L : Nat} {xs : Nat → Int} {w : zW} (hb : zBase L xs w) : zl w 231 = 40 := (hb.2.2 (231, 12, 40) (List.mem_of_getElem? (i := 230) rfl)).2
theorem zk_at_232 {L : Nat} {xs : Nat → Int} {w : zW} (hb : zBase L xs w) : zk w 232 = 12 := (hb.2.2 (232, 12, 40) (List.mem_of_getElem? (i := 231) rfl)).1
theorem zl_at_232 {L : Nat} {xs : Nat → Int} {w : zW} (hb : zBase L xs w) : zl w 232 = 40 := (hb.2.2 (232, 12, 40) (List.mem_of_getElem? (i := 231) rfl)).2
theorem zk_at_233 {L : Nat} {xs : Nat → Int} {w : zW} (hb : zBase L xs w) : zk w 233 = 12 := (hb.2.2 (233, 12, 1280) (List.mem_of_getElem? (i := 232) rfl)).1
theorem zl_at_233 {L : Nat} {xs : Nat → Int} {w : zW} (hb : zBase L xs w) : zl w 233 = 1280 := (hb.2.2 (233, 12, 1280) (List.mem_of_getElem? (i := 232) rfl)).2
theorem zk_at_234 {L : Nat} {xs : Nat → Int} {w : zW} (hb : zBase L xs w) : zk w 234 = 12 := (hb.2.2 (234, 12, 40) (List.mem_of_getElem? (i := 233) rfl)).1
theorem zl_at_234 {L : Nat} {xs : Nat → Int} {w : zW} (hb : zBase L xs w) : zl w 234 = 40 := (hb.2.2 (234, 12, 40) (List.mem_of_getElem? (i := 233) rfl)).2
theorem zk_at_235 {L : Nat} {xs : Nat → Int} {w : zW} (hb : zBase L xs w) : zk w 235 = 12 := (hb.2.2 (235, 12, 40) (List.mem_of_getElem? (i := 234) rfl)).1
theorem zl_at_235 {L : Nat} {xs : Nat → Int} {w : zW} (hb : zBase L xs w) : zl w 235 = 40 := (hb.2.2 (235, 12, 40) (List.mem_of_getElem? (i := 234) rfl)).2
theorem zk_at_236 {L : Nat} {xs : Nat → Int} {w : zW} (hb : zBase L xs w) : zk w 236 = 12 := (hb.2.2 (236, 12, 40) (List.mem_of_getElem? (i := 235) rfl)).1
theorem zl_at_236 {L : Nat} {xs : Nat → Int} {w : zW} (hb : zBase L xs w) : zl w 236 = 40 := (hb.2.2 (236, 12, 40) (List.mem_of_getElem? (i := 235) rfl)).2
theorem zk_at_237 {L : Nat} {xs : Nat → Int} {w : zW} (hb : zBase L xs w) : zk w 237 = 12 := (hb.2.2 (237, 12, 40) (List.mem_of_getElem? (i := 236) rfl)).1
theorem zl_at_237 {L : Nat} {xs : Nat → Int} {w : zW} (hb : zBase L xs w) : zl w 237 = 40 := (hb.2.2 (237, 12, 40) (List.mem_of_getElem? (i := 236) rfl)).2
theorem zk_at_238 {L : Nat} {xs : Nat → Int} {w : zW} (hb : zBase L xs w) : zk w 238 = 12 := (hb.2.2 (238, 12, 1280) (List.mem_of_getElem? (i := 237) rfl)).1
theorem zl_at_238 {L : Nat} {xs : Nat → Int} {w : zW} (hb : zBase L xs w) : zl w 238 = 1280 := (hb.2.2 (238, 12, 1280) (List.mem_of_getElem? (i := 237) rfl)).2
theorem zk_at_239 {L : Nat} {xs : Nat → Int} {w : zW} (hb : zBase L xs w) : zk w 239 = 12 := (hb.2.2 (239, 12, 48) (List.mem_of_getElem? (i := 238) rfl)).1
theorem zl_at_239 {L : Nat} {xs : Nat → Int} {w : zW} (hb : zBase L xs w) : zl w 239 = 48 := (hb.2.2 (239, 12, 48) (List.mem_of_getElem? (i := 238) rfl)).2
theorem z_ld {L : Nat} {xs : Nat → Int} {w : zW} (hL : L ≤ 2048) (hb : zBase L xs w) {k j : Nat} (h4 : 4 * k + 4 ≤ L) (hj : j < 4) : zN (((4 * k : Nat) : Int) + (j : Int)) = ((4 * k + j : Nat) : Int) := by
  rw [zN_of (by omega) (by omega)]
  omega
theorem z_switch {L : Nat} {xs : Nat → Int} {w : zW} {Q : Option zV → zW → Prop} (hL : L ≤ 2048) (hb : zBase L xs w) {k : Nat} (h4 : 4 * k + 4 ≤ L)
    (q0 : zR 155 112 (zLs4 ((4 * k : Nat) : Int)) [] w Q) (q1 : zR 155 155 (zLs4 ((4 * k : Nat) : Int)) [] w Q) (q2 : zR 155 178 (zLs4 ((4 * k : Nat) : Int)) [] w Q) (q3 : zR 155 201 (zLs4 ((4 * k : Nat) : Int)) [] w Q) (q4 : zR 155 244 (zLs4 ((4 * k : Nat) : Int)) [] w Q) (q5 : zR 155 267 (zLs4 ((4 * k : Nat) : Int)) [] w Q) (q6 : zR 155 300 (zLs4 ((4 * k : Nat) : Int)) [] w Q) (q7 : zR 155 333 (zLs4 ((4 * k : Nat) : Int)) [] w Q) (q8 : zR 155 366 (zLs4 ((4 * k : Nat) : Int)) [] w Q) (q9 : zR 155 399 (zLs4 ((4 * k : Nat) : Int)) [] w Q) (q10 : zR 155 432 (zLs4 ((4 * k : Nat) : Int)) [] w Q) (q11 : zR 155 465 (zLs4 ((4 * k : Nat) : Int)) [] w Q) (q12 : zR 155 498 (zLs4 ((4 * k : Nat) : Int)) [] w Q) (q13 : zR 155 531 (zLs4 ((4 * k : Nat) : Int)) [] w Q) (q14 : zR 155 564 (zLs4 ((4 * k : Nat) : Int)) [] w Q) (q15 : zR 155 597 (zLs4 ((4 * k : Nat) : Int)) [] w Q) : zR 155 26 (zLs4 ((4 * k : Nat) : Int)) [] w Q := by
  obtain ⟨⟨s1, s2, s3⟩, -⟩ := id hb
  have e0 : zN (((4 * k : Nat) : Int)) = ((4 * k : Nat) : Int) := zN_of (by omega) (by omega)
  obtain ⟨t, ht, hx⟩ := z_and15 (xs (4 * k))
  rw [zr_155_26, zr_155_27, zr_155_28 ⟨Or.inr s1, by omega, by omega⟩, e0, Int.toNat_natCast, s3, zr_155_29, zr_155_31]
  match t, ht, hx with
  | 0, _, hx => rw [zr_155_32k0 hx]; exact q0
  | 1, _, hx => rw [zr_155_32k1 hx]; exact q1
  | 2, _, hx => rw [zr_155_32k2 hx]; exact q2
  | 3, _, hx => rw [zr_155_32k3 hx]; exact q3
  | 4, _, hx => rw [zr_155_32k4 hx]; exact q4
  | 5, _, hx => rw [zr_155_32k5 hx]; exact q5
  | 6, _, hx => rw [zr_155_32k6 hx]; exact q6
  | 7, _, hx => rw [zr_155_32k7 hx]; exact q7
  | 8, _, hx => rw [zr_155_32k8 hx]; exact q8
  | 9, _, hx => rw [zr_155_32k9 hx]; exact q9
  | 10, _, hx => rw [zr_155_32k10 hx]; exact q10
  | 11, _, hx => rw [zr_155_32k11 hx]; exact q11
  | 12, _, hx => rw [zr_155_32k12 hx]; exact q12
  | 13, _, hx => rw [zr_155_32k13 hx]; exact q13
  | 14, _, hx => rw [zr_155_32k14 hx]; exact q14
  | 15, _, hx => rw [zr_155_32k15 hx]; exact q15
  | n + 16, h, _ => exact absurd h (by omega)
