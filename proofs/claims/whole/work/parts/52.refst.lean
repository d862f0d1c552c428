-- the reference's state as a function of array (or field) and index; the world made of the class's part and of it
abbrev zSt : Type := Nat → Int → Int
def zv (s : zSt) (a : Nat) (j x : Int) : zSt := fun b k => if b = a then (if k = j then x else s b k) else s b k
theorem zv_eq {s : zSt} {a : Nat} {j x : Int} : zv s a j x a j = x := (if_pos rfl).trans (if_pos rfl)
theorem zv_ne {s : zSt} {a b : Nat} {j k x : Int} (h : b ≠ a) : zv s a j x b k = s b k := if_neg h
theorem zv_nj {s : zSt} {a b : Nat} {j k x : Int} (h : k ≠ j) : zv s a j x b k = s b k := by
  unfold zv
  by_cases e : b = a
  · rw [if_pos e, if_neg h]
  · rw [if_neg e]
theorem zWx {a b : zW} (h1 : a.1 = b.1) (h2 : ∀ f h, zf a f h = zf b f h) (h3 : ∀ f h, zp a f h = zp b f h) (h4 : ∀ h j, za a h j = za b h j) (h5 : ∀ h j, zb a h j = zb b h j) : a = b := by
  obtain ⟨a1, a2, a3, a4, a5⟩ := a
  obtain ⟨b1, b2, b3, b4, b5⟩ := b
  have e2 : a2 = b2 := funext fun f => funext fun h => h2 f h
  have e3 : a3 = b3 := funext fun f => funext fun h => h3 f h
  have e4 : a4 = b4 := funext fun f => funext fun h => h4 f h
  have e5 : a5 = b5 := funext fun f => funext fun h => h5 f h
  have e1 : a1 = b1 := h1
  rw [e1, e2, e3, e4, e5]
def zmk (c : zW) (s : zSt) : zW := (c.1, fun f h => if h = 194 ∧ 72 ≤ f ∧ f < 195 then s f 0 else zf c f h, c.2.2.1, fun h j => if 195 ≤ h ∧ h ≤ 239 then s h (j : Int) else za c h j, c.2.2.2.2)
theorem v_k {c : zW} {s : zSt} {h : Nat} : zk (zmk c s) h = zk c h := rfl
theorem v_l {c : zW} {s : zSt} {h : Nat} : zl (zmk c s) h = zl c h := rfl
theorem v_p {c : zW} {s : zSt} {f h : Nat} : zp (zmk c s) f h = zp c f h := rfl
theorem v_b {c : zW} {s : zSt} {h j : Nat} : zb (zmk c s) h j = zb c h j := rfl
theorem v_f {c : zW} {s : zSt} {f : Nat} (hf : 72 ≤ f ∧ f < 195) : zf (zmk c s) f 194 = s f 0 := if_pos ⟨rfl, hf⟩
theorem v_fo {c : zW} {s : zSt} {f h : Nat} (hh : h ≠ 194) : zf (zmk c s) f h = zf c f h := if_neg (fun e => hh e.1)
theorem v_a {c : zW} {s : zSt} {h j : Nat} (h1 : 195 ≤ h) (h2 : h ≤ 239) : za (zmk c s) h j = s h (j : Int) := if_pos ⟨h1, h2⟩
theorem v_ao {c : zW} {s : zSt} {h j : Nat} (hh : h < 195 ∨ 239 < h) : za (zmk c s) h j = za c h j := if_neg (fun e => by omega)
theorem v_sf {c : zW} {s : zSt} {f : Nat} {x : Int} (hf : 72 ≤ f ∧ f < 195) : zsf (zmk c s) f 194 x = zmk c (zv s f 0 x) := by
  refine zWx rfl (fun g h => ?_) (fun _ _ => rfl) (fun h j => ?_) (fun _ _ => rfl)
  · by_cases e2 : h = 194
    · subst e2
      by_cases e1 : g = f
      · subst e1
        rw [u_f_eq, v_f hf, zv_eq]
      · rw [u_f_ne e1]
        by_cases e3 : 72 ≤ g ∧ g < 195
        · rw [v_f e3, v_f e3, zv_ne e1]
        · exact (if_neg (fun e => e3 e.2)).trans (if_neg (fun e => e3 e.2)).symm
    · rw [u_f_nh e2, v_fo e2, v_fo e2]
  · show za (zmk c s) h j = _
    by_cases e : 195 ≤ h ∧ h ≤ 239
    · rw [v_a e.1 e.2, v_a e.1 e.2, zv_ne (by omega)]
    · rw [v_ao (by omega), v_ao (by omega)]
theorem v_sa {c : zW} {s : zSt} {h k : Nat} {x : Int} (h1 : 195 ≤ h) (h2 : h ≤ 239) : zsa (zmk c s) h k x = zmk c (zv s h (k : Int) x) := by
  refine zWx rfl (fun g i => ?_) (fun _ _ => rfl) (fun i j => ?_) (fun _ _ => rfl)
  · show zf (zmk c s) g i = _
    by_cases e : i = 194 ∧ 72 ≤ g ∧ g < 195
    · obtain ⟨e1, e2⟩ := e
      subst e1
      rw [v_f e2, v_f e2, zv_ne (by omega)]
    · exact (if_neg e).trans (if_neg e).symm
  · by_cases e : i = h
    · subst e
      rw [v_a h1 h2]
      by_cases e2 : j = k
      · subst e2
        rw [u_a_eq, zv_eq]
      · rw [u_a_nj e2, v_a h1 h2, zv_nj (by omega)]
    · rw [u_a_ne e]
      by_cases e3 : 195 ≤ i ∧ i ≤ 239
      · rw [v_a e3.1 e3.2, v_a e3.1 e3.2, zv_ne e]
      · rw [v_ao (by omega), v_ao (by omega)]
theorem ra {c : zW} {s : zSt} {h : Nat} {j : Int} (h1 : 195 ≤ h) (h2 : h ≤ 239) (j1 : 0 ≤ j) (j2 : j < 100000) : za (zmk c s) h (zN j).toNat = s h j := by
  rw [zN_of (by omega) (by omega), v_a h1 h2, Int.toNat_of_nonneg j1]
theorem rsa {c : zW} {s : zSt} {h : Nat} {j x : Int} (h1 : 195 ≤ h) (h2 : h ≤ 239) (j1 : 0 ≤ j) (j2 : j < 100000) : zsa (zmk c s) h (zN j).toNat x = zmk c (zv s h j x) := by
  rw [zN_of (by omega) (by omega), v_sa h1 h2, Int.toNat_of_nonneg j1]
-- the class's part is made for the reference: kinds and lengths of its cells, its pointers
def zRTab : List (Nat × Nat × Nat) := [(194, 11, 52), (195, 12, 8), (196, 12, 8), (197, 12, 8), (198, 13, 8), (199, 12, 8), (200, 12, 8), (201, 12, 768), (202, 12, 7), (203, 12, 448), (204, 12, 448), (205, 12, 448), (206, 12, 14336), (207, 12, 7), (208, 12, 7), (209, 12, 7), (210, 12, 7), (211, 12, 7), (212, 12, 7), (213, 12, 7), (214, 12, 168), (215, 12, 2), (216, 12, 2), (217, 12, 2), (218, 12, 2), (219, 12, 2), (220, 12, 32), (221, 12, 2), (222, 12, 2), (223, 12, 2), (224, 12, 16), (225, 12, 16), (226, 12, 32), (227, 12, 2), (228, 12, 12), (229, 12, 40), (230, 12, 32), (231, 12, 40), (232, 12, 40), (233, 12, 1280), (234, 12, 40), (235, 12, 40), (236, 12, 40), (237, 12, 40), (238, 12, 1280), (239, 12, 48)]
def zRPtr : List (Nat × Nat) := [(73, 195), (74, 196), (75, 197), (76, 198), (77, 199), (78, 200), (79, 201), (80, 202), (81, 203), (82, 204), (83, 205), (84, 206), (85, 207), (86, 208), (87, 209), (88, 210), (89, 211), (90, 212), (91, 213), (92, 214), (93, 215), (94, 216), (95, 217), (96, 218), (97, 219), (98, 220), (99, 221), (101, 222), (102, 223), (103, 224), (105, 225), (107, 226), (108, 227), (109, 228), (110, 229), (112, 230), (114, 231), (115, 232), (116, 233), (117, 234), (118, 235), (119, 236), (120, 237), (121, 238), (123, 239)]
def zKR (c : zW) : Prop := (∀ e ∈ zRTab, zk c e.1 = e.2.1 ∧ zl c e.1 = e.2.2) ∧ (∀ e ∈ zRPtr, zp c e.1 194 = some e.2)
theorem rk_194 {c : zW} {s : zSt} (hc : zKR c) : zk (zmk c s) 194 = 11 := (hc.1 (194, 11, 52) (List.mem_of_getElem? (i := 0) rfl)).1
theorem rk_195 {c : zW} {s : zSt} (hc : zKR c) : zk (zmk c s) 195 = 12 := (hc.1 (195, 12, 8) (List.mem_of_getElem? (i := 1) rfl)).1
theorem rl_195 {c : zW} {s : zSt} (hc : zKR c) : zl (zmk c s) 195 = 8 := (hc.1 (195, 12, 8) (List.mem_of_getElem? (i := 1) rfl)).2
theorem ri_195 {c : zW} {s : zSt} (hc : zKR c) {j : Int} (h1 : 0 ≤ j) (h2 : j < 8) : (zk (zmk c s) 195 = zNC ∨ zk (zmk c s) 195 = zNC + 2) ∧ 0 ≤ zN j ∧ zN j < zl (zmk c s) 195 := ⟨Or.inl (rk_195 hc), by rw [zN_of (by omega) (by omega)]; exact h1, by rw [zN_of (by omega) (by omega), rl_195 hc]; exact h2⟩
theorem rs_195 {c : zW} {s : zSt} (hc : zKR c) {j : Int} (h1 : 0 ≤ j) (h2 : j < 8) : zk (zmk c s) 195 = zNC ∧ 0 ≤ zN j ∧ zN j < zl (zmk c s) 195 := ⟨rk_195 hc, by rw [zN_of (by omega) (by omega)]; exact h1, by rw [zN_of (by omega) (by omega), rl_195 hc]; exact h2⟩
theorem rk_196 {c : zW} {s : zSt} (hc : zKR c) : zk (zmk c s) 196 = 12 := (hc.1 (196, 12, 8) (List.mem_of_getElem? (i := 2) rfl)).1
theorem rl_196 {c : zW} {s : zSt} (hc : zKR c) : zl (zmk c s) 196 = 8 := (hc.1 (196, 12, 8) (List.mem_of_getElem? (i := 2) rfl)).2
theorem ri_196 {c : zW} {s : zSt} (hc : zKR c) {j : Int} (h1 : 0 ≤ j) (h2 : j < 8) : (zk (zmk c s) 196 = zNC ∨ zk (zmk c s) 196 = zNC + 2) ∧ 0 ≤ zN j ∧ zN j < zl (zmk c s) 196 := ⟨Or.inl (rk_196 hc), by rw [zN_of (by omega) (by omega)]; exact h1, by rw [zN_of (by omega) (by omega), rl_196 hc]; exact h2⟩
theorem rs_196 {c : zW} {s : zSt} (hc : zKR c) {j : Int} (h1 : 0 ≤ j) (h2 : j < 8) : zk (zmk c s) 196 = zNC ∧ 0 ≤ zN j ∧ zN j < zl (zmk c s) 196 := ⟨rk_196 hc, by rw [zN_of (by omega) (by omega)]; exact h1, by rw [zN_of (by omega) (by omega), rl_196 hc]; exact h2⟩
theorem rk_197 {c : zW} {s : zSt} (hc : zKR c) : zk (zmk c s) 197 = 12 := (hc.1 (197, 12, 8) (List.mem_of_getElem? (i := 3) rfl)).1
theorem rl_197 {c : zW} {s : zSt} (hc : zKR c) : zl (zmk c s) 197 = 8 := (hc.1 (197, 12, 8) (List.mem_of_getElem? (i := 3) rfl)).2
theorem ri_197 {c : zW} {s : zSt} (hc : zKR c) {j : Int} (h1 : 0 ≤ j) (h2 : j < 8) : (zk (zmk c s) 197 = zNC ∨ zk (zmk c s) 197 = zNC + 2) ∧ 0 ≤ zN j ∧ zN j < zl (zmk c s) 197 := ⟨Or.inl (rk_197 hc), by rw [zN_of (by omega) (by omega)]; exact h1, by rw [zN_of (by omega) (by omega), rl_197 hc]; exact h2⟩
theorem rs_197 {c : zW} {s : zSt} (hc : zKR c) {j : Int} (h1 : 0 ≤ j) (h2 : j < 8) : zk (zmk c s) 197 = zNC ∧ 0 ≤ zN j ∧ zN j < zl (zmk c s) 197 := ⟨rk_197 hc, by rw [zN_of (by omega) (by omega)]; exact h1, by rw [zN_of (by omega) (by omega), rl_197 hc]; exact h2⟩
theorem rk_198 {c : zW} {s : zSt} (hc : zKR c) : zk (zmk c s) 198 = 13 := (hc.1 (198, 13, 8) (List.mem_of_getElem? (i := 4) rfl)).1
theorem rl_198 {c : zW} {s : zSt} (hc : zKR c) : zl (zmk c s) 198 = 8 := (hc.1 (198, 13, 8) (List.mem_of_getElem? (i := 4) rfl)).2
theorem ri_198 {c : zW} {s : zSt} (hc : zKR c) {j : Int} (h1 : 0 ≤ j) (h2 : j < 8) : zk (zmk c s) 198 = zNC + 1 ∧ 0 ≤ zN j ∧ zN j < zl (zmk c s) 198 := ⟨rk_198 hc, by rw [zN_of (by omega) (by omega)]; exact h1, by rw [zN_of (by omega) (by omega), rl_198 hc]; exact h2⟩
theorem rs_198 {c : zW} {s : zSt} (hc : zKR c) {j x : Int} (h1 : 0 ≤ j) (h2 : j < 8) (hx : zN x = 0 ∨ zN x = 1) : zk (zmk c s) 198 = zNC + 1 ∧ 0 ≤ zN j ∧ zN j < zl (zmk c s) 198 ∧ (zN x = 0 ∨ zN x = 1) := ⟨rk_198 hc, by rw [zN_of (by omega) (by omega)]; exact h1, by rw [zN_of (by omega) (by omega), rl_198 hc]; exact h2, hx⟩
theorem rk_199 {c : zW} {s : zSt} (hc : zKR c) : zk (zmk c s) 199 = 12 := (hc.1 (199, 12, 8) (List.mem_of_getElem? (i := 5) rfl)).1
theorem rl_199 {c : zW} {s : zSt} (hc : zKR c) : zl (zmk c s) 199 = 8 := (hc.1 (199, 12, 8) (List.mem_of_getElem? (i := 5) rfl)).2
theorem ri_199 {c : zW} {s : zSt} (hc : zKR c) {j : Int} (h1 : 0 ≤ j) (h2 : j < 8) : (zk (zmk c s) 199 = zNC ∨ zk (zmk c s) 199 = zNC + 2) ∧ 0 ≤ zN j ∧ zN j < zl (zmk c s) 199 := ⟨Or.inl (rk_199 hc), by rw [zN_of (by omega) (by omega)]; exact h1, by rw [zN_of (by omega) (by omega), rl_199 hc]; exact h2⟩
theorem rs_199 {c : zW} {s : zSt} (hc : zKR c) {j : Int} (h1 : 0 ≤ j) (h2 : j < 8) : zk (zmk c s) 199 = zNC ∧ 0 ≤ zN j ∧ zN j < zl (zmk c s) 199 := ⟨rk_199 hc, by rw [zN_of (by omega) (by omega)]; exact h1, by rw [zN_of (by omega) (by omega), rl_199 hc]; exact h2⟩
theorem rk_200 {c : zW} {s : zSt} (hc : zKR c) : zk (zmk c s) 200 = 12 := (hc.1 (200, 12, 8) (List.mem_of_getElem? (i := 6) rfl)).1
theorem rl_200 {c : zW} {s : zSt} (hc : zKR c) : zl (zmk c s) 200 = 8 := (hc.1 (200, 12, 8) (List.mem_of_getElem? (i := 6) rfl)).2
theorem ri_200 {c : zW} {s : zSt} (hc : zKR c) {j : Int} (h1 : 0 ≤ j) (h2 : j < 8) : (zk (zmk c s) 200 = zNC ∨ zk (zmk c s) 200 = zNC + 2) ∧ 0 ≤ zN j ∧ zN j < zl (zmk c s) 200 := ⟨Or.inl (rk_200 hc), by rw [zN_of (by omega) (by omega)]; exact h1, by rw [zN_of (by omega) (by omega), rl_200 hc]; exact h2⟩
theorem rs_200 {c : zW} {s : zSt} (hc : zKR c) {j : Int} (h1 : 0 ≤ j) (h2 : j < 8) : zk (zmk c s) 200 = zNC ∧ 0 ≤ zN j ∧ zN j < zl (zmk c s) 200 := ⟨rk_200 hc, by rw [zN_of (by omega) (by omega)]; exact h1, by rw [zN_of (by omega) (by omega), rl_200 hc]; exact h2⟩
theorem rk_201 {c : zW} {s : zSt} (hc : zKR c) : zk (zmk c s) 201 = 12 := (hc.1 (201, 12, 768) (List.mem_of_getElem? (i := 7) rfl)).1
theorem rl_201 {c : zW} {s : zSt} (hc : zKR c) : zl (zmk c s) 201 = 768 := (hc.1 (201, 12, 768) (List.mem_of_getElem? (i := 7) rfl)).2
theorem ri_201 {c : zW} {s : zSt} (hc : zKR c) {j : Int} (h1 : 0 ≤ j) (h2 : j < 768) : (zk (zmk c s) 201 = zNC ∨ zk (zmk c s) 201 = zNC + 2) ∧ 0 ≤ zN j ∧ zN j < zl (zmk c s) 201 := ⟨Or.inl (rk_201 hc), by rw [zN_of (by omega) (by omega)]; exact h1, by rw [zN_of (by omega) (by omega), rl_201 hc]; exact h2⟩
theorem rs_201 {c : zW} {s : zSt} (hc : zKR c) {j : Int} (h1 : 0 ≤ j) (h2 : j < 768) : zk (zmk c s) 201 = zNC ∧ 0 ≤ zN j ∧ zN j < zl (zmk c s) 201 := ⟨rk_201 hc, by rw [zN_of (by omega) (by omega)]; exact h1, by rw [zN_of (by omega) (by omega), rl_201 hc]; exact h2⟩
theorem rk_202 {c : zW} {s : zSt} (hc : zKR c) : zk (zmk c s) 202 = 12 := (hc.1 (202, 12, 7) (List.mem_of_getElem? (i := 8) rfl)).1
theorem rl_202 {c : zW} {s : zSt} (hc : zKR c) : zl (zmk c s) 202 = 7 := (hc.1 (202, 12, 7) (List.mem_of_getElem? (i := 8) rfl)).2
theorem ri_202 {c : zW} {s : zSt} (hc : zKR c) {j : Int} (h1 : 0 ≤ j) (h2 : j < 7) : (zk (zmk c s) 202 = zNC ∨ zk (zmk c s) 202 = zNC + 2) ∧ 0 ≤ zN j ∧ zN j < zl (zmk c s) 202 := ⟨Or.inl (rk_202 hc), by rw [zN_of (by omega) (by omega)]; exact h1, by rw [zN_of (by omega) (by omega), rl_202 hc]; exact h2⟩
theorem rs_202 {c : zW} {s : zSt} (hc : zKR c) {j : Int} (h1 : 0 ≤ j) (h2 : j < 7) : zk (zmk c s) 202 = zNC ∧ 0 ≤ zN j ∧ zN j < zl (zmk c s) 202 := ⟨rk_202 hc, by rw [zN_of (by omega) (by omega)]; exact h1, by rw [zN_of (by omega) (by omega), rl_202 hc]; exact h2⟩
theorem rk_203 {c : zW} {s : zSt} (hc : zKR c) : zk (zmk c s) 203 = 12 := (hc.1 (203, 12, 448) (List.mem_of_getElem? (i := 9) rfl)).1
theorem rl_203 {c : zW} {s : zSt} (hc : zKR c) : zl (zmk c s) 203 = 448 := (hc.1 (203, 12, 448) (List.mem_of_getElem? (i := 9) rfl)).2
theorem ri_203 {c : zW} {s : zSt} (hc : zKR c) {j : Int} (h1 : 0 ≤ j) (h2 : j < 448) : (zk (zmk c s) 203 = zNC ∨ zk (zmk c s) 203 = zNC + 2) ∧ 0 ≤ zN j ∧ zN j < zl (zmk c s) 203 := ⟨Or.inl (rk_203 hc), by rw [zN_of (by omega) (by omega)]; exact h1, by rw [zN_of (by omega) (by omega), rl_203 hc]; exact h2⟩
theorem rs_203 {c : zW} {s : zSt} (hc : zKR c) {j : Int} (h1 : 0 ≤ j) (h2 : j < 448) : zk (zmk c s) 203 = zNC ∧ 0 ≤ zN j ∧ zN j < zl (zmk c s) 203 := ⟨rk_203 hc, by rw [zN_of (by omega) (by omega)]; exact h1, by rw [zN_of (by omega) (by omega), rl_203 hc]; exact h2⟩
theorem rk_204 {c : zW} {s : zSt} (hc : zKR c) : zk (zmk c s) 204 = 12 := (hc.1 (204, 12, 448) (List.mem_of_getElem? (i := 10) rfl)).1
theorem rl_204 {c : zW} {s : zSt} (hc : zKR c) : zl (zmk c s) 204 = 448 := (hc.1 (204, 12, 448) (List.mem_of_getElem? (i := 10) rfl)).2
theorem ri_204 {c : zW} {s : zSt} (hc : zKR c) {j : Int} (h1 : 0 ≤ j) (h2 : j < 448) : (zk (zmk c s) 204 = zNC ∨ zk (zmk c s) 204 = zNC + 2) ∧ 0 ≤ zN j ∧ zN j < zl (zmk c s) 204 := ⟨Or.inl (rk_204 hc), by rw [zN_of (by omega) (by omega)]; exact h1, by rw [zN_of (by omega) (by omega), rl_204 hc]; exact h2⟩
theorem rs_204 {c : zW} {s : zSt} (hc : zKR c) {j : Int} (h1 : 0 ≤ j) (h2 : j < 448) : zk (zmk c s) 204 = zNC ∧ 0 ≤ zN j ∧ zN j < zl (zmk c s) 204 := ⟨rk_204 hc, by rw [zN_of (by omega) (by omega)]; exact h1, by rw [zN_of (by omega) (by omega), rl_204 hc]; exact h2⟩
theorem rk_205 {c : zW} {s : zSt} (hc : zKR c) : zk (zmk c s) 205 = 12 := (hc.1 (205, 12, 448) (List.mem_of_getElem? (i := 11) rfl)).1
theorem rl_205 {c : zW} {s : zSt} (hc : zKR c) : zl (zmk c s) 205 = 448 := (hc.1 (205, 12, 448) (List.mem_of_getElem? (i := 11) rfl)).2
theorem ri_205 {c : zW} {s : zSt} (hc : zKR c) {j : Int} (h1 : 0 ≤ j) (h2 : j < 448) : (zk (zmk c s) 205 = zNC ∨ zk (zmk c s) 205 = zNC + 2) ∧ 0 ≤ zN j ∧ zN j < zl (zmk c s) 205 := ⟨Or.inl (rk_205 hc), by rw [zN_of (by omega) (by omega)]; exact h1, by rw [zN_of (by omega) (by omega), rl_205 hc]; exact h2⟩
theorem rs_205 {c : zW} {s : zSt} (hc : zKR c) {j : Int} (h1 : 0 ≤ j) (h2 : j < 448) : zk (zmk c s) 205 = zNC ∧ 0 ≤ zN j ∧ zN j < zl (zmk c s) 205 := ⟨rk_205 hc, by rw [zN_of (by omega) (by omega)]; exact h1, by rw [zN_of (by omega) (by omega), rl_205 hc]; exact h2⟩
theorem rk_206 {c : zW} {s : zSt} (hc : zKR c) : zk (zmk c s) 206 = 12 := (hc.1 (206, 12, 14336) (List.mem_of_getElem? (i := 12) rfl)).1
theorem rl_206 {c : zW} {s : zSt} (hc : zKR c) : zl (zmk c s) 206 = 14336 := (hc.1 (206, 12, 14336) (List.mem_of_getElem? (i := 12) rfl)).2
theorem ri_206 {c : zW} {s : zSt} (hc : zKR c) {j : Int} (h1 : 0 ≤ j) (h2 : j < 14336) : (zk (zmk c s) 206 = zNC ∨ zk (zmk c s) 206 = zNC + 2) ∧ 0 ≤ zN j ∧ zN j < zl (zmk c s) 206 := ⟨Or.inl (rk_206 hc), by rw [zN_of (by omega) (by omega)]; exact h1, by rw [zN_of (by omega) (by omega), rl_206 hc]; exact h2⟩
theorem rs_206 {c : zW} {s : zSt} (hc : zKR c) {j : Int} (h1 : 0 ≤ j) (h2 : j < 14336) : zk (zmk c s) 206 = zNC ∧ 0 ≤ zN j ∧ zN j < zl (zmk c s) 206 := ⟨rk_206 hc, by rw [zN_of (by omega) (by omega)]; exact h1, by rw [zN_of (by omega) (by omega), rl_206 hc]; exact h2⟩
theorem rk_207 {c : zW} {s : zSt} (hc : zKR c) : zk (zmk c s) 207 = 12 := (hc.1 (207, 12, 7) (List.mem_of_getElem? (i := 13) rfl)).1
theorem rl_207 {c : zW} {s : zSt} (hc : zKR c) : zl (zmk c s) 207 = 7 := (hc.1 (207, 12, 7) (List.mem_of_getElem? (i := 13) rfl)).2
theorem ri_207 {c : zW} {s : zSt} (hc : zKR c) {j : Int} (h1 : 0 ≤ j) (h2 : j < 7) : (zk (zmk c s) 207 = zNC ∨ zk (zmk c s) 207 = zNC + 2) ∧ 0 ≤ zN j ∧ zN j < zl (zmk c s) 207 := ⟨Or.inl (rk_207 hc), by rw [zN_of (by omega) (by omega)]; exact h1, by rw [zN_of (by omega) (by omega), rl_207 hc]; exact h2⟩
theorem rs_207 {c : zW} {s : zSt} (hc : zKR c) {j : Int} (h1 : 0 ≤ j) (h2 : j < 7) : zk (zmk c s) 207 = zNC ∧ 0 ≤ zN j ∧ zN j < zl (zmk c s) 207 := ⟨rk_207 hc, by rw [zN_of (by omega) (by omega)]; exact h1, by rw [zN_of (by omega) (by omega), rl_207 hc]; exact h2⟩
theorem rk_208 {c : zW} {s : zSt} (hc : zKR c) : zk (zmk c s) 208 = 12 := (hc.1 (208, 12, 7) (List.mem_of_getElem? (i := 14) rfl)).1
theorem rl_208 {c : zW} {s : zSt} (hc : zKR c) : zl (zmk c s) 208 = 7 := (hc.1 (208, 12, 7) (List.mem_of_getElem? (i := 14) rfl)).2
theorem ri_208 {c : zW} {s : zSt} (hc : zKR c) {j : Int} (h1 : 0 ≤ j) (h2 : j < 7) : (zk (zmk c s) 208 = zNC ∨ zk (zmk c s) 208 = zNC + 2) ∧ 0 ≤ zN j ∧ zN j < zl (zmk c s) 208 := ⟨Or.inl (rk_208 hc), by rw [zN_of (by omega) (by omega)]; exact h1, by rw [zN_of (by omega) (by omega), rl_208 hc]; exact h2⟩
theorem rs_208 {c : zW} {s : zSt} (hc : zKR c) {j : Int} (h1 : 0 ≤ j) (h2 : j < 7) : zk (zmk c s) 208 = zNC ∧ 0 ≤ zN j ∧ zN j < zl (zmk c s) 208 := ⟨rk_208 hc, by rw [zN_of (by omega) (by omega)]; exact h1, by rw [zN_of (by omega) (by omega), rl_208 hc]; exact h2⟩
theorem rk_209 {c : zW} {s : zSt} (hc : zKR c) : zk (zmk c s) 209 = 12 := (hc.1 (209, 12, 7) (List.mem_of_getElem? (i := 15) rfl)).1
theorem rl_209 {c : zW} {s : zSt} (hc : zKR c) : zl (zmk c s) 209 = 7 := (hc.1 (209, 12, 7) (List.mem_of_getElem? (i := 15) rfl)).2
theorem ri_209 {c : zW} {s : zSt} (hc : zKR c) {j : Int} (h1 : 0 ≤ j) (h2 : j < 7) : (zk (zmk c s) 209 = zNC ∨ zk (zmk c s) 209 = zNC + 2) ∧ 0 ≤ zN j ∧ zN j < zl (zmk c s) 209 := ⟨Or.inl (rk_209 hc), by rw [zN_of (by omega) (by omega)]; exact h1, by rw [zN_of (by omega) (by omega), rl_209 hc]; exact h2⟩
theorem rs_209 {c : zW} {s : zSt} (hc : zKR c) {j : Int} (h1 : 0 ≤ j) (h2 : j < 7) : zk (zmk c s) 209 = zNC ∧ 0 ≤ zN j ∧ zN j < zl (zmk c s) 209 := ⟨rk_209 hc, by rw [zN_of (by omega) (by omega)]; exact h1, by rw [zN_of (by omega) (by omega), rl_209 hc]; exact h2⟩
theorem rk_210 {c : zW} {s : zSt} (hc : zKR c) : zk (zmk c s) 210 = 12 := (hc.1 (210, 12, 7) (List.mem_of_getElem? (i := 16) rfl)).1
theorem rl_210 {c : zW} {s : zSt} (hc : zKR c) : zl (zmk c s) 210 = 7 := (hc.1 (210, 12, 7) (List.mem_of_getElem? (i := 16) rfl)).2
theorem ri_210 {c : zW} {s : zSt} (hc : zKR c) {j : Int} (h1 : 0 ≤ j) (h2 : j < 7) : (zk (zmk c s) 210 = zNC ∨ zk (zmk c s) 210 = zNC + 2) ∧ 0 ≤ zN j ∧ zN j < zl (zmk c s) 210 := ⟨Or.inl (rk_210 hc), by rw [zN_of (by omega) (by omega)]; exact h1, by rw [zN_of (by omega) (by omega), rl_210 hc]; exact h2⟩
theorem rs_210 {c : zW} {s : zSt} (hc : zKR c) {j : Int} (h1 : 0 ≤ j) (h2 : j < 7) : zk (zmk c s) 210 = zNC ∧ 0 ≤ zN j ∧ zN j < zl (zmk c s) 210 := ⟨rk_210 hc, by rw [zN_of (by omega) (by omega)]; exact h1, by rw [zN_of (by omega) (by omega), rl_210 hc]; exact h2⟩
theorem rk_211 {c : zW} {s : zSt} (hc : zKR c) : zk (zmk c s) 211 = 12 := (hc.1 (211, 12, 7) (List.mem_of_getElem? (i := 17) rfl)).1
theorem rl_211 {c : zW} {s : zSt} (hc : zKR c) : zl (zmk c s) 211 = 7 := (hc.1 (211, 12, 7) (List.mem_of_getElem? (i := 17) rfl)).2
theorem ri_211 {c : zW} {s : zSt} (hc : zKR c) {j : Int} (h1 : 0 ≤ j) (h2 : j < 7) : (zk (zmk c s) 211 = zNC ∨ zk (zmk c s) 211 = zNC + 2) ∧ 0 ≤ zN j ∧ zN j < zl (zmk c s) 211 := ⟨Or.inl (rk_211 hc), by rw [zN_of (by omega) (by omega)]; exact h1, by rw [zN_of (by omega) (by omega), rl_211 hc]; exact h2⟩
theorem rs_211 {c : zW} {s : zSt} (hc : zKR c) {j : Int} (h1 : 0 ≤ j) (h2 : j < 7) : zk (zmk c s) 211 = zNC ∧ 0 ≤ zN j ∧ zN j < zl (zmk c s) 211 := ⟨rk_211 hc, by rw [zN_of (by omega) (by omega)]; exact h1, by rw [zN_of (by omega) (by omega), rl_211 hc]; exact h2⟩
theorem rk_212 {c : zW} {s : zSt} (hc : zKR c) : zk (zmk c s) 212 = 12 := (hc.1 (212, 12, 7) (List.mem_of_getElem? (i := 18) rfl)).1
theorem rl_212 {c : zW} {s : zSt} (hc : zKR c) : zl (zmk c s) 212 = 7 := (hc.1 (212, 12, 7) (List.mem_of_getElem? (i := 18) rfl)).2
theorem ri_212 {c : zW} {s : zSt} (hc : zKR c) {j : Int} (h1 : 0 ≤ j) (h2 : j < 7) : (zk (zmk c s) 212 = zNC ∨ zk (zmk c s) 212 = zNC + 2) ∧ 0 ≤ zN j ∧ zN j < zl (zmk c s) 212 := ⟨Or.inl (rk_212 hc), by rw [zN_of (by omega) (by omega)]; exact h1, by rw [zN_of (by omega) (by omega), rl_212 hc]; exact h2⟩
theorem rs_212 {c : zW} {s : zSt} (hc : zKR c) {j : Int} (h1 : 0 ≤ j) (h2 : j < 7) : zk (zmk c s) 212 = zNC ∧ 0 ≤ zN j ∧ zN j < zl (zmk c s) 212 := ⟨rk_212 hc, by rw [zN_of (by omega) (by omega)]; exact h1, by rw [zN_of (by omega) (by omega), rl_212 hc]; exact h2⟩
theorem rk_213 {c : zW} {s : zSt} (hc : zKR c) : zk (zmk c s) 213 = 12 := (hc.1 (213, 12, 7) (List.mem_of_getElem? (i := 19) rfl)).1
theorem rl_213 {c : zW} {s : zSt} (hc : zKR c) : zl (zmk c s) 213 = 7 := (hc.1 (213, 12, 7) (List.mem_of_getElem? (i := 19) rfl)).2
theorem ri_213 {c : zW} {s : zSt} (hc : zKR c) {j : Int} (h1 : 0 ≤ j) (h2 : j < 7) : (zk (zmk c s) 213 = zNC ∨ zk (zmk c s) 213 = zNC + 2) ∧ 0 ≤ zN j ∧ zN j < zl (zmk c s) 213 := ⟨Or.inl (rk_213 hc), by rw [zN_of (by omega) (by omega)]; exact h1, by rw [zN_of (by omega) (by omega), rl_213 hc]; exact h2⟩
theorem rs_213 {c : zW} {s : zSt} (hc : zKR c) {j : Int} (h1 : 0 ≤ j) (h2 : j < 7) : zk (zmk c s) 213 = zNC ∧ 0 ≤ zN j ∧ zN j < zl (zmk c s) 213 := ⟨rk_213 hc, by rw [zN_of (by omega) (by omega)]; exact h1, by rw [zN_of (by omega) (by omega), rl_213 hc]; exact h2⟩
theorem rk_214 {c : zW} {s : zSt} (hc : zKR c) : zk (zmk c s) 214 = 12 := (hc.1 (214, 12, 168) (List.mem_of_getElem? (i := 20) rfl)).1
theorem rl_214 {c : zW} {s : zSt} (hc : zKR c) : zl (zmk c s) 214 = 168 := (hc.1 (214, 12, 168) (List.mem_of_getElem? (i := 20) rfl)).2
theorem ri_214 {c : zW} {s : zSt} (hc : zKR c) {j : Int} (h1 : 0 ≤ j) (h2 : j < 168) : (zk (zmk c s) 214 = zNC ∨ zk (zmk c s) 214 = zNC + 2) ∧ 0 ≤ zN j ∧ zN j < zl (zmk c s) 214 := ⟨Or.inl (rk_214 hc), by rw [zN_of (by omega) (by omega)]; exact h1, by rw [zN_of (by omega) (by omega), rl_214 hc]; exact h2⟩
theorem rs_214 {c : zW} {s : zSt} (hc : zKR c) {j : Int} (h1 : 0 ≤ j) (h2 : j < 168) : zk (zmk c s) 214 = zNC ∧ 0 ≤ zN j ∧ zN j < zl (zmk c s) 214 := ⟨rk_214 hc, by rw [zN_of (by omega) (by omega)]; exact h1, by rw [zN_of (by omega) (by omega), rl_214 hc]; exact h2⟩
theorem rk_215 {c : zW} {s : zSt} (hc : zKR c) : zk (zmk c s) 215 = 12 := (hc.1 (215, 12, 2) (List.mem_of_getElem? (i := 21) rfl)).1
theorem rl_215 {c : zW} {s : zSt} (hc : zKR c) : zl (zmk c s) 215 = 2 := (hc.1 (215, 12, 2) (List.mem_of_getElem? (i := 21) rfl)).2
theorem ri_215 {c : zW} {s : zSt} (hc : zKR c) {j : Int} (h1 : 0 ≤ j) (h2 : j < 2) : (zk (zmk c s) 215 = zNC ∨ zk (zmk c s) 215 = zNC + 2) ∧ 0 ≤ zN j ∧ zN j < zl (zmk c s) 215 := ⟨Or.inl (rk_215 hc), by rw [zN_of (by omega) (by omega)]; exact h1, by rw [zN_of (by omega) (by omega), rl_215 hc]; exact h2⟩
theorem rs_215 {c : zW} {s : zSt} (hc : zKR c) {j : Int} (h1 : 0 ≤ j) (h2 : j < 2) : zk (zmk c s) 215 = zNC ∧ 0 ≤ zN j ∧ zN j < zl (zmk c s) 215 := ⟨rk_215 hc, by rw [zN_of (by omega) (by omega)]; exact h1, by rw [zN_of (by omega) (by omega), rl_215 hc]; exact h2⟩
theorem rk_216 {c : zW} {s : zSt} (hc : zKR c) : zk (zmk c s) 216 = 12 := (hc.1 (216, 12, 2) (List.mem_of_getElem? (i := 22) rfl)).1
theorem rl_216 {c : zW} {s : zSt} (hc : zKR c) : zl (zmk c s) 216 = 2 := (hc.1 (216, 12, 2) (List.mem_of_getElem? (i := 22) rfl)).2
theorem ri_216 {c : zW} {s : zSt} (hc : zKR c) {j : Int} (h1 : 0 ≤ j) (h2 : j < 2) : (zk (zmk c s) 216 = zNC ∨ zk (zmk c s) 216 = zNC + 2) ∧ 0 ≤ zN j ∧ zN j < zl (zmk c s) 216 := ⟨Or.inl (rk_216 hc), by rw [zN_of (by omega) (by omega)]; exact h1, by rw [zN_of (by omega) (by omega), rl_216 hc]; exact h2⟩
theorem rs_216 {c : zW} {s : zSt} (hc : zKR c) {j : Int} (h1 : 0 ≤ j) (h2 : j < 2) : zk (zmk c s) 216 = zNC ∧ 0 ≤ zN j ∧ zN j < zl (zmk c s) 216 := ⟨rk_216 hc, by rw [zN_of (by omega) (by omega)]; exact h1, by rw [zN_of (by omega) (by omega), rl_216 hc]; exact h2⟩
theorem rk_217 {c : zW} {s : zSt} (hc : zKR c) : zk (zmk c s) 217 = 12 := (hc.1 (217, 12, 2) (List.mem_of_getElem? (i := 23) rfl)).1
theorem rl_217 {c : zW} {s : zSt} (hc : zKR c) : zl (zmk c s) 217 = 2 := (hc.1 (217, 12, 2) (List.mem_of_getElem? (i := 23) rfl)).2
theorem ri_217 {c : zW} {s : zSt} (hc : zKR c) {j : Int} (h1 : 0 ≤ j) (h2 : j < 2) : (zk (zmk c s) 217 = zNC ∨ zk (zmk c s) 217 = zNC + 2) ∧ 0 ≤ zN j ∧ zN j < zl (zmk c s) 217 := ⟨Or.inl (rk_217 hc), by rw [zN_of (by omega) (by omega)]; exact h1, by rw [zN_of (by omega) (by omega), rl_217 hc]; exact h2⟩
theorem rs_217 {c : zW} {s : zSt} (hc : zKR c) {j : Int} (h1 : 0 ≤ j) (h2 : j < 2) : zk (zmk c s) 217 = zNC ∧ 0 ≤ zN j ∧ zN j < zl (zmk c s) 217 := ⟨rk_217 hc, by rw [zN_of (by omega) (by omega)]; exact h1, by rw [zN_of (by omega) (by omega), rl_217 hc]; exact h2⟩
theorem rk_218 {c : zW} {s : zSt} (hc : zKR c) : zk (zmk c s) 218 = 12 := (hc.1 (218, 12, 2) (List.mem_of_getElem? (i := 24) rfl)).1
theorem rl_218 {c : zW} {s : zSt} (hc : zKR c) : zl (zmk c s) 218 = 2 := (hc.1 (218, 12, 2) (List.mem_of_getElem? (i := 24) rfl)).2
theorem ri_218 {c : zW} {s : zSt} (hc : zKR c) {j : Int} (h1 : 0 ≤ j) (h2 : j < 2) : (zk (zmk c s) 218 = zNC ∨ zk (zmk c s) 218 = zNC + 2) ∧ 0 ≤ zN j ∧ zN j < zl (zmk c s) 218 := ⟨Or.inl (rk_218 hc), by rw [zN_of (by omega) (by omega)]; exact h1, by rw [zN_of (by omega) (by omega), rl_218 hc]; exact h2⟩
theorem rs_218 {c : zW} {s : zSt} (hc : zKR c) {j : Int} (h1 : 0 ≤ j) (h2 : j < 2) : zk (zmk c s) 218 = zNC ∧ 0 ≤ zN j ∧ zN j < zl (zmk c s) 218 := ⟨rk_218 hc, by rw [zN_of (by omega) (by omega)]; exact h1, by rw [zN_of (by omega) (by omega), rl_218 hc]; exact h2⟩
theorem rk_219 {c : zW} {s : zSt} (hc : zKR c) : zk (zmk c s) 219 = 12 := (hc.1 (219, 12, 2) (List.mem_of_getElem? (i := 25) rfl)).1
theorem rl_219 {c : zW} {s : zSt} (hc : zKR c) : zl (zmk c s) 219 = 2 := (hc.1 (219, 12, 2) (List.mem_of_getElem? (i := 25) rfl)).2
theorem ri_219 {c : zW} {s : zSt} (hc : zKR c) {j : Int} (h1 : 0 ≤ j) (h2 : j < 2) : (zk (zmk c s) 219 = zNC ∨ zk (zmk c s) 219 = zNC + 2) ∧ 0 ≤ zN j ∧ zN j < zl (zmk c s) 219 := ⟨Or.inl (rk_219 hc), by rw [zN_of (by omega) (by omega)]; exact h1, by rw [zN_of (by omega) (by omega), rl_219 hc]; exact h2⟩
theorem rs_219 {c : zW} {s : zSt} (hc : zKR c) {j : Int} (h1 : 0 ≤ j) (h2 : j < 2) : zk (zmk c s) 219 = zNC ∧ 0 ≤ zN j ∧ zN j < zl (zmk c s) 219 := ⟨rk_219 hc, by rw [zN_of (by omega) (by omega)]; exact h1, by rw [zN_of (by omega) (by omega), rl_219 hc]; exact h2⟩
theorem rk_220 {c : zW} {s : zSt} (hc : zKR c) : zk (zmk c s) 220 = 12 := (hc.1 (220, 12, 32) (List.mem_of_getElem? (i := 26) rfl)).1
theorem rl_220 {c : zW} {s : zSt} (hc : zKR c) : zl (zmk c s) 220 = 32 := (hc.1 (220, 12, 32) (List.mem_of_getElem? (i := 26) rfl)).2
theorem ri_220 {c : zW} {s : zSt} (hc : zKR c) {j : Int} (h1 : 0 ≤ j) (h2 : j < 32) : (zk (zmk c s) 220 = zNC ∨ zk (zmk c s) 220 = zNC + 2) ∧ 0 ≤ zN j ∧ zN j < zl (zmk c s) 220 := ⟨Or.inl (rk_220 hc), by rw [zN_of (by omega) (by omega)]; exact h1, by rw [zN_of (by omega) (by omega), rl_220 hc]; exact h2⟩
theorem rs_220 {c : zW} {s : zSt} (hc : zKR c) {j : Int} (h1 : 0 ≤ j) (h2 : j < 32) : zk (zmk c s) 220 = zNC ∧ 0 ≤ zN j ∧ zN j < zl (zmk c s) 220 := ⟨rk_220 hc, by rw [zN_of (by omega) (by omega)]; exact h1, by rw [zN_of (by omega) (by omega), rl_220 hc]; exact h2⟩
theorem rk_221 {c : zW} {s : zSt} (hc : zKR c) : zk (zmk c s) 221 = 12 := (hc.1 (221, 12, 2) (List.mem_of_getElem? (i := 27) rfl)).1
theorem rl_221 {c : zW} {s : zSt} (hc : zKR c) : zl (zmk c s) 221 = 2 := (hc.1 (221, 12, 2) (List.mem_of_getElem? (i := 27) rfl)).2
theorem ri_221 {c : zW} {s : zSt} (hc : zKR c) {j : Int} (h1 : 0 ≤ j) (h2 : j < 2) : (zk (zmk c s) 221 = zNC ∨ zk (zmk c s) 221 = zNC + 2) ∧ 0 ≤ zN j ∧ zN j < zl (zmk c s) 221 := ⟨Or.inl (rk_221 hc), by rw [zN_of (by omega) (by omega)]; exact h1, by rw [zN_of (by omega) (by omega), rl_221 hc]; exact h2⟩
theorem rs_221 {c : zW} {s : zSt} (hc : zKR c) {j : Int} (h1 : 0 ≤ j) (h2 : j < 2) : zk (zmk c s) 221 = zNC ∧ 0 ≤ zN j ∧ zN j < zl (zmk c s) 221 := ⟨rk_221 hc, by rw [zN_of (by omega) (by omega)]; exact h1, by rw [zN_of (by omega) (by omega), rl_221 hc]; exact h2⟩
theorem rk_222 {c : zW} {s : zSt} (hc : zKR c) : zk (zmk c s) 222 = 12 := (hc.1 (222, 12, 2) (List.mem_of_getElem? (i := 28) rfl)).1
theorem rl_222 {c : zW} {s : zSt} (hc : zKR c) : zl (zmk c s) 222 = 2 := (hc.1 (222, 12, 2) (List.mem_of_getElem? (i := 28) rfl)).2
theorem ri_222 {c : zW} {s : zSt} (hc : zKR c) {j : Int} (h1 : 0 ≤ j) (h2 : j < 2) : (zk (zmk c s) 222 = zNC ∨ zk (zmk c s) 222 = zNC + 2) ∧ 0 ≤ zN j ∧ zN j < zl (zmk c s) 222 := ⟨Or.inl (rk_222 hc), by rw [zN_of (by omega) (by omega)]; exact h1, by rw [zN_of (by omega) (by omega), rl_222 hc]; exact h2⟩
theorem rs_222 {c : zW} {s : zSt} (hc : zKR c) {j : Int} (h1 : 0 ≤ j) (h2 : j < 2) : zk (zmk c s) 222 = zNC ∧ 0 ≤ zN j ∧ zN j < zl (zmk c s) 222 := ⟨rk_222 hc, by rw [zN_of (by omega) (by omega)]; exact h1, by rw [zN_of (by omega) (by omega), rl_222 hc]; exact h2⟩
theorem rk_223 {c : zW} {s : zSt} (hc : zKR c) : zk (zmk c s) 223 = 12 := (hc.1 (223, 12, 2) (List.mem_of_getElem? (i := 29) rfl)).1
theorem rl_223 {c : zW} {s : zSt} (hc : zKR c) : zl (zmk c s) 223 = 2 := (hc.1 (223, 12, 2) (List.mem_of_getElem? (i := 29) rfl)).2
theorem ri_223 {c : zW} {s : zSt} (hc : zKR c) {j : Int} (h1 : 0 ≤ j) (h2 : j < 2) : (zk (zmk c s) 223 = zNC ∨ zk (zmk c s) 223 = zNC + 2) ∧ 0 ≤ zN j ∧ zN j < zl (zmk c s) 223 := ⟨Or.inl (rk_223 hc), by rw [zN_of (by omega) (by omega)]; exact h1, by rw [zN_of (by omega) (by omega), rl_223 hc]; exact h2⟩
theorem rs_223 {c : zW} {s : zSt} (hc : zKR c) {j : Int} (h1 : 0 ≤ j) (h2 : j < 2) : zk (zmk c s) 223 = zNC ∧ 0 ≤ zN j ∧ zN j < zl (zmk c s) 223 := ⟨rk_223 hc, by rw [zN_of (by omega) (by omega)]; exact h1, by rw [zN_of (by omega) (by omega), rl_223 hc]; exact h2⟩
theorem rk_224 {c : zW} {s : zSt} (hc : zKR c) : zk (zmk c s) 224 = 12 := (hc.1 (224, 12, 16) (List.mem_of_getElem? (i := 30) rfl)).1
theorem rl_224 {c : zW} {s : zSt} (hc : zKR c) : zl (zmk c s) 224 = 16 := (hc.1 (224, 12, 16) (List.mem_of_getElem? (i := 30) rfl)).2
theorem ri_224 {c : zW} {s : zSt} (hc : zKR c) {j : Int} (h1 : 0 ≤ j) (h2 : j < 16) : (zk (zmk c s) 224 = zNC ∨ zk (zmk c s) 224 = zNC + 2) ∧ 0 ≤ zN j ∧ zN j < zl (zmk c s) 224 := ⟨Or.inl (rk_224 hc), by rw [zN_of (by omega) (by omega)]; exact h1, by rw [zN_of (by omega) (by omega), rl_224 hc]; exact h2⟩
theorem rs_224 {c : zW} {s : zSt} (hc : zKR c) {j : Int} (h1 : 0 ≤ j) (h2 : j < 16) : zk (zmk c s) 224 = zNC ∧ 0 ≤ zN j ∧ zN j < zl (zmk c s) 224 := ⟨rk_224 hc, by rw [zN_of (by omega) (by omega)]; exact h1, by rw [zN_of (by omega) (by omega), rl_224 hc]; exact h2⟩
theorem rk_225 {c : zW} {s : zSt} (hc : zKR c) : zk (zmk c s) 225 = 12 := (hc.1 (225, 12, 16) (List.mem_of_getElem? (i := 31) rfl)).1
theorem rl_225 {c : zW} {s : zSt} (hc : zKR c) : zl (zmk c s) 225 = 16 := (hc.1 (225, 12, 16) (List.mem_of_getElem? (i := 31) rfl)).2
theorem ri_225 {c : zW} {s : zSt} (hc : zKR c) {j : Int} (h1 : 0 ≤ j) (h2 : j < 16) : (zk (zmk c s) 225 = zNC ∨ zk (zmk c s) 225 = zNC + 2) ∧ 0 ≤ zN j ∧ zN j < zl (zmk c s) 225 := ⟨Or.inl (rk_225 hc), by rw [zN_of (by omega) (by omega)]; exact h1, by rw [zN_of (by omega) (by omega), rl_225 hc]; exact h2⟩
theorem rs_225 {c : zW} {s : zSt} (hc : zKR c) {j : Int} (h1 : 0 ≤ j) (h2 : j < 16) : zk (zmk c s) 225 = zNC ∧ 0 ≤ zN j ∧ zN j < zl (zmk c s) 225 := ⟨rk_225 hc, by rw [zN_of (by omega) (by omega)]; exact h1, by rw [zN_of (by omega) (by omega), rl_225 hc]; exact h2⟩
theorem rk_226 {c : zW} {s : zSt} (hc : zKR c) : zk (zmk c s) 226 = 12 := (hc.1 (226, 12, 32) (List.mem_of_getElem? (i := 32) rfl)).1
theorem rl_226 {c : zW} {s : zSt} (hc : zKR c) : zl (zmk c s) 226 = 32 := (hc.1 (226, 12, 32) (List.mem_of_getElem? (i := 32) rfl)).2
theorem ri_226 {c : zW} {s : zSt} (hc : zKR c) {j : Int} (h1 : 0 ≤ j) (h2 : j < 32) : (zk (zmk c s) 226 = zNC ∨ zk (zmk c s) 226 = zNC + 2) ∧ 0 ≤ zN j ∧ zN j < zl (zmk c s) 226 := ⟨Or.inl (rk_226 hc), by rw [zN_of (by omega) (by omega)]; exact h1, by rw [zN_of (by omega) (by omega), rl_226 hc]; exact h2⟩
theorem rs_226 {c : zW} {s : zSt} (hc : zKR c) {j : Int} (h1 : 0 ≤ j) (h2 : j < 32) : zk (zmk c s) 226 = zNC ∧ 0 ≤ zN j ∧ zN j < zl (zmk c s) 226 := ⟨rk_226 hc, by rw [zN_of (by omega) (by omega)]; exact h1, by rw [zN_of (by omega) (by omega), rl_226 hc]; exact h2⟩
theorem rk_227 {c : zW} {s : zSt} (hc : zKR c) : zk (zmk c s) 227 = 12 := (hc.1 (227, 12, 2) (List.mem_of_getElem? (i := 33) rfl)).1
theorem rl_227 {c : zW} {s : zSt} (hc : zKR c) : zl (zmk c s) 227 = 2 := (hc.1 (227, 12, 2) (List.mem_of_getElem? (i := 33) rfl)).2
theorem ri_227 {c : zW} {s : zSt} (hc : zKR c) {j : Int} (h1 : 0 ≤ j) (h2 : j < 2) : (zk (zmk c s) 227 = zNC ∨ zk (zmk c s) 227 = zNC + 2) ∧ 0 ≤ zN j ∧ zN j < zl (zmk c s) 227 := ⟨Or.inl (rk_227 hc), by rw [zN_of (by omega) (by omega)]; exact h1, by rw [zN_of (by omega) (by omega), rl_227 hc]; exact h2⟩
theorem rs_227 {c : zW} {s : zSt} (hc : zKR c) {j : Int} (h1 : 0 ≤ j) (h2 : j < 2) : zk (zmk c s) 227 = zNC ∧ 0 ≤ zN j ∧ zN j < zl (zmk c s) 227 := ⟨rk_227 hc, by rw [zN_of (by omega) (by omega)]; exact h1, by rw [zN_of (by omega) (by omega), rl_227 hc]; exact h2⟩
theorem rk_228 {c : zW} {s : zSt} (hc : zKR c) : zk (zmk c s) 228 = 12 := (hc.1 (228, 12, 12) (List.mem_of_getElem? (i := 34) rfl)).1
theorem rl_228 {c : zW} {s : zSt} (hc : zKR c) : zl (zmk c s) 228 = 12 := (hc.1 (228, 12, 12) (List.mem_of_getElem? (i := 34) rfl)).2
theorem ri_228 {c : zW} {s : zSt} (hc : zKR c) {j : Int} (h1 : 0 ≤ j) (h2 : j < 12) : (zk (zmk c s) 228 = zNC ∨ zk (zmk c s) 228 = zNC + 2) ∧ 0 ≤ zN j ∧ zN j < zl (zmk c s) 228 := ⟨Or.inl (rk_228 hc), by rw [zN_of (by omega) (by omega)]; exact h1, by rw [zN_of (by omega) (by omega), rl_228 hc]; exact h2⟩
theorem rs_228 {c : zW} {s : zSt} (hc : zKR c) {j : Int} (h1 : 0 ≤ j) (h2 : j < 12) : zk (zmk c s) 228 = zNC ∧ 0 ≤ zN j ∧ zN j < zl (zmk c s) 228 := ⟨rk_228 hc, by rw [zN_of (by omega) (by omega)]; exact h1, by rw [zN_of (by omega) (by omega), rl_228 hc]; exact h2⟩
theorem rk_229 {c : zW} {s : zSt} (hc : zKR c) : zk (zmk c s) 229 = 12 := (hc.1 (229, 12, 40) (List.mem_of_getElem? (i := 35) rfl)).1
theorem rl_229 {c : zW} {s : zSt} (hc : zKR c) : zl (zmk c s) 229 = 40 := (hc.1 (229, 12, 40) (List.mem_of_getElem? (i := 35) rfl)).2
theorem ri_229 {c : zW} {s : zSt} (hc : zKR c) {j : Int} (h1 : 0 ≤ j) (h2 : j < 40) : (zk (zmk c s) 229 = zNC ∨ zk (zmk c s) 229 = zNC + 2) ∧ 0 ≤ zN j ∧ zN j < zl (zmk c s) 229 := ⟨Or.inl (rk_229 hc), by rw [zN_of (by omega) (by omega)]; exact h1, by rw [zN_of (by omega) (by omega), rl_229 hc]; exact h2⟩
theorem rs_229 {c : zW} {s : zSt} (hc : zKR c) {j : Int} (h1 : 0 ≤ j) (h2 : j < 40) : zk (zmk c s) 229 = zNC ∧ 0 ≤ zN j ∧ zN j < zl (zmk c s) 229 := ⟨rk_229 hc, by rw [zN_of (by omega) (by omega)]; exact h1, by rw [zN_of (by omega) (by omega), rl_229 hc]; exact h2⟩
theorem rk_230 {c : zW} {s : zSt} (hc : zKR c) : zk (zmk c s) 230 = 12 := (hc.1 (230, 12, 32) (List.mem_of_getElem? (i := 36) rfl)).1
theorem rl_230 {c : zW} {s : zSt} (hc : zKR c) : zl (zmk c s) 230 = 32 := (hc.1 (230, 12, 32) (List.mem_of_getElem? (i := 36) rfl)).2
theorem ri_230 {c : zW} {s : zSt} (hc : zKR c) {j : Int} (h1 : 0 ≤ j) (h2 : j < 32) : (zk (zmk c s) 230 = zNC ∨ zk (zmk c s) 230 = zNC + 2) ∧ 0 ≤ zN j ∧ zN j < zl (zmk c s) 230 := ⟨Or.inl (rk_230 hc), by rw [zN_of (by omega) (by omega)]; exact h1, by rw [zN_of (by omega) (by omega), rl_230 hc]; exact h2⟩
theorem rs_230 {c : zW} {s : zSt} (hc : zKR c) {j : Int} (h1 : 0 ≤ j) (h2 : j < 32) : zk (zmk c s) 230 = zNC ∧ 0 ≤ zN j ∧ zN j < zl (zmk c s) 230 := ⟨rk_230 hc, by rw [zN_of (by omega) (by omega)]; exact h1, by rw [zN_of (by omega) (by omega), rl_230 hc]; exact h2⟩
theorem rk_231 {c : zW} {s : zSt} (hc : zKR c) : zk (zmk c s) 231 = 12 := (hc.1 (231, 12, 40) (List.mem_of_getElem? (i := 37) rfl)).1
theorem rl_231 {c : zW} {s : zSt} (hc : zKR c) : zl (zmk c s) 231 = 40 := (hc.1 (231, 12, 40) (List.mem_of_getElem? (i := 37) rfl)).2
theorem ri_231 {c : zW} {s : zSt} (hc : zKR c) {j : Int} (h1 : 0 ≤ j) (h2 : j < 40) : (zk (zmk c s) 231 = zNC ∨ zk (zmk c s) 231 = zNC + 2) ∧ 0 ≤ zN j ∧ zN j < zl (zmk c s) 231 := ⟨Or.inl (rk_231 hc), by rw [zN_of (by omega) (by omega)]; exact h1, by rw [zN_of (by omega) (by omega), rl_231 hc]; exact h2⟩
theorem rs_231 {c : zW} {s : zSt} (hc : zKR c) {j : Int} (h1 : 0 ≤ j) (h2 : j < 40) : zk (zmk c s) 231 = zNC ∧ 0 ≤ zN j ∧ zN j < zl (zmk c s) 231 := ⟨rk_231 hc, by rw [zN_of (by omega) (by omega)]; exact h1, by rw [zN_of (by omega) (by omega), rl_231 hc]; exact h2⟩
theorem rk_232 {c : zW} {s : zSt} (hc : zKR c) : zk (zmk c s) 232 = 12 := (hc.1 (232, 12, 40) (List.mem_of_getElem? (i := 38) rfl)).1
theorem rl_232 {c : zW} {s : zSt} (hc : zKR c) : zl (zmk c s) 232 = 40 := (hc.1 (232, 12, 40) (List.mem_of_getElem? (i := 38) rfl)).2
theorem ri_232 {c : zW} {s : zSt} (hc : zKR c) {j : Int} (h1 : 0 ≤ j) (h2 : j < 40) : (zk (zmk c s) 232 = zNC ∨ zk (zmk c s) 232 = zNC + 2) ∧ 0 ≤ zN j ∧ zN j < zl (zmk c s) 232 := ⟨Or.inl (rk_232 hc), by rw [zN_of (by omega) (by omega)]; exact h1, by rw [zN_of (by omega) (by omega), rl_232 hc]; exact h2⟩
theorem rs_232 {c : zW} {s : zSt} (hc : zKR c) {j : Int} (h1 : 0 ≤ j) (h2 : j < 40) : zk (zmk c s) 232 = zNC ∧ 0 ≤ zN j ∧ zN j < zl (zmk c s) 232 := ⟨rk_232 hc, by rw [zN_of (by omega) (by omega)]; exact h1, by rw [zN_of (by omega) (by omega), rl_232 hc]; exact h2⟩
theorem rk_233 {c : zW} {s : zSt} (hc : zKR c) : zk (zmk c s) 233 = 12 := (hc.1 (233, 12, 1280) (List.mem_of_getElem? (i := 39) rfl)).1
theorem rl_233 {c : zW} {s : zSt} (hc : zKR c) : zl (zmk c s) 233 = 1280 := (hc.1 (233, 12, 1280) (List.mem_of_getElem? (i := 39) rfl)).2
theorem ri_233 {c : zW} {s : zSt} (hc : zKR c) {j : Int} (h1 : 0 ≤ j) (h2 : j < 1280) : (zk (zmk c s) 233 = zNC ∨ zk (zmk c s) 233 = zNC + 2) ∧ 0 ≤ zN j ∧ zN j < zl (zmk c s) 233 := ⟨Or.inl (rk_233 hc), by rw [zN_of (by omega) (by omega)]; exact h1, by rw [zN_of (by omega) (by omega), rl_233 hc]; exact h2⟩
theorem rs_233 {c : zW} {s : zSt} (hc : zKR c) {j : Int} (h1 : 0 ≤ j) (h2 : j < 1280) : zk (zmk c s) 233 = zNC ∧ 0 ≤ zN j ∧ zN j < zl (zmk c s) 233 := ⟨rk_233 hc, by rw [zN_of (by omega) (by omega)]; exact h1, by rw [zN_of (by omega) (by omega), rl_233 hc]; exact h2⟩
theorem rk_234 {c : zW} {s : zSt} (hc : zKR c) : zk (zmk c s) 234 = 12 := (hc.1 (234, 12, 40) (List.mem_of_getElem? (i := 40) rfl)).1
theorem rl_234 {c : zW} {s : zSt} (hc : zKR c) : zl (zmk c s) 234 = 40 := (hc.1 (234, 12, 40) (List.mem_of_getElem? (i := 40) rfl)).2
theorem ri_234 {c : zW} {s : zSt} (hc : zKR c) {j : Int} (h1 : 0 ≤ j) (h2 : j < 40) : (zk (zmk c s) 234 = zNC ∨ zk (zmk c s) 234 = zNC + 2) ∧ 0 ≤ zN j ∧ zN j < zl (zmk c s) 234 := ⟨Or.inl (rk_234 hc), by rw [zN_of (by omega) (by omega)]; exact h1, by rw [zN_of (by omega) (by omega), rl_234 hc]; exact h2⟩
theorem rs_234 {c : zW} {s : zSt} (hc : zKR c) {j : Int} (h1 : 0 ≤ j) (h2 : j < 40) : zk (zmk c s) 234 = zNC ∧ 0 ≤ zN j ∧ zN j < zl (zmk c s) 234 := ⟨rk_234 hc, by rw [zN_of (by omega) (by omega)]; exact h1, by rw [zN_of (by omega) (by omega), rl_234 hc]; exact h2⟩
theorem rk_235 {c : zW} {s : zSt} (hc : zKR c) : zk (zmk c s) 235 = 12 := (hc.1 (235, 12, 40) (List.mem_of_getElem? (i := 41) rfl)).1
theorem rl_235 {c : zW} {s : zSt} (hc : zKR c) : zl (zmk c s) 235 = 40 := (hc.1 (235, 12, 40) (List.mem_of_getElem? (i := 41) rfl)).2
theorem ri_235 {c : zW} {s : zSt} (hc : zKR c) {j : Int} (h1 : 0 ≤ j) (h2 : j < 40) : (zk (zmk c s) 235 = zNC ∨ zk (zmk c s) 235 = zNC + 2) ∧ 0 ≤ zN j ∧ zN j < zl (zmk c s) 235 := ⟨Or.inl (rk_235 hc), by rw [zN_of (by omega) (by omega)]; exact h1, by rw [zN_of (by omega) (by omega), rl_235 hc]; exact h2⟩
theorem rs_235 {c : zW} {s : zSt} (hc : zKR c) {j : Int} (h1 : 0 ≤ j) (h2 : j < 40) : zk (zmk c s) 235 = zNC ∧ 0 ≤ zN j ∧ zN j < zl (zmk c s) 235 := ⟨rk_235 hc, by rw [zN_of (by omega) (by omega)]; exact h1, by rw [zN_of (by omega) (by omega), rl_235 hc]; exact h2⟩
theorem rk_236 {c : zW} {s : zSt} (hc : zKR c) : zk (zmk c s) 236 = 12 := (hc.1 (236, 12, 40) (List.mem_of_getElem? (i := 42) rfl)).1
theorem rl_236 {c : zW} {s : zSt} (hc : zKR c) : zl (zmk c s) 236 = 40 := (hc.1 (236, 12, 40) (List.mem_of_getElem? (i := 42) rfl)).2
theorem ri_236 {c : zW} {s : zSt} (hc : zKR c) {j : Int} (h1 : 0 ≤ j) (h2 : j < 40) : (zk (zmk c s) 236 = zNC ∨ zk (zmk c s) 236 = zNC + 2) ∧ 0 ≤ zN j ∧ zN j < zl (zmk c s) 236 := ⟨Or.inl (rk_236 hc), by rw [zN_of (by omega) (by omega)]; exact h1, by rw [zN_of (by omega) (by omega), rl_236 hc]; exact h2⟩
theorem rs_236 {c : zW} {s : zSt} (hc : zKR c) {j : Int} (h1 : 0 ≤ j) (h2 : j < 40) : zk (zmk c s) 236 = zNC ∧ 0 ≤ zN j ∧ zN j < zl (zmk c s) 236 := ⟨rk_236 hc, by rw [zN_of (by omega) (by omega)]; exact h1, by rw [zN_of (by omega) (by omega), rl_236 hc]; exact h2⟩
theorem rk_237 {c : zW} {s : zSt} (hc : zKR c) : zk (zmk c s) 237 = 12 := (hc.1 (237, 12, 40) (List.mem_of_getElem? (i := 43) rfl)).1
theorem rl_237 {c : zW} {s : zSt} (hc : zKR c) : zl (zmk c s) 237 = 40 := (hc.1 (237, 12, 40) (List.mem_of_getElem? (i := 43) rfl)).2
theorem ri_237 {c : zW} {s : zSt} (hc : zKR c) {j : Int} (h1 : 0 ≤ j) (h2 : j < 40) : (zk (zmk c s) 237 = zNC ∨ zk (zmk c s) 237 = zNC + 2) ∧ 0 ≤ zN j ∧ zN j < zl (zmk c s) 237 := ⟨Or.inl (rk_237 hc), by rw [zN_of (by omega) (by omega)]; exact h1, by rw [zN_of (by omega) (by omega), rl_237 hc]; exact h2⟩
theorem rs_237 {c : zW} {s : zSt} (hc : zKR c) {j : Int} (h1 : 0 ≤ j) (h2 : j < 40) : zk (zmk c s) 237 = zNC ∧ 0 ≤ zN j ∧ zN j < zl (zmk c s) 237 := ⟨rk_237 hc, by rw [zN_of (by omega) (by omega)]; exact h1, by rw [zN_of (by omega) (by omega), rl_237 hc]; exact h2⟩
theorem rk_238 {c : zW} {s : zSt} (hc : zKR c) : zk (zmk c s) 238 = 12 := (hc.1 (238, 12, 1280) (List.mem_of_getElem? (i := 44) rfl)).1
theorem rl_238 {c : zW} {s : zSt} (hc : zKR c) : zl (zmk c s) 238 = 1280 := (hc.1 (238, 12, 1280) (List.mem_of_getElem? (i := 44) rfl)).2
theorem ri_238 {c : zW} {s : zSt} (hc : zKR c) {j : Int} (h1 : 0 ≤ j) (h2 : j < 1280) : (zk (zmk c s) 238 = zNC ∨ zk (zmk c s) 238 = zNC + 2) ∧ 0 ≤ zN j ∧ zN j < zl (zmk c s) 238 := ⟨Or.inl (rk_238 hc), by rw [zN_of (by omega) (by omega)]; exact h1, by rw [zN_of (by omega) (by omega), rl_238 hc]; exact h2⟩
theorem rs_238 {c : zW} {s : zSt} (hc : zKR c) {j : Int} (h1 : 0 ≤ j) (h2 : j < 1280) : zk (zmk c s) 238 = zNC ∧ 0 ≤ zN j ∧ zN j < zl (zmk c s) 238 := ⟨rk_238 hc, by rw [zN_of (by omega) (by omega)]; exact h1, by rw [zN_of (by omega) (by omega), rl_238 hc]; exact h2⟩
theorem rk_239 {c : zW} {s : zSt} (hc : zKR c) : zk (zmk c s) 239 = 12 := (hc.1 (239, 12, 48) (List.mem_of_getElem? (i := 45) rfl)).1
theorem rl_239 {c : zW} {s : zSt} (hc : zKR c) : zl (zmk c s) 239 = 48 := (hc.1 (239, 12, 48) (List.mem_of_getElem? (i := 45) rfl)).2
theorem ri_239 {c : zW} {s : zSt} (hc : zKR c) {j : Int} (h1 : 0 ≤ j) (h2 : j < 48) : (zk (zmk c s) 239 = zNC ∨ zk (zmk c s) 239 = zNC + 2) ∧ 0 ≤ zN j ∧ zN j < zl (zmk c s) 239 := ⟨Or.inl (rk_239 hc), by rw [zN_of (by omega) (by omega)]; exact h1, by rw [zN_of (by omega) (by omega), rl_239 hc]; exact h2⟩
theorem rs_239 {c : zW} {s : zSt} (hc : zKR c) {j : Int} (h1 : 0 ≤ j) (h2 : j < 48) : zk (zmk c s) 239 = zNC ∧ 0 ≤ zN j ∧ zN j < zl (zmk c s) 239 := ⟨rk_239 hc, by rw [zN_of (by omega) (by omega)]; exact h1, by rw [zN_of (by omega) (by omega), rl_239 hc]; exact h2⟩
theorem rp_73 {c : zW} {s : zSt} (hc : zKR c) : zp (zmk c s) 73 194 = some 195 := hc.2 (73, 195) (List.mem_of_getElem? (i := 0) rfl)
theorem rp_74 {c : zW} {s : zSt} (hc : zKR c) : zp (zmk c s) 74 194 = some 196 := hc.2 (74, 196) (List.mem_of_getElem? (i := 1) rfl)
theorem rp_75 {c : zW} {s : zSt} (hc : zKR c) : zp (zmk c s) 75 194 = some 197 := hc.2 (75, 197) (List.mem_of_getElem? (i := 2) rfl)
theorem rp_76 {c : zW} {s : zSt} (hc : zKR c) : zp (zmk c s) 76 194 = some 198 := hc.2 (76, 198) (List.mem_of_getElem? (i := 3) rfl)
theorem rp_77 {c : zW} {s : zSt} (hc : zKR c) : zp (zmk c s) 77 194 = some 199 := hc.2 (77, 199) (List.mem_of_getElem? (i := 4) rfl)
theorem rp_78 {c : zW} {s : zSt} (hc : zKR c) : zp (zmk c s) 78 194 = some 200 := hc.2 (78, 200) (List.mem_of_getElem? (i := 5) rfl)
theorem rp_79 {c : zW} {s : zSt} (hc : zKR c) : zp (zmk c s) 79 194 = some 201 := hc.2 (79, 201) (List.mem_of_getElem? (i := 6) rfl)
theorem rp_80 {c : zW} {s : zSt} (hc : zKR c) : zp (zmk c s) 80 194 = some 202 := hc.2 (80, 202) (List.mem_of_getElem? (i := 7) rfl)
theorem rp_81 {c : zW} {s : zSt} (hc : zKR c) : zp (zmk c s) 81 194 = some 203 := hc.2 (81, 203) (List.mem_of_getElem? (i := 8) rfl)
theorem rp_82 {c : zW} {s : zSt} (hc : zKR c) : zp (zmk c s) 82 194 = some 204 := hc.2 (82, 204) (List.mem_of_getElem? (i := 9) rfl)
theorem rp_83 {c : zW} {s : zSt} (hc : zKR c) : zp (zmk c s) 83 194 = some 205 := hc.2 (83, 205) (List.mem_of_getElem? (i := 10) rfl)
theorem rp_84 {c : zW} {s : zSt} (hc : zKR c) : zp (zmk c s) 84 194 = some 206 := hc.2 (84, 206) (List.mem_of_getElem? (i := 11) rfl)
theorem rp_85 {c : zW} {s : zSt} (hc : zKR c) : zp (zmk c s) 85 194 = some 207 := hc.2 (85, 207) (List.mem_of_getElem? (i := 12) rfl)
theorem rp_86 {c : zW} {s : zSt} (hc : zKR c) : zp (zmk c s) 86 194 = some 208 := hc.2 (86, 208) (List.mem_of_getElem? (i := 13) rfl)
theorem rp_87 {c : zW} {s : zSt} (hc : zKR c) : zp (zmk c s) 87 194 = some 209 := hc.2 (87, 209) (List.mem_of_getElem? (i := 14) rfl)
theorem rp_88 {c : zW} {s : zSt} (hc : zKR c) : zp (zmk c s) 88 194 = some 210 := hc.2 (88, 210) (List.mem_of_getElem? (i := 15) rfl)
theorem rp_89 {c : zW} {s : zSt} (hc : zKR c) : zp (zmk c s) 89 194 = some 211 := hc.2 (89, 211) (List.mem_of_getElem? (i := 16) rfl)
theorem rp_90 {c : zW} {s : zSt} (hc : zKR c) : zp (zmk c s) 90 194 = some 212 := hc.2 (90, 212) (List.mem_of_getElem? (i := 17) rfl)
theorem rp_91 {c : zW} {s : zSt} (hc : zKR c) : zp (zmk c s) 91 194 = some 213 := hc.2 (91, 213) (List.mem_of_getElem? (i := 18) rfl)
theorem rp_92 {c : zW} {s : zSt} (hc : zKR c) : zp (zmk c s) 92 194 = some 214 := hc.2 (92, 214) (List.mem_of_getElem? (i := 19) rfl)
theorem rp_93 {c : zW} {s : zSt} (hc : zKR c) : zp (zmk c s) 93 194 = some 215 := hc.2 (93, 215) (List.mem_of_getElem? (i := 20) rfl)
theorem rp_94 {c : zW} {s : zSt} (hc : zKR c) : zp (zmk c s) 94 194 = some 216 := hc.2 (94, 216) (List.mem_of_getElem? (i := 21) rfl)
theorem rp_95 {c : zW} {s : zSt} (hc : zKR c) : zp (zmk c s) 95 194 = some 217 := hc.2 (95, 217) (List.mem_of_getElem? (i := 22) rfl)
theorem rp_96 {c : zW} {s : zSt} (hc : zKR c) : zp (zmk c s) 96 194 = some 218 := hc.2 (96, 218) (List.mem_of_getElem? (i := 23) rfl)
theorem rp_97 {c : zW} {s : zSt} (hc : zKR c) : zp (zmk c s) 97 194 = some 219 := hc.2 (97, 219) (List.mem_of_getElem? (i := 24) rfl)
theorem rp_98 {c : zW} {s : zSt} (hc : zKR c) : zp (zmk c s) 98 194 = some 220 := hc.2 (98, 220) (List.mem_of_getElem? (i := 25) rfl)
theorem rp_99 {c : zW} {s : zSt} (hc : zKR c) : zp (zmk c s) 99 194 = some 221 := hc.2 (99, 221) (List.mem_of_getElem? (i := 26) rfl)
theorem rp_101 {c : zW} {s : zSt} (hc : zKR c) : zp (zmk c s) 101 194 = some 222 := hc.2 (101, 222) (List.mem_of_getElem? (i := 27) rfl)
theorem rp_102 {c : zW} {s : zSt} (hc : zKR c) : zp (zmk c s) 102 194 = some 223 := hc.2 (102, 223) (List.mem_of_getElem? (i := 28) rfl)
theorem rp_103 {c : zW} {s : zSt} (hc : zKR c) : zp (zmk c s) 103 194 = some 224 := hc.2 (103, 224) (List.mem_of_getElem? (i := 29) rfl)
theorem rp_105 {c : zW} {s : zSt} (hc : zKR c) : zp (zmk c s) 105 194 = some 225 := hc.2 (105, 225) (List.mem_of_getElem? (i := 30) rfl)
theorem rp_107 {c : zW} {s : zSt} (hc : zKR c) : zp (zmk c s) 107 194 = some 226 := hc.2 (107, 226) (List.mem_of_getElem? (i := 31) rfl)
theorem rp_108 {c : zW} {s : zSt} (hc : zKR c) : zp (zmk c s) 108 194 = some 227 := hc.2 (108, 227) (List.mem_of_getElem? (i := 32) rfl)
theorem rp_109 {c : zW} {s : zSt} (hc : zKR c) : zp (zmk c s) 109 194 = some 228 := hc.2 (109, 228) (List.mem_of_getElem? (i := 33) rfl)
theorem rp_110 {c : zW} {s : zSt} (hc : zKR c) : zp (zmk c s) 110 194 = some 229 := hc.2 (110, 229) (List.mem_of_getElem? (i := 34) rfl)
theorem rp_112 {c : zW} {s : zSt} (hc : zKR c) : zp (zmk c s) 112 194 = some 230 := hc.2 (112, 230) (List.mem_of_getElem? (i := 35) rfl)
theorem rp_114 {c : zW} {s : zSt} (hc : zKR c) : zp (zmk c s) 114 194 = some 231 := hc.2 (114, 231) (List.mem_of_getElem? (i := 36) rfl)
theorem rp_115 {c : zW} {s : zSt} (hc : zKR c) : zp (zmk c s) 115 194 = some 232 := hc.2 (115, 232) (List.mem_of_getElem? (i := 37) rfl)
theorem rp_116 {c : zW} {s : zSt} (hc : zKR c) : zp (zmk c s) 116 194 = some 233 := hc.2 (116, 233) (List.mem_of_getElem? (i := 38) rfl)
theorem rp_117 {c : zW} {s : zSt} (hc : zKR c) : zp (zmk c s) 117 194 = some 234 := hc.2 (117, 234) (List.mem_of_getElem? (i := 39) rfl)
theorem rp_118 {c : zW} {s : zSt} (hc : zKR c) : zp (zmk c s) 118 194 = some 235 := hc.2 (118, 235) (List.mem_of_getElem? (i := 40) rfl)
theorem rp_119 {c : zW} {s : zSt} (hc : zKR c) : zp (zmk c s) 119 194 = some 236 := hc.2 (119, 236) (List.mem_of_getElem? (i := 41) rfl)
theorem rp_120 {c : zW} {s : zSt} (hc : zKR c) : zp (zmk c s) 120 194 = some 237 := hc.2 (120, 237) (List.mem_of_getElem? (i := 42) rfl)
theorem rp_121 {c : zW} {s : zSt} (hc : zKR c) : zp (zmk c s) 121 194 = some 238 := hc.2 (121, 238) (List.mem_of_getElem? (i := 43) rfl)
theorem rp_123 {c : zW} {s : zSt} (hc : zKR c) : zp (zmk c s) 123 194 = some 239 := hc.2 (123, 239) (List.mem_of_getElem? (i := 44) rfl)
-- a run that ends: method, locals, world; answer, world
def zD (i : Nat) (ls : List (Option zV)) (w : zW) (r : Option zV) (v : zW) : Prop := ∃ n, zx n i 0 ls [] w = some (r, v)
theorem zD.eq {i : Nat} {ls : List (Option zV)} {w : zW} {r : Option zV} {v : zW} (h : zD i ls w r v) {Q : Option zV → zW → Prop} : zR i 0 ls [] w Q = Q r v := by
  obtain ⟨n, hn⟩ := h
  refine propext ⟨fun hr => ?_, fun hq => ⟨n, r, v, hn, hq⟩⟩
  obtain ⟨m, r2, v2, hm, hq⟩ := hr
  have e := zx_det hn hm
  cases e
  exact hq
theorem zD.of {i : Nat} {ls : List (Option zV)} {w : zW} {r : Option zV} {v : zW} (h : zR i 0 ls [] w (fun r2 v2 => r2 = r ∧ v2 = v)) : zD i ls w r v := by
  obtain ⟨m, r2, v2, hm, h1, h2⟩ := h
  subst h1
  subst h2
  exact ⟨m, hm⟩
-- a run of the reference, whatever the class's part is
def zE2 (i : Nat) (ls : List (Option zV)) (s : zSt) (r : Option zV) (s2 : zSt) : Prop := ∀ c, zKR c → zD i ls (zmk c s) r (zmk c s2)
