-- the class: sensors
theorem m_149 {w : zW} {Q : Option zV → zW → Prop} {g : Nat} {s : zSt} {d : Int} (hg : zk w g = 4 ∨ zk w g = 8) (h32 : zf w 32 g = s 207 d) (h33 : zf w 33 g = s 211 d) (h34 : zf w 34 g = s 208 d) (h35 : zf w 35 g = s 209 d) (h36 : zf w 36 g = s 210 d) (hv : -32768 ≤ s 207 d ∧ s 207 d ≤ 32767) (hl : -32768 ≤ s 208 d ∧ s 208 d ≤ 32767) (hh : -32768 ≤ s 209 d ∧ s 209 d ≤ 32767) (hk : 0 ≤ s 210 d ∧ s 210 d ≤ 255) (ht : 0 ≤ s 211 d ∧ s 211 d ≤ 2) : zR 149 0 [some (.inr (some g)), some (.inl (s 211 d))] [] w Q = Q (some (.inl (znw s d))) w := by
  rw [zr_149_0, zr_149_1m (by exact hg), h32, zr_149_4, zr_149_5m (by exact hg), h35, zr_149_8]
  by_cases hb0 : s 209 d < s 207 d
  · rw [zN_of (x := s 207 d) (by omega) (by omega), zN_of (x := s 209 d) (by omega) (by omega), if_pos hb0, zr_149_32, zr_149_33]
    rw [show znw s d = 2 by unfold znw; rw [if_pos (by omega)]]
  · rw [zN_of (x := s 207 d) (by omega) (by omega), zN_of (x := s 209 d) (by omega) (by omega), if_neg hb0, zr_149_11, zr_149_12, zr_149_13]
    by_cases hb1 : s 211 d ≠ 2
    · rw [zN_of (x := s 211 d) (by omega) (by omega), show zN 2 = 2 by decide, if_pos hb1, zr_149_34, zr_149_35m (by exact hg), h32, zr_149_38, zr_149_39m (by exact hg), h34, zr_149_42]
      by_cases hb2 : s 207 d < s 208 d
      · rw [zN_of (x := s 207 d) (by omega) (by omega), zN_of (x := s 208 d) (by omega) (by omega), if_pos hb2, zr_149_66, zr_149_67]
        rw [show znw s d = 1 by unfold znw; rw [if_neg (by omega), if_pos (by omega)]]
      · rw [zN_of (x := s 207 d) (by omega) (by omega), zN_of (x := s 208 d) (by omega) (by omega), if_neg hb2, zr_149_45, zr_149_46, zr_149_47]
        by_cases hb3 : s 211 d ≠ 1
        · rw [zN_of (x := s 211 d) (by omega) (by omega), show zN 1 = 1 by decide, if_pos hb3, zr_149_68, zr_149_69]
          rw [show znw s d = 0 by unfold znw; rw [if_neg (by omega), if_neg (by omega)]]
        · rw [zN_of (x := s 211 d) (by omega) (by omega), show zN 1 = 1 by decide, if_neg hb3, zr_149_50, zr_149_51m (by exact hg), h32, zr_149_54, zr_149_55m (by exact hg), h34, zr_149_58, zr_149_59m (by exact hg), h36, zr_149_62, zr_149_63]
          by_cases hb4 : (s 208 d + s 210 d) < s 207 d
          · rw [zN_of (x := s 207 d) (by omega) (by omega), zN_of (x := (s 208 d + s 210 d)) (by omega) (by omega), if_pos hb4, zr_149_68, zr_149_69]
            rw [show znw s d = 0 by unfold znw; rw [if_neg (by omega), if_neg (by omega)]]
          · rw [zN_of (x := s 207 d) (by omega) (by omega), zN_of (x := (s 208 d + s 210 d)) (by omega) (by omega), if_neg hb4, zr_149_66, zr_149_67]
            rw [show znw s d = 1 by unfold znw; rw [if_neg (by omega), if_pos (by omega)]]
    · rw [zN_of (x := s 211 d) (by omega) (by omega), show zN 2 = 2 by decide, if_neg hb1, zr_149_16, zr_149_17m (by exact hg), h32, zr_149_20, zr_149_21m (by exact hg), h35, zr_149_24, zr_149_25m (by exact hg), h36, zr_149_28, zr_149_29]
      by_cases hb2 : s 207 d < (s 209 d - s 210 d)
      · rw [zN_of (x := s 207 d) (by omega) (by omega), zN_of (x := (s 209 d - s 210 d)) (by omega) (by omega), if_pos hb2, zr_149_34, zr_149_35m (by exact hg), h32, zr_149_38, zr_149_39m (by exact hg), h34, zr_149_42]
        by_cases hb3 : s 207 d < s 208 d
        · rw [zN_of (x := s 207 d) (by omega) (by omega), zN_of (x := s 208 d) (by omega) (by omega), if_pos hb3, zr_149_66, zr_149_67]
          rw [show znw s d = 1 by unfold znw; rw [if_neg (by omega), if_pos (by omega)]]
        · rw [zN_of (x := s 207 d) (by omega) (by omega), zN_of (x := s 208 d) (by omega) (by omega), if_neg hb3, zr_149_45, zr_149_46, zr_149_47]
          by_cases hb4 : s 211 d ≠ 1
          · rw [zN_of (x := s 211 d) (by omega) (by omega), show zN 1 = 1 by decide, if_pos hb4, zr_149_68, zr_149_69]
            rw [show znw s d = 0 by unfold znw; rw [if_neg (by omega), if_neg (by omega)]]
          · rw [zN_of (x := s 211 d) (by omega) (by omega), show zN 1 = 1 by decide, if_neg hb4, zr_149_50, zr_149_51m (by exact hg), h32, zr_149_54, zr_149_55m (by exact hg), h34, zr_149_58, zr_149_59m (by exact hg), h36, zr_149_62, zr_149_63]
            by_cases hb5 : (s 208 d + s 210 d) < s 207 d
            · rw [zN_of (x := s 207 d) (by omega) (by omega), zN_of (x := (s 208 d + s 210 d)) (by omega) (by omega), if_pos hb5, zr_149_68, zr_149_69]
              rw [show znw s d = 0 by unfold znw; rw [if_neg (by omega), if_neg (by omega)]]
            · rw [zN_of (x := s 207 d) (by omega) (by omega), zN_of (x := (s 208 d + s 210 d)) (by omega) (by omega), if_neg hb5, zr_149_66, zr_149_67]
              rw [show znw s d = 1 by unfold znw; rw [if_neg (by omega), if_pos (by omega)]]
      · rw [zN_of (x := s 207 d) (by omega) (by omega), zN_of (x := (s 209 d - s 210 d)) (by omega) (by omega), if_neg hb2, zr_149_32, zr_149_33]
        rw [show znw s d = 2 by unfold znw; rw [if_pos (by omega)]]
def zwst (w : zW) (g : Nat) (x y : Int) : zW := (zsa (zsa (zsa w (g + 21) 1 x) (g + 21) 2 (zo_and (zo_shr y 8) 255)) (g + 21) 3 (zo_and y 255))
theorem m_154 {w : zW} {Q : Option zV → zW → Prop} {g : Nat} {x y : Int} (hg : zk w g = 4 ∨ zk w g = 8) (hlp : zp w 40 g = some (g + 21)) (hlk : zk w (g + 21) = 12) (hll : zl w (g + 21) = 32) (h33 : zf w 33 g = x) (h32 : zf w 32 g = y) : zR 154 0 [some (.inr (some g))] [] w Q = Q (some (.inl 4)) (zwst w g x y) := by
  rw [zr_154_0, zr_154_1m (by exact hg), hlp, zr_154_4, zr_154_5, zr_154_6m (by exact hg), h33, zr_154_9 ⟨by exact hlk, by rw [show zN 1 = 1 by decide]; omega, by rw [show zN 1 = 1 by decide]; show _ < ((zl w (g + 21) : Nat) : Int); rw [hll]; omega⟩, show (zN 1).toNat = 1 by decide, zr_154_10, zr_154_11m (by exact hg), u_p_sa, hlp, zr_154_14, zr_154_15, zr_154_16m (by exact hg), u_f_sa, h32, zr_154_19, zr_154_21, zr_154_22, zr_154_25, zr_154_26 ⟨by exact hlk, by rw [show zN 2 = 2 by decide]; omega, by rw [show zN 2 = 2 by decide]; show _ < ((zl w (g + 21) : Nat) : Int); rw [hll]; omega⟩, show (zN 2).toNat = 2 by decide, zr_154_27, zr_154_28m (by exact hg), u_p_sa, u_p_sa, hlp, zr_154_31, zr_154_32, zr_154_33m (by exact hg), u_f_sa, u_f_sa, h32, zr_154_36, zr_154_39, zr_154_40 ⟨by exact hlk, by rw [show zN 3 = 3 by decide]; omega, by rw [show zN 3 = 3 by decide]; show _ < ((zl w (g + 21) : Nat) : Int); rw [hll]; omega⟩, show (zN 3).toNat = 3 by decide, zr_154_41, zr_154_42]
  rfl
theorem m_148_same {w : zW} {Q : Option zV → zW → Prop} {g : Nat} {s : zSt} {d : Int} (hg : zk w g = 4 ∨ zk w g = 8) (h32 : zf w 32 g = s 207 d) (h33 : zf w 33 g = s 211 d) (h34 : zf w 34 g = s 208 d) (h35 : zf w 35 g = s 209 d) (h36 : zf w 36 g = s 210 d) (hv : -32768 ≤ s 207 d ∧ s 207 d ≤ 32767) (hl : -32768 ≤ s 208 d ∧ s 208 d ≤ 32767) (hh : -32768 ≤ s 209 d ∧ s 209 d ≤ 32767) (hk : 0 ≤ s 210 d ∧ s 210 d ≤ 255) (ht : 0 ≤ s 211 d ∧ s 211 d ≤ 2) (heq : znw s d = s 211 d) : zR 148 0 [some (.inr (some g)), none] [] w Q = Q none w := by
  rw [zr_148_0, zr_148_1m (by exact hg), h33, zr_148_4, zr_148_5, zr_148_6, zr_148_7, zr_148_8m (by exact Nat.le_of_ble_eq_true rfl) (by exact hg), m_149 hg h32 h33 h34 h35 h36 hv hl hh hk ht, Option.toList_some, List.cons_append, List.nil_append, zr_148_11m (by exact hg), zr_148_14, zr_148_15m (by exact hg), u_f_eq, zr_148_18, zr_148_19, heq, if_pos (by omega), zr_148_29]
  rw [zsf_sm h33]
theorem m_148_quiet {w : zW} {Q : Option zV → zW → Prop} {g : Nat} {s : zSt} {d : Int} (hg : zk w g = 4 ∨ zk w g = 8) (h32 : zf w 32 g = s 207 d) (h33 : zf w 33 g = s 211 d) (h34 : zf w 34 g = s 208 d) (h35 : zf w 35 g = s 209 d) (h36 : zf w 36 g = s 210 d) (h38 : zf w 38 g = s 212 d) (hv : -32768 ≤ s 207 d ∧ s 207 d ≤ 32767) (hl : -32768 ≤ s 208 d ∧ s 208 d ≤ 32767) (hh : -32768 ≤ s 209 d ∧ s 209 d ≤ 32767) (hk : 0 ≤ s 210 d ∧ s 210 d ≤ 255) (ht : 0 ≤ s 211 d ∧ s 211 d ≤ 2) (hne : znw s d ≠ s 211 d) (h0 : s 212 d = 0) : zR 148 0 [some (.inr (some g)), none] [] w Q = Q none (zsf w 33 g (znw s d)) := by
  have hz := znw_r (s := s) (d := d)
  rw [zr_148_0, zr_148_1m (by exact hg), h33, zr_148_4, zr_148_5, zr_148_6, zr_148_7, zr_148_8m (by exact Nat.le_of_ble_eq_true rfl) (by exact hg), m_149 hg h32 h33 h34 h35 h36 hv hl hh hk ht, Option.toList_some, List.cons_append, List.nil_append, zr_148_11m (by exact hg), zr_148_14, zr_148_15m (by exact hg), u_f_eq, zr_148_18, zr_148_19, zN_of (x := (znw s d)) (by omega) (by omega), zN_of (x := s 211 d) (by omega) (by omega), if_neg (by omega), zr_148_22, zr_148_23m (by exact hg), u_f_ne (by decide), h38, zr_148_26, zN_of (x := s 212 d) (by omega) (by omega), if_neg (by omega), zr_148_29]
def zsnW (w : zW) (g : Nat) (s : zSt) (d : Int) : zW := (zwst (zsa (zsf w 33 g (znw s d)) (g + 21) 0 64) g (znw s d) (s 207 d))
theorem m_148_send {w : zW} {Q : Option zV → zW → Prop} {g : Nat} {s : zSt} {d : Int} (hg : zk w g = 4 ∨ zk w g = 8) (h32 : zf w 32 g = s 207 d) (h33 : zf w 33 g = s 211 d) (h34 : zf w 34 g = s 208 d) (h35 : zf w 35 g = s 209 d) (h36 : zf w 36 g = s 210 d) (h38 : zf w 38 g = s 212 d) (h39 : zf w 39 g = s 213 d) (hv : -32768 ≤ s 207 d ∧ s 207 d ≤ 32767) (hl : -32768 ≤ s 208 d ∧ s 208 d ≤ 32767) (hh : -32768 ≤ s 209 d ∧ s 209 d ≤ 32767) (hk : 0 ≤ s 210 d ∧ s 210 d ≤ 255) (ht : 0 ≤ s 211 d ∧ s 211 d ≤ 2) (hne : znw s d ≠ s 211 d) (h0 : s 212 d ≠ 0) (hr : 0 ≤ s 212 d ∧ s 212 d ≤ 255) (hlp : zp w 40 g = some (g + 21)) (hlk : zk w (g + 21) = 12) (hll : zl w (g + 21) = 32) {p a b : Nat} (hgp : zp w 14 g = some p) (hp : zPO w p) (ha : zf w 25 p = (a : Int)) (hb : zf w 23 p = (b : Int)) (h1 : a < 8) (h2 : b ≤ 8) :
    zR 148 0 [some (.inr (some g)), none] [] w Q = Q none (zsf (if b + (4 + 7) / 8 ≤ 8 then zsnd (zsnW w g s d) p a b (s 212 d) (8 + zo_rem (s 213 d) 8) (g + 21) 4 ((4 + 7) / 8) ((4 + 7) / 8) else zsnW w g s d) 39 g (s 213 d + 1)) := by
  have hz := znw_r (s := s) (d := d)
  have hV : (zwst (zsa (zsf w 33 g (znw s d)) (g + 21) 0 64) g (znw s d) (s 207 d)) = zsnW w g s d := rfl
  have hs : zSF w (zsnW w g s d) := ⟨rfl, rfl, rfl⟩
  have hpo : zPO (zsnW w g s d) p := hp.sf hs
  have hfo : ∀ f h, f ≠ 33 → zf (zsnW w g s d) f h = zf w f h := fun f h hf => u_f_ne hf
  have ha2 : zf (zsnW w g s d) 25 p = (a : Int) := (hfo 25 p (by decide)).trans ha
  have hb2 : zf (zsnW w g s d) 23 p = (b : Int) := (hfo 23 p (by decide)).trans hb
  have h38V : zf (zsnW w g s d) 38 g = s 212 d := (hfo 38 g (by decide)).trans h38
  have h39V : zf (zsnW w g s d) 39 g = s 213 d := (hfo 39 g (by decide)).trans h39
  have hlpV : zp (zsnW w g s d) 40 g = some (g + 21) := hlp
  have hl4 : 4 ≤ zl (zsnW w g s d) (g + 21) := by show 4 ≤ zl w (g + 21); rw [hll]; decide
  have h39W : zf (if b + (4 + 7) / 8 ≤ 8 then zsnd (zsnW w g s d) p a b (s 212 d) (8 + zo_rem (s 213 d) 8) (g + 21) 4 ((4 + 7) / 8) ((4 + 7) / 8) else zsnW w g s d) 39 g = s 213 d := by
    split
    · rw [zsnd_f (by decide) (by decide) (by decide) (by decide) (by decide)]
      exact h39V
    · exact h39V
  have hkW : ∀ h, zk (if b + (4 + 7) / 8 ≤ 8 then zsnd (zsnW w g s d) p a b (s 212 d) (8 + zo_rem (s 213 d) 8) (g + 21) 4 ((4 + 7) / 8) ((4 + 7) / 8) else zsnW w g s d) h = zk w h := fun h => by
    split
    · rw [(zsnd_sf _).k]
      rfl
    · rfl
  rw [zr_148_0, zr_148_1m (by exact hg), h33, zr_148_4, zr_148_5, zr_148_6, zr_148_7, zr_148_8m (by exact Nat.le_of_ble_eq_true rfl) (by exact hg), m_149 hg h32 h33 h34 h35 h36 hv hl hh hk ht, Option.toList_some, List.cons_append, List.nil_append, zr_148_11m (by exact hg), zr_148_14, zr_148_15m (by exact hg), u_f_eq, zr_148_18, zr_148_19, zN_of (x := (znw s d)) (by omega) (by omega), zN_of (x := s 211 d) (by omega) (by omega), if_neg (by omega), zr_148_22, zr_148_23m (by exact hg), u_f_ne (by decide), h38, zr_148_26, zN_of (x := s 212 d) (by omega) (by omega), if_pos (by omega), zr_148_30, zr_148_31m (by exact hg), u_p_sf, hlp, zr_148_34, zr_148_35, zr_148_37 ⟨by exact hlk, by rw [show zN 0 = 0 by decide]; omega, by rw [show zN 0 = 0 by decide]; show _ < ((zl w (g + 21) : Nat) : Int); rw [hll]; omega⟩, show (zN 0).toNat = 0 by decide, zr_148_38, zr_148_39m (by exact Nat.le_of_ble_eq_true rfl) (by exact hg), m_154 (w := zsa (zsf w 33 g (znw s d)) (g + 21) 0 64) (x := znw s d) (y := s 207 d) hg hlp hlk hll (u_f_sa.trans u_f_eq) (u_f_sa.trans ((u_f_ne (by decide)).trans h32)), hV, Option.toList_some, List.cons_append, List.nil_append, zr_148_42, zr_148_43, zr_148_44, zr_148_45m (by exact hg), h38V, zr_148_48, zr_148_50, zr_148_51m (by exact hg), h39V, zr_148_54, zr_148_56 (by decide), zr_148_57, zr_148_58, zr_148_59m (by exact hg), hlpV, zr_148_62, zr_148_63m (by exact Nat.le_of_ble_eq_true rfl) (by exact hg), show (4 : Int) = ((4 : Nat) : Int) from rfl, m_114 (a := a) (b := b) (n := 4) (by exact Or.inr hg) (by exact hgp) hpo ha2 hb2 h1 h2 (by exact hlk) hl4 (by omega), Option.toList_none, List.nil_append, zr_148_66, zr_148_67, zr_148_68m (by exact (by rw [hkW]; exact hg)), h39W, zr_148_71, zr_148_72, zr_148_73m (by exact (by rw [hkW]; exact hg)), zr_148_76]
