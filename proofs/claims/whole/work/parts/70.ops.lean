-- the calls in general: what holds between two of them
theorem zRTab_sub : ∀ e ∈ zRTab, e ∈ zKT := by decide
theorem zKR_of {L : Nat} {xs : Nat → Int} {w : zW} (hb : zBase L xs w) (h : zCon w) : zKR w := by
  refine ⟨fun e he => hb.2.2 e (zRTab_sub e he), fun e he => ?_⟩
  obtain ⟨w0, h1, h2, -⟩ := h
  rw [h2 e.1 194 (by omega)]
  unfold zRPtr at he
  simp only [List.mem_cons, List.not_mem_nil, or_false] at he
  rcases he with rfl | rfl | rfl | rfl | rfl | rfl | rfl | rfl | rfl | rfl | rfl | rfl | rfl | rfl | rfl | rfl | rfl | rfl | rfl | rfl | rfl | rfl | rfl | rfl | rfl | rfl | rfl | rfl | rfl | rfl | rfl | rfl | rfl | rfl | rfl | rfl | rfl | rfl | rfl | rfl | rfl | rfl | rfl | rfl | rfl
  · exact zfp_73_194 h1
  · exact zfp_74_194 h1
  · exact zfp_75_194 h1
  · exact zfp_76_194 h1
  · exact zfp_77_194 h1
  · exact zfp_78_194 h1
  · exact zfp_79_194 h1
  · exact zfp_80_194 h1
  · exact zfp_81_194 h1
  · exact zfp_82_194 h1
  · exact zfp_83_194 h1
  · exact zfp_84_194 h1
  · exact zfp_85_194 h1
  · exact zfp_86_194 h1
  · exact zfp_87_194 h1
  · exact zfp_88_194 h1
  · exact zfp_89_194 h1
  · exact zfp_90_194 h1
  · exact zfp_91_194 h1
  · exact zfp_92_194 h1
  · exact zfp_93_194 h1
  · exact zfp_94_194 h1
  · exact zfp_95_194 h1
  · exact zfp_96_194 h1
  · exact zfp_97_194 h1
  · exact zfp_98_194 h1
  · exact zfp_99_194 h1
  · exact zfp_101_194 h1
  · exact zfp_102_194 h1
  · exact zfp_103_194 h1
  · exact zfp_105_194 h1
  · exact zfp_107_194 h1
  · exact zfp_108_194 h1
  · exact zfp_109_194 h1
  · exact zfp_110_194 h1
  · exact zfp_112_194 h1
  · exact zfp_114_194 h1
  · exact zfp_115_194 h1
  · exact zfp_116_194 h1
  · exact zfp_117_194 h1
  · exact zfp_118_194 h1
  · exact zfp_119_194 h1
  · exact zfp_120_194 h1
  · exact zfp_121_194 h1
  · exact zfp_123_194 h1
def zPJ (B : Int) (w : zW) : Prop := ∃ own s, zJ0 B 8 own s w ∧ zmk w s = w
theorem zRP_mk {w v : zW} {s : zSt} (hS : zmk w s = w) (hr : zRP w v) : zmk v s = v := by
  refine zWx rfl (fun f h => ?_) (fun _ _ => rfl) (fun h j => ?_) (fun _ _ => rfl)
  · by_cases e : h = 194 ∧ 72 ≤ f ∧ f < 195
    · obtain ⟨e1, e2⟩ := e
      subst e1
      rw [v_f e2, (hr 194 (by omega) (by omega)).1 f, ← hS, v_f e2]
    · exact if_neg e
  · by_cases e : 195 ≤ h ∧ h ≤ 239
    · rw [v_a e.1 e.2, (hr h (by omega) (by omega)).2.2.1 j, ← hS, v_a e.1 e.2]
    · exact v_ao (by omega)
theorem zmk_mk {w : zW} {s t : zSt} : zmk (zmk w s) t = zmk w t := by
  refine zWx rfl (fun f h => ?_) (fun _ _ => rfl) (fun h j => ?_) (fun _ _ => rfl)
  · by_cases e : h = 194 ∧ 72 ≤ f ∧ f < 195
    · exact (if_pos e).trans (if_pos e).symm
    · exact (if_neg e).trans ((if_neg e).trans (if_neg e).symm)
  · by_cases e : 195 ≤ h ∧ h ≤ 239
    · rw [v_a e.1 e.2, v_a e.1 e.2]
    · rw [v_ao (by omega), v_ao (by omega), v_ao (by omega)]
