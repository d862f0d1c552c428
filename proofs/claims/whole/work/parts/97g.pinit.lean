-- the fresh world beside its own state
def zs0 (w : zW) : zSt := fun a x => if a < 195 then zf w a 194 else za w a x.toNat
theorem zs0_f {w : zW} {a : Nat} {x : Int} (h : a < 195) : zs0 w a x = zf w a 194 := if_pos h
theorem zs0_a {w : zW} {a j : Nat} (h : 195 ≤ a) : zs0 w a (j : Int) = za w a j := by
  unfold zs0
  rw [if_neg (by omega), Int.toNat_natCast]
theorem zs0_mk {w : zW} : zmk w (zs0 w) = w := by
  refine zWx rfl (fun f h => ?_) (fun _ _ => rfl) (fun h j => ?_) (fun _ _ => rfl)
  · show (if h = 194 ∧ 72 ≤ f ∧ f < 195 then zs0 w f 0 else zf w f h) = zf w f h
    by_cases e : h = 194 ∧ 72 ≤ f ∧ f < 195
    · rw [if_pos e, zs0_f e.2.2, e.1]
    · rw [if_neg e]
  · show (if 195 ≤ h ∧ h ≤ 239 then zs0 w h (j : Int) else za w h j) = za w h j
    by_cases e : 195 ≤ h ∧ h ≤ 239
    · rw [if_pos e, zs0_a e.1]
    · rw [if_neg e]
theorem zrow_z {w : zW} {a : Nat} {l : List (Nat × Int)} {n : Nat} (h1 : ∀ q ∈ l, za w a q.1 = q.2) (h2 : l = (List.range n).map (fun j => (j, (0 : Int)))) {j : Nat} (hj : j < n) : za w a j = 0 :=
  h1 (j, 0) (by rw [h2]; exact List.mem_map.mpr ⟨j, List.mem_range.mpr hj, rfl⟩)
theorem zrow_n {w : zW} {a : Nat} {l : List (Nat × Option Nat)} {n : Nat} (h1 : ∀ q ∈ l, zb w a q.1 = q.2) (h2 : l = (List.range n).map (fun j => (j, (none : Option Nat)))) {j : Nat} (hj : j < n) : zb w a j = none :=
  h1 (j, none) (by rw [h2]; exact List.mem_map.mpr ⟨j, List.mem_range.mpr hj, rfl⟩)
theorem zfy_198 {w : zW} (hf : zFresh w) {j : Nat} (hj : j < 8) : za w 198 j = 0 := zrow_z (zfr_198 hf).2.2.2.2.1 (by decide +kernel) hj
theorem zfy_199 {w : zW} (hf : zFresh w) {j : Nat} (hj : j < 8) : za w 199 j = 0 := zrow_z (zfr_199 hf).2.2.2.2.1 (by decide +kernel) hj
theorem zfy_200 {w : zW} (hf : zFresh w) {j : Nat} (hj : j < 8) : za w 200 j = 0 := zrow_z (zfr_200 hf).2.2.2.2.1 (by decide +kernel) hj
theorem zfy_203 {w : zW} (hf : zFresh w) {j : Nat} (hj : j < 448) : za w 203 j = 0 := zrow_z (zfr_203 hf).2.2.2.2.1 (by decide +kernel) hj
theorem zfy_207 {w : zW} (hf : zFresh w) {j : Nat} (hj : j < 7) : za w 207 j = 0 := zrow_z (zfr_207 hf).2.2.2.2.1 (by decide +kernel) hj
theorem zfy_210 {w : zW} (hf : zFresh w) {j : Nat} (hj : j < 7) : za w 210 j = 0 := zrow_z (zfr_210 hf).2.2.2.2.1 (by decide +kernel) hj
theorem zfy_211 {w : zW} (hf : zFresh w) {j : Nat} (hj : j < 7) : za w 211 j = 0 := zrow_z (zfr_211 hf).2.2.2.2.1 (by decide +kernel) hj
theorem zfy_212 {w : zW} (hf : zFresh w) {j : Nat} (hj : j < 7) : za w 212 j = 0 := zrow_z (zfr_212 hf).2.2.2.2.1 (by decide +kernel) hj
theorem zfy_213 {w : zW} (hf : zFresh w) {j : Nat} (hj : j < 7) : za w 213 j = 0 := zrow_z (zfr_213 hf).2.2.2.2.1 (by decide +kernel) hj
theorem zfy_215 {w : zW} (hf : zFresh w) {j : Nat} (hj : j < 2) : za w 215 j = 0 := zrow_z (zfr_215 hf).2.2.2.2.1 (by decide +kernel) hj
theorem zfy_216 {w : zW} (hf : zFresh w) {j : Nat} (hj : j < 2) : za w 216 j = 0 := zrow_z (zfr_216 hf).2.2.2.2.1 (by decide +kernel) hj
theorem zfy_217 {w : zW} (hf : zFresh w) {j : Nat} (hj : j < 2) : za w 217 j = 0 := zrow_z (zfr_217 hf).2.2.2.2.1 (by decide +kernel) hj
theorem zfy_218 {w : zW} (hf : zFresh w) {j : Nat} (hj : j < 2) : za w 218 j = 0 := zrow_z (zfr_218 hf).2.2.2.2.1 (by decide +kernel) hj
theorem zfy_219 {w : zW} (hf : zFresh w) {j : Nat} (hj : j < 2) : za w 219 j = 0 := zrow_z (zfr_219 hf).2.2.2.2.1 (by decide +kernel) hj
theorem zfy_221 {w : zW} (hf : zFresh w) {j : Nat} (hj : j < 2) : za w 221 j = 0 := zrow_z (zfr_221 hf).2.2.2.2.1 (by decide +kernel) hj
theorem zfy_222 {w : zW} (hf : zFresh w) {j : Nat} (hj : j < 2) : za w 222 j = 0 := zrow_z (zfr_222 hf).2.2.2.2.1 (by decide +kernel) hj
theorem zfy_223 {w : zW} (hf : zFresh w) {j : Nat} (hj : j < 2) : za w 223 j = 0 := zrow_z (zfr_223 hf).2.2.2.2.1 (by decide +kernel) hj
theorem zfy_227 {w : zW} (hf : zFresh w) {j : Nat} (hj : j < 2) : za w 227 j = 0 := zrow_z (zfr_227 hf).2.2.2.2.1 (by decide +kernel) hj
theorem zfy_237 {w : zW} (hf : zFresh w) {j : Nat} (hj : j < 40) : za w 237 j = 0 := zrow_z (zfr_237 hf).2.2.2.2.1 (by decide +kernel) hj
theorem zfy_104 {w : zW} (hf : zFresh w) {j : Nat} (hj : j < 24) : za w 104 j = 0 := zrow_z (zfr_104 hf).2.2.2.2.1 (by decide +kernel) hj
theorem zfy_126 {w : zW} (hf : zFresh w) {j : Nat} (hj : j < 24) : za w 126 j = 0 := zrow_z (zfr_126 hf).2.2.2.2.1 (by decide +kernel) hj
theorem zfy_148 {w : zW} (hf : zFresh w) {j : Nat} (hj : j < 24) : za w 148 j = 0 := zrow_z (zfr_148 hf).2.2.2.2.1 (by decide +kernel) hj
theorem zfy_170 {w : zW} (hf : zFresh w) {j : Nat} (hj : j < 24) : za w 170 j = 0 := zrow_z (zfr_170 hf).2.2.2.2.1 (by decide +kernel) hj
theorem zfy_192 {w : zW} (hf : zFresh w) {j : Nat} (hj : j < 24) : za w 192 j = 0 := zrow_z (zfr_192 hf).2.2.2.2.1 (by decide +kernel) hj
theorem zfy_214 {w : zW} (hf : zFresh w) {j : Nat} (hj : j < 168) : za w 214 j = 0 := zfz_214 hf hj
theorem zfy_230 {w : zW} (hf : zFresh w) {j : Nat} (hj : j < 32) : za w 230 j = 0 := zfz_230 hf hj
theorem zfy_25 {w : zW} (hf : zFresh w) {j : Nat} (hj : j < 32) : za w 25 j = 0 := zfz_25 hf hj
theorem zfy_50 {w : zW} (hf : zFresh w) {j : Nat} (hj : j < 24) : za w 50 j = 0 := zfz_50 hf hj
theorem zfn_6 {w : zW} (hf : zFresh w) {j : Nat} (hj : j < 64) : zb w 6 j = none := zrow_n (zfr_6 hf).2.2.2.2.2 (by decide +kernel) hj
theorem zfn_31 {w : zW} (hf : zFresh w) {j : Nat} (hj : j < 64) : zb w 31 j = none := zrow_n (zfr_31 hf).2.2.2.2.2 (by decide +kernel) hj
theorem zfn_85 {w : zW} (hf : zFresh w) {j : Nat} (hj : j < 64) : zb w 85 j = none := zrow_n (zfr_85 hf).2.2.2.2.2 (by decide +kernel) hj
theorem zfn_107 {w : zW} (hf : zFresh w) {j : Nat} (hj : j < 64) : zb w 107 j = none := zrow_n (zfr_107 hf).2.2.2.2.2 (by decide +kernel) hj
theorem zfn_129 {w : zW} (hf : zFresh w) {j : Nat} (hj : j < 64) : zb w 129 j = none := zrow_n (zfr_129 hf).2.2.2.2.2 (by decide +kernel) hj
theorem zfn_151 {w : zW} (hf : zFresh w) {j : Nat} (hj : j < 64) : zb w 151 j = none := zrow_n (zfr_151 hf).2.2.2.2.2 (by decide +kernel) hj
theorem zfn_173 {w : zW} (hf : zFresh w) {j : Nat} (hj : j < 64) : zb w 173 j = none := zrow_n (zfr_173 hf).2.2.2.2.2 (by decide +kernel) hj
theorem zfn_all {w : zW} (hf : zFresh w) {d f : Nat} (hd : d < 7) (hf2 : f < 64) : zb w (zNd d + 1) f = none := by
  have hq : d = 0 ∨ d = 1 ∨ d = 2 ∨ d = 3 ∨ d = 4 ∨ d = 5 ∨ d = 6 := by omega
  rcases hq with rfl | rfl | rfl | rfl | rfl | rfl | rfl
  · exact zfn_6 hf hf2
  · exact zfn_31 hf hf2
  · exact zfn_85 hf hf2
  · exact zfn_107 hf hf2
  · exact zfn_129 hf hf2
  · exact zfn_151 hf hf2
  · exact zfn_173 hf hf2
theorem zfl_all {w : zW} (hf : zFresh w) {d j : Nat} (h1 : 1 ≤ d) (hd : d < 7) (hj : j < 24) : za w (zNd d + 20) j = 0 := by
  have hq : d = 1 ∨ d = 2 ∨ d = 3 ∨ d = 4 ∨ d = 5 ∨ d = 6 := by omega
  rcases hq with rfl | rfl | rfl | rfl | rfl | rfl
  · exact zfy_50 hf hj
  · exact zfy_104 hf hj
  · exact zfy_126 hf hj
  · exact zfy_148 hf hj
  · exact zfy_170 hf hj
  · exact zfy_192 hf hj
theorem zfp23_all {w : zW} (hf : zFresh w) {p : Nat} (hp : p < 8) : zf w 23 (zPt p) = 0 := by
  have hq : p = 0 ∨ p = 1 ∨ p = 2 ∨ p = 3 ∨ p = 4 ∨ p = 5 ∨ p = 6 ∨ p = 7 := by omega
  rcases hq with rfl | rfl | rfl | rfl | rfl | rfl | rfl | rfl
  · exact zff_23_7 hf
  · exact zff_23_32 hf
  · exact zff_23_86 hf
  · exact zff_23_108 hf
  · exact zff_23_130 hf
  · exact zff_23_152 hf
  · exact zff_23_174 hf
  · exact zff_23_52 hf
theorem zfp25_all {w : zW} (hf : zFresh w) {p : Nat} (hp : p < 8) : zf w 25 (zPt p) = 0 := by
  have hq : p = 0 ∨ p = 1 ∨ p = 2 ∨ p = 3 ∨ p = 4 ∨ p = 5 ∨ p = 6 ∨ p = 7 := by omega
  rcases hq with rfl | rfl | rfl | rfl | rfl | rfl | rfl | rfl
  · exact zff_25_7 hf
  · exact zff_25_32 hf
  · exact zff_25_86 hf
  · exact zff_25_108 hf
  · exact zff_25_130 hf
  · exact zff_25_152 hf
  · exact zff_25_174 hf
  · exact zff_25_52 hf
theorem zfi_195 {w : zW} (hf : zFresh w) {j : Nat} (hj : j < 8) : -1 ≤ za w 195 j ∧ za w 195 j ≤ 1 := by
  have hq : j = 0 ∨ j = 1 ∨ j = 2 ∨ j = 3 ∨ j = 4 ∨ j = 5 ∨ j = 6 ∨ j = 7 := by omega
  rcases hq with rfl | rfl | rfl | rfl | rfl | rfl | rfl | rfl
  · rw [zfa_195_0 hf]
    decide
  · rw [zfa_195_1 hf]
    decide
  · rw [zfa_195_2 hf]
    decide
  · rw [zfa_195_3 hf]
    decide
  · rw [zfa_195_4 hf]
    decide
  · rw [zfa_195_5 hf]
    decide
  · rw [zfa_195_6 hf]
    decide
  · rw [zfa_195_7 hf]
    decide
theorem zfi_196 {w : zW} (hf : zFresh w) {j : Nat} (hj : j < 8) : 0 ≤ za w 196 j ∧ za w 196 j ≤ 65535 := by
  have hq : j = 0 ∨ j = 1 ∨ j = 2 ∨ j = 3 ∨ j = 4 ∨ j = 5 ∨ j = 6 ∨ j = 7 := by omega
  rcases hq with rfl | rfl | rfl | rfl | rfl | rfl | rfl | rfl
  · rw [zfa_196_0 hf]
    decide
  · rw [zfa_196_1 hf]
    decide
  · rw [zfa_196_2 hf]
    decide
  · rw [zfa_196_3 hf]
    decide
  · rw [zfa_196_4 hf]
    decide
  · rw [zfa_196_5 hf]
    decide
  · rw [zfa_196_6 hf]
    decide
  · rw [zfa_196_7 hf]
    decide
theorem zfi_197 {w : zW} (hf : zFresh w) {j : Nat} (h1 : 1 ≤ j) (hj : j < 7) : za w 197 j = 0 ∨ 16 ≤ za w 197 j ∧ za w 197 j ≤ 31 := by
  have hq : j = 1 ∨ j = 2 ∨ j = 3 ∨ j = 4 ∨ j = 5 ∨ j = 6 := by omega
  rcases hq with rfl | rfl | rfl | rfl | rfl | rfl
  · rw [zfa_197_1 hf]
    decide
  · rw [zfa_197_2 hf]
    decide
  · rw [zfa_197_3 hf]
    decide
  · rw [zfa_197_4 hf]
    decide
  · rw [zfa_197_5 hf]
    decide
  · rw [zfa_197_6 hf]
    decide
theorem zfi_202 {w : zW} (hf : zFresh w) {j : Nat} (hj : j < 7) : 0 ≤ za w 202 j ∧ za w 202 j ≤ 63 := by
  have hq : j = 0 ∨ j = 1 ∨ j = 2 ∨ j = 3 ∨ j = 4 ∨ j = 5 ∨ j = 6 := by omega
  rcases hq with rfl | rfl | rfl | rfl | rfl | rfl | rfl
  · rw [zfa_202_0 hf]
    decide
  · rw [zfa_202_1 hf]
    decide
  · rw [zfa_202_2 hf]
    decide
  · rw [zfa_202_3 hf]
    decide
  · rw [zfa_202_4 hf]
    decide
  · rw [zfa_202_5 hf]
    decide
  · rw [zfa_202_6 hf]
    decide
theorem zfi_208 {w : zW} (hf : zFresh w) {j : Nat} (h1 : 1 ≤ j) (hj : j < 7) : -32768 ≤ za w 208 j ∧ za w 208 j ≤ 32767 := by
  have hq : j = 1 ∨ j = 2 ∨ j = 3 ∨ j = 4 ∨ j = 5 ∨ j = 6 := by omega
  rcases hq with rfl | rfl | rfl | rfl | rfl | rfl
  · rw [zfa_208_1 hf]
    decide
  · rw [zfa_208_2 hf]
    decide
  · rw [zfa_208_3 hf]
    decide
  · rw [zfa_208_4 hf]
    decide
  · rw [zfa_208_5 hf]
    decide
  · rw [zfa_208_6 hf]
    decide
theorem zfi_209 {w : zW} (hf : zFresh w) {j : Nat} (h1 : 1 ≤ j) (hj : j < 7) : -32768 ≤ za w 209 j ∧ za w 209 j ≤ 32767 := by
  have hq : j = 1 ∨ j = 2 ∨ j = 3 ∨ j = 4 ∨ j = 5 ∨ j = 6 := by omega
  rcases hq with rfl | rfl | rfl | rfl | rfl | rfl
  · rw [zfa_209_1 hf]
    decide
  · rw [zfa_209_2 hf]
    decide
  · rw [zfa_209_3 hf]
    decide
  · rw [zfa_209_4 hf]
    decide
  · rw [zfa_209_5 hf]
    decide
  · rw [zfa_209_6 hf]
    decide
theorem I_N {w : zW} (hf : zFresh w) : gN (zs0 w) w ∧ iN (zs0 w) := by
  refine ⟨⟨fun d hd => ?_, fun d hd => ?_, fun d hd => ?_⟩, (show zs0 w 195 0 = _ from ((zs0_a (j := 0) (by decide)).trans (zfa_195_0 hf))), (show zs0 w 195 1 = _ from ((zs0_a (j := 1) (by decide)).trans (zfa_195_1 hf))), (show zs0 w 195 7 = _ from ((zs0_a (j := 7) (by decide)).trans (zfa_195_7 hf))), fun p p1 p2 => ?_⟩
  · have hq : d = 0 ∨ d = 1 ∨ d = 2 ∨ d = 3 ∨ d = 4 ∨ d = 5 ∨ d = 6 := by omega
    rcases hq with rfl | rfl | rfl | rfl | rfl | rfl | rfl
    · exact (zff_15_5 hf).trans ((zs0_a (j := 0) (by decide)).trans (zfa_195_0 hf)).symm
    · exact (zff_15_30 hf).trans ((zs0_a (j := 1) (by decide)).trans (zfa_195_1 hf)).symm
    · exact (zff_15_84 hf).trans ((zs0_a (j := 2) (by decide)).trans (zfa_195_2 hf)).symm
    · exact (zff_15_106 hf).trans ((zs0_a (j := 3) (by decide)).trans (zfa_195_3 hf)).symm
    · exact (zff_15_128 hf).trans ((zs0_a (j := 4) (by decide)).trans (zfa_195_4 hf)).symm
    · exact (zff_15_150 hf).trans ((zs0_a (j := 5) (by decide)).trans (zfa_195_5 hf)).symm
    · exact (zff_15_172 hf).trans ((zs0_a (j := 6) (by decide)).trans (zfa_195_6 hf)).symm
  · have hq : d = 0 ∨ d = 1 ∨ d = 2 ∨ d = 3 ∨ d = 4 ∨ d = 5 ∨ d = 6 := by omega
    rcases hq with rfl | rfl | rfl | rfl | rfl | rfl | rfl
    · show zb w 71 0 = if zs0 w 195 ((0 : Nat) : Int) = 0 then some 7 else none
      rw [zs0_a (by decide), zfa_195_0 hf, zfb_71_0 hf]
      rfl
    · show zb w 71 1 = if zs0 w 195 ((1 : Nat) : Int) = 0 then some 32 else none
      rw [zs0_a (by decide), zfa_195_1 hf, zfb_71_1 hf]
      rfl
    · show zb w 71 2 = if zs0 w 195 ((2 : Nat) : Int) = 0 then some 86 else none
      rw [zs0_a (by decide), zfa_195_2 hf, zfb_71_2 hf]
      rfl
    · show zb w 71 3 = if zs0 w 195 ((3 : Nat) : Int) = 0 then some 108 else none
      rw [zs0_a (by decide), zfa_195_3 hf, zfb_71_3 hf]
      rfl
    · show zb w 71 4 = if zs0 w 195 ((4 : Nat) : Int) = 0 then some 130 else none
      rw [zs0_a (by decide), zfa_195_4 hf, zfb_71_4 hf]
      rfl
    · show zb w 71 5 = if zs0 w 195 ((5 : Nat) : Int) = 0 then some 152 else none
      rw [zs0_a (by decide), zfa_195_5 hf, zfb_71_5 hf]
      rfl
    · show zb w 71 6 = if zs0 w 195 ((6 : Nat) : Int) = 0 then some 174 else none
      rw [zs0_a (by decide), zfa_195_6 hf, zfb_71_6 hf]
      rfl
  · have hq : d = 0 ∨ d = 1 ∨ d = 2 ∨ d = 3 ∨ d = 4 ∨ d = 5 ∨ d = 6 := by omega
    rcases hq with rfl | rfl | rfl | rfl | rfl | rfl | rfl
    · show zb w 78 0 = if 0 = 1 then some 52 else if zs0 w 195 ((0 : Nat) : Int) = 1 then some 7 else none
      rw [zs0_a (by decide), zfa_195_0 hf, zfb_78_0 hf]
      rfl
    · show zb w 78 1 = if 1 = 1 then some 52 else if zs0 w 195 ((1 : Nat) : Int) = 1 then some 32 else none
      rw [zs0_a (by decide), zfa_195_1 hf, zfb_78_1 hf]
      rfl
    · show zb w 78 2 = if 2 = 1 then some 52 else if zs0 w 195 ((2 : Nat) : Int) = 1 then some 86 else none
      rw [zs0_a (by decide), zfa_195_2 hf, zfb_78_2 hf]
      rfl
    · show zb w 78 3 = if 3 = 1 then some 52 else if zs0 w 195 ((3 : Nat) : Int) = 1 then some 108 else none
      rw [zs0_a (by decide), zfa_195_3 hf, zfb_78_3 hf]
      rfl
    · show zb w 78 4 = if 4 = 1 then some 52 else if zs0 w 195 ((4 : Nat) : Int) = 1 then some 130 else none
      rw [zs0_a (by decide), zfa_195_4 hf, zfb_78_4 hf]
      rfl
    · show zb w 78 5 = if 5 = 1 then some 52 else if zs0 w 195 ((5 : Nat) : Int) = 1 then some 152 else none
      rw [zs0_a (by decide), zfa_195_5 hf, zfb_78_5 hf]
      rfl
    · show zb w 78 6 = if 6 = 1 then some 52 else if zs0 w 195 ((6 : Nat) : Int) = 1 then some 174 else none
      rw [zs0_a (by decide), zfa_195_6 hf, zfb_78_6 hf]
      rfl
  · obtain ⟨n, rfl⟩ := Int.eq_ofNat_of_zero_le p1
    rw [zs0_a (by decide)]
    exact zfi_195 hf (by omega)
theorem I_P {w : zW} (hf : zFresh w) : gP 8 (zs0 w) w ∧ iP (zs0 w) := by
  refine ⟨fun p hp => ?_, fun p p1 p2 => ?_, ⟨(show zs0 w 197 0 = _ from ((zs0_a (j := 0) (by decide)).trans (zfa_197_0 hf))), (show zs0 w 197 7 = _ from ((zs0_a (j := 7) (by decide)).trans (zfa_197_7 hf))), fun p p1 p2 => ?_⟩, fun p p1 p2 => ?_, fun p p1 p2 => ?_, (show zs0 w 202 0 = _ from ((zs0_a (j := 0) (by decide)).trans (zfa_202_0 hf))), fun p p1 p2 => ?_⟩
  · have hq : p = 0 ∨ p = 1 ∨ p = 2 ∨ p = 3 ∨ p = 4 ∨ p = 5 ∨ p = 6 ∨ p = 7 := by omega
    rcases hq with rfl | rfl | rfl | rfl | rfl | rfl | rfl | rfl
    · exact ⟨(zff_18_7 hf).trans ((zs0_a (j := 0) (by decide)).trans (zfa_196_0 hf)).symm, (zff_19_7 hf).trans ((zs0_a (j := 0) (by decide)).trans (zfa_197_0 hf)).symm, (zff_20_7 hf).trans (if_pos (by decide)).symm, fun _ => (zff_21_7 hf).trans ((zs0_a (j := 0) (by decide)).trans (zfa_202_0 hf)).symm, fun _ => (zff_22_7 hf).trans ((zs0_a (j := 0) (by decide)).trans (zfa_199_0 hf)).symm⟩
    · exact ⟨(zff_18_32 hf).trans ((zs0_a (j := 1) (by decide)).trans (zfa_196_1 hf)).symm, (zff_19_32 hf).trans ((zs0_a (j := 1) (by decide)).trans (zfa_197_1 hf)).symm, (zff_20_32 hf).trans ((if_neg (by decide)).trans ((zs0_a (j := 1) (by decide)).trans (zfa_198_1 hf))).symm, fun _ => (zff_21_32 hf).trans ((zs0_a (j := 1) (by decide)).trans (zfa_202_1 hf)).symm, fun _ => (zff_22_32 hf).trans ((zs0_a (j := 1) (by decide)).trans (zfa_199_1 hf)).symm⟩
    · exact ⟨(zff_18_86 hf).trans ((zs0_a (j := 2) (by decide)).trans (zfa_196_2 hf)).symm, (zff_19_86 hf).trans ((zs0_a (j := 2) (by decide)).trans (zfa_197_2 hf)).symm, (zff_20_86 hf).trans ((if_neg (by decide)).trans ((zs0_a (j := 2) (by decide)).trans (zfa_198_2 hf))).symm, fun _ => (zff_21_86 hf).trans ((zs0_a (j := 2) (by decide)).trans (zfa_202_2 hf)).symm, fun _ => (zff_22_86 hf).trans ((zs0_a (j := 2) (by decide)).trans (zfa_199_2 hf)).symm⟩
    · exact ⟨(zff_18_108 hf).trans ((zs0_a (j := 3) (by decide)).trans (zfa_196_3 hf)).symm, (zff_19_108 hf).trans ((zs0_a (j := 3) (by decide)).trans (zfa_197_3 hf)).symm, (zff_20_108 hf).trans ((if_neg (by decide)).trans ((zs0_a (j := 3) (by decide)).trans (zfa_198_3 hf))).symm, fun _ => (zff_21_108 hf).trans ((zs0_a (j := 3) (by decide)).trans (zfa_202_3 hf)).symm, fun _ => (zff_22_108 hf).trans ((zs0_a (j := 3) (by decide)).trans (zfa_199_3 hf)).symm⟩
    · exact ⟨(zff_18_130 hf).trans ((zs0_a (j := 4) (by decide)).trans (zfa_196_4 hf)).symm, (zff_19_130 hf).trans ((zs0_a (j := 4) (by decide)).trans (zfa_197_4 hf)).symm, (zff_20_130 hf).trans ((if_neg (by decide)).trans ((zs0_a (j := 4) (by decide)).trans (zfa_198_4 hf))).symm, fun _ => (zff_21_130 hf).trans ((zs0_a (j := 4) (by decide)).trans (zfa_202_4 hf)).symm, fun _ => (zff_22_130 hf).trans ((zs0_a (j := 4) (by decide)).trans (zfa_199_4 hf)).symm⟩
    · exact ⟨(zff_18_152 hf).trans ((zs0_a (j := 5) (by decide)).trans (zfa_196_5 hf)).symm, (zff_19_152 hf).trans ((zs0_a (j := 5) (by decide)).trans (zfa_197_5 hf)).symm, (zff_20_152 hf).trans ((if_neg (by decide)).trans ((zs0_a (j := 5) (by decide)).trans (zfa_198_5 hf))).symm, fun _ => (zff_21_152 hf).trans ((zs0_a (j := 5) (by decide)).trans (zfa_202_5 hf)).symm, fun _ => (zff_22_152 hf).trans ((zs0_a (j := 5) (by decide)).trans (zfa_199_5 hf)).symm⟩
    · exact ⟨(zff_18_174 hf).trans ((zs0_a (j := 6) (by decide)).trans (zfa_196_6 hf)).symm, (zff_19_174 hf).trans ((zs0_a (j := 6) (by decide)).trans (zfa_197_6 hf)).symm, (zff_20_174 hf).trans ((if_neg (by decide)).trans ((zs0_a (j := 6) (by decide)).trans (zfa_198_6 hf))).symm, fun _ => (zff_21_174 hf).trans ((zs0_a (j := 6) (by decide)).trans (zfa_202_6 hf)).symm, fun _ => (zff_22_174 hf).trans ((zs0_a (j := 6) (by decide)).trans (zfa_199_6 hf)).symm⟩
    · exact ⟨(zff_18_52 hf).trans ((zs0_a (j := 7) (by decide)).trans (zfa_196_7 hf)).symm, (zff_19_52 hf).trans ((zs0_a (j := 7) (by decide)).trans (zfa_197_7 hf)).symm, (zff_20_52 hf).trans (if_pos (by decide)).symm, fun q => absurd q (by decide), fun _ => (zff_22_52 hf).trans ((zs0_a (j := 7) (by decide)).trans (zfa_199_7 hf)).symm⟩
  · obtain ⟨n, rfl⟩ := Int.eq_ofNat_of_zero_le p1
    rw [zs0_a (by decide)]
    exact zfi_196 hf (by omega)
  · obtain ⟨n, rfl⟩ := Int.eq_ofNat_of_zero_le (show 0 ≤ p by omega)
    rw [zs0_a (by decide)]
    exact zfi_197 hf (by omega) (by omega)
  · obtain ⟨n, rfl⟩ := Int.eq_ofNat_of_zero_le p1
    rw [zs0_a (by decide), zfy_198 hf (by omega)]
    exact Or.inl rfl
  · obtain ⟨n, rfl⟩ := Int.eq_ofNat_of_zero_le p1
    rw [zs0_a (by decide), zfy_199 hf (by omega)]
    decide
  · obtain ⟨n, rfl⟩ := Int.eq_ofNat_of_zero_le p1
    rw [zs0_a (by decide)]
    exact zfi_202 hf (by omega)
theorem I_Q {w : zW} (hf : zFresh w) : gQ 8 (zs0 w) w ∧ iQ (zs0 w) := by
  refine ⟨⟨fun p hp hl => ?_, fun p hp => ⟨0, 0, by decide, by decide, zfp25_all hf hp, zfp23_all hf hp⟩⟩, fun p k p1 p2 p3 k1 k2 => ?_⟩
  · rw [if_neg (show p ≠ 8 by omega)]
    exact ⟨0, 0, by decide, by decide, zfp25_all hf hp, zfp23_all hf hp, (zs0_a (by decide)).trans (zfy_200 hf hp), fun k hk => absurd hk (Nat.not_lt_zero _)⟩
  · obtain ⟨n, rfl⟩ := Int.eq_ofNat_of_zero_le p1
    rw [zs0_a (by decide), zfy_200 hf (by omega)] at k2
    omega
theorem I_T {w : zW} (hf : zFresh w) (h4 : ∀ j, j < 448 → za w 204 j = 0) (h5 : ∀ j, j < 448 → za w 205 j = 0) : gT (fun _ => 0) (zs0 w) w ∧ iT (zs0 w) := by
  refine ⟨fun d f hd hf2 => Or.inl ⟨zfn_all hf hd hf2, (zs0_a (by decide)).trans (zfy_203 hf (by omega))⟩, fun T T1 T2 => ?_⟩
  obtain ⟨n, rfl⟩ := Int.eq_ofNat_of_zero_le T1
  have a3 : zs0 w 203 (n : Int) = 0 := (zs0_a (by decide)).trans (zfy_203 hf (by omega))
  have a4 : zs0 w 204 (n : Int) = 0 := (zs0_a (by decide)).trans (h4 n (by omega))
  have a5 : zs0 w 205 (n : Int) = 0 := (zs0_a (by decide)).trans (h5 n (by omega))
  exact ⟨by omega, by omega, by omega, fun j j1 j2 => by omega⟩
theorem I_R {w : zW} (hf : zFresh w) : gR (fun _ => 0) (zs0 w) w ∧ iR (zs0 w) := by
  have e : zs0 w 113 0 = 0 := (zs0_f (by decide)).trans (zff_113_194 hf)
  refine ⟨⟨(zff_13_5 hf).trans e.symm, fun r hr => ?_⟩, ⟨by omega, by omega, fun x x1 x2 => ?_⟩, fun r r1 r2 => ?_⟩
  · omega
  · obtain ⟨n, rfl⟩ := Int.eq_ofNat_of_zero_le (show 0 ≤ x by omega)
    exact (zs0_a (by decide)).trans (zfy_237 hf (by omega))
  · omega
theorem I_S {w : zW} (hf : zFresh w) : gS (zs0 w) w ∧ iS 0 (zs0 w) := by
  refine ⟨fun d h1 hd => ?_, fun d d1 d2 => ?_⟩
  · have hl : ∀ j : Nat, j < 24 → za w (zNd d + 20) j = zs0 w 214 (24 * (d : Int) + (j : Int)) := fun j hj => by
      rw [zfl_all hf h1 hd hj, show 24 * (d : Int) + (j : Int) = ((24 * d + j : Nat) : Int) by omega, zs0_a (by decide), zfy_214 hf (by omega)]
    have hq : d = 1 ∨ d = 2 ∨ d = 3 ∨ d = 4 ∨ d = 5 ∨ d = 6 := by omega
    rcases hq with rfl | rfl | rfl | rfl | rfl | rfl
    · exact ⟨(zff_32_30 hf).trans ((zs0_a (j := 1) (by decide)).trans (zfa_207_1 hf)).symm, (zff_33_30 hf).trans ((zs0_a (j := 1) (by decide)).trans (zfa_211_1 hf)).symm, (zff_34_30 hf).trans ((zs0_a (j := 1) (by decide)).trans (zfa_208_1 hf)).symm, (zff_35_30 hf).trans ((zs0_a (j := 1) (by decide)).trans (zfa_209_1 hf)).symm, (zff_36_30 hf).trans ((zs0_a (j := 1) (by decide)).trans (zfa_210_1 hf)).symm, (zff_38_30 hf).trans ((zs0_a (j := 1) (by decide)).trans (zfa_212_1 hf)).symm, (zff_39_30 hf).trans ((zs0_a (j := 1) (by decide)).trans (zfa_213_1 hf)).symm, hl⟩
    · exact ⟨(zff_32_84 hf).trans ((zs0_a (j := 2) (by decide)).trans (zfa_207_2 hf)).symm, (zff_33_84 hf).trans ((zs0_a (j := 2) (by decide)).trans (zfa_211_2 hf)).symm, (zff_34_84 hf).trans ((zs0_a (j := 2) (by decide)).trans (zfa_208_2 hf)).symm, (zff_35_84 hf).trans ((zs0_a (j := 2) (by decide)).trans (zfa_209_2 hf)).symm, (zff_36_84 hf).trans ((zs0_a (j := 2) (by decide)).trans (zfa_210_2 hf)).symm, (zff_38_84 hf).trans ((zs0_a (j := 2) (by decide)).trans (zfa_212_2 hf)).symm, (zff_39_84 hf).trans ((zs0_a (j := 2) (by decide)).trans (zfa_213_2 hf)).symm, hl⟩
    · exact ⟨(zff_32_106 hf).trans ((zs0_a (j := 3) (by decide)).trans (zfa_207_3 hf)).symm, (zff_33_106 hf).trans ((zs0_a (j := 3) (by decide)).trans (zfa_211_3 hf)).symm, (zff_34_106 hf).trans ((zs0_a (j := 3) (by decide)).trans (zfa_208_3 hf)).symm, (zff_35_106 hf).trans ((zs0_a (j := 3) (by decide)).trans (zfa_209_3 hf)).symm, (zff_36_106 hf).trans ((zs0_a (j := 3) (by decide)).trans (zfa_210_3 hf)).symm, (zff_38_106 hf).trans ((zs0_a (j := 3) (by decide)).trans (zfa_212_3 hf)).symm, (zff_39_106 hf).trans ((zs0_a (j := 3) (by decide)).trans (zfa_213_3 hf)).symm, hl⟩
    · exact ⟨(zff_32_128 hf).trans ((zs0_a (j := 4) (by decide)).trans (zfa_207_4 hf)).symm, (zff_33_128 hf).trans ((zs0_a (j := 4) (by decide)).trans (zfa_211_4 hf)).symm, (zff_34_128 hf).trans ((zs0_a (j := 4) (by decide)).trans (zfa_208_4 hf)).symm, (zff_35_128 hf).trans ((zs0_a (j := 4) (by decide)).trans (zfa_209_4 hf)).symm, (zff_36_128 hf).trans ((zs0_a (j := 4) (by decide)).trans (zfa_210_4 hf)).symm, (zff_38_128 hf).trans ((zs0_a (j := 4) (by decide)).trans (zfa_212_4 hf)).symm, (zff_39_128 hf).trans ((zs0_a (j := 4) (by decide)).trans (zfa_213_4 hf)).symm, hl⟩
    · exact ⟨(zff_32_150 hf).trans ((zs0_a (j := 5) (by decide)).trans (zfa_207_5 hf)).symm, (zff_33_150 hf).trans ((zs0_a (j := 5) (by decide)).trans (zfa_211_5 hf)).symm, (zff_34_150 hf).trans ((zs0_a (j := 5) (by decide)).trans (zfa_208_5 hf)).symm, (zff_35_150 hf).trans ((zs0_a (j := 5) (by decide)).trans (zfa_209_5 hf)).symm, (zff_36_150 hf).trans ((zs0_a (j := 5) (by decide)).trans (zfa_210_5 hf)).symm, (zff_38_150 hf).trans ((zs0_a (j := 5) (by decide)).trans (zfa_212_5 hf)).symm, (zff_39_150 hf).trans ((zs0_a (j := 5) (by decide)).trans (zfa_213_5 hf)).symm, hl⟩
    · exact ⟨(zff_32_172 hf).trans ((zs0_a (j := 6) (by decide)).trans (zfa_207_6 hf)).symm, (zff_33_172 hf).trans ((zs0_a (j := 6) (by decide)).trans (zfa_211_6 hf)).symm, (zff_34_172 hf).trans ((zs0_a (j := 6) (by decide)).trans (zfa_208_6 hf)).symm, (zff_35_172 hf).trans ((zs0_a (j := 6) (by decide)).trans (zfa_209_6 hf)).symm, (zff_36_172 hf).trans ((zs0_a (j := 6) (by decide)).trans (zfa_210_6 hf)).symm, (zff_38_172 hf).trans ((zs0_a (j := 6) (by decide)).trans (zfa_212_6 hf)).symm, (zff_39_172 hf).trans ((zs0_a (j := 6) (by decide)).trans (zfa_213_6 hf)).symm, hl⟩
  · obtain ⟨n, rfl⟩ := Int.eq_ofNat_of_zero_le (show 0 ≤ d by omega)
    have a7 : zs0 w 207 (n : Int) = 0 := (zs0_a (by decide)).trans (zfy_207 hf (by omega))
    have a8 : zs0 w 208 (n : Int) = za w 208 n := zs0_a (by decide)
    have a9 : zs0 w 209 (n : Int) = za w 209 n := zs0_a (by decide)
    have a10 : zs0 w 210 (n : Int) = 0 := (zs0_a (by decide)).trans (zfy_210 hf (by omega))
    have a11 : zs0 w 211 (n : Int) = 0 := (zs0_a (by decide)).trans (zfy_211 hf (by omega))
    have a12 : zs0 w 212 (n : Int) = 0 := (zs0_a (by decide)).trans (zfy_212 hf (by omega))
    have a13 : zs0 w 213 (n : Int) = 0 := (zs0_a (by decide)).trans (zfy_213 hf (by omega))
    have b8 := zfi_208 hf (j := n) (by omega) (by omega)
    have b9 := zfi_209 hf (j := n) (by omega) (by omega)
    refine ⟨by omega, by omega, by omega, by omega, by omega, by omega, by omega, fun j j1 j2 => ?_⟩
    obtain ⟨m, rfl⟩ := Int.eq_ofNat_of_zero_le j1
    rw [show 24 * (n : Int) + (m : Int) = ((24 * n + m : Nat) : Int) by omega, zs0_a (by decide), zfy_214 hf (by omega)]
    decide
theorem I_E {w : zW} (hf : zFresh w) (h20 : ∀ j, j < 32 → za w 220 j = 0) : gE (zs0 w) w ∧ iE (zs0 w) := by
  have e100 : zs0 w 100 0 = 0 := (zs0_f (by decide)).trans (zff_100_194 hf)
  refine ⟨⟨fun b hb => ?_, (zff_51_72 hf).trans e100.symm, fun q => absurd (q.symm.trans (show zs0 w 215 0 = _ from ((zs0_a (j := 0) (by decide)).trans (zfa_215_0 hf)))) (by decide)⟩, fun b b1 b2 => ?_, by omega, by omega⟩
  · have hq : b = 0 ∨ b = 1 := by omega
    rcases hq with rfl | rfl
    · exact ⟨(zff_48_72 hf).trans ((zs0_a (j := 0) (by decide)).trans (zfa_215_0 hf)).symm, (zff_49_72 hf).trans ((zs0_a (j := 0) (by decide)).trans (zfa_219_0 hf)).symm, (zff_50_72 hf).trans ((zs0_a (j := 0) (by decide)).trans (zfa_218_0 hf)).symm, (zff_52_72 hf).trans ((zs0_a (j := 0) (by decide)).trans (zfa_216_0 hf)).symm, fun q => absurd (q.symm.trans ((zs0_a (j := 0) (by decide)).trans (zfa_215_0 hf))) (by decide), fun q => absurd (q.symm.trans ((zs0_a (j := 0) (by decide)).trans (zfa_215_0 hf))) (by decide)⟩
    · exact ⟨(zff_48_79 hf).trans ((zs0_a (j := 1) (by decide)).trans (zfa_215_1 hf)).symm, (zff_49_79 hf).trans ((zs0_a (j := 1) (by decide)).trans (zfa_219_1 hf)).symm, (zff_50_79 hf).trans ((zs0_a (j := 1) (by decide)).trans (zfa_218_1 hf)).symm, (zff_52_79 hf).trans ((zs0_a (j := 1) (by decide)).trans (zfa_216_1 hf)).symm, fun q => absurd (q.symm.trans ((zs0_a (j := 1) (by decide)).trans (zfa_215_1 hf))) (by decide), fun q => absurd (q.symm.trans ((zs0_a (j := 1) (by decide)).trans (zfa_215_1 hf))) (by decide)⟩
  · obtain ⟨n, rfl⟩ := Int.eq_ofNat_of_zero_le b1
    have a15 : zs0 w 215 (n : Int) = 0 := (zs0_a (by decide)).trans (zfy_215 hf (by omega))
    have a16 : zs0 w 216 (n : Int) = 0 := (zs0_a (by decide)).trans (zfy_216 hf (by omega))
    have a18 : zs0 w 218 (n : Int) = 0 := (zs0_a (by decide)).trans (zfy_218 hf (by omega))
    have a19 : zs0 w 219 (n : Int) = 0 := (zs0_a (by decide)).trans (zfy_219 hf (by omega))
    refine ⟨by omega, by omega, fun q => by omega, by omega, by omega, fun q => by omega, fun x x1 x2 => ?_⟩
    obtain ⟨m, rfl⟩ := Int.eq_ofNat_of_zero_le x1
    rw [show 16 * (n : Int) + (m : Int) = ((16 * n + m : Nat) : Int) by omega, zs0_a (by decide), h20 _ (by omega)]
    decide
theorem I_B {w : zW} (hf : zFresh w) : gB (zs0 w) w ∧ iB (zs0 w) := by
  refine ⟨fun b hb => ?_, fun b b1 b2 => ?_⟩
  · have hq : b = 0 ∨ b = 1 := by omega
    rcases hq with rfl | rfl
    · refine ⟨Or.inl ⟨zff_45_70 hf, ((zs0_a (j := 0) (by decide)).trans (zfa_223_0 hf))⟩, (zff_57_73 hf).trans ((zs0_a (j := 0) (by decide)).trans (zfa_227_0 hf)).symm, fun j hj => ?_⟩
      rw [show zs0 w 227 ((0 : Nat) : Int) = 0 from ((zs0_a (j := 0) (by decide)).trans (zfa_227_0 hf))] at hj
      omega
    · refine ⟨Or.inl ⟨zff_45_77 hf, ((zs0_a (j := 1) (by decide)).trans (zfa_223_1 hf))⟩, (zff_57_80 hf).trans ((zs0_a (j := 1) (by decide)).trans (zfa_227_1 hf)).symm, fun j hj => ?_⟩
      rw [show zs0 w 227 ((1 : Nat) : Int) = 0 from ((zs0_a (j := 1) (by decide)).trans (zfa_227_1 hf))] at hj
      omega
  · obtain ⟨n, rfl⟩ := Int.eq_ofNat_of_zero_le b1
    have a22 : zs0 w 222 (n : Int) = 0 := (zs0_a (by decide)).trans (zfy_222 hf (by omega))
    have a23 : zs0 w 223 (n : Int) = 0 := (zs0_a (by decide)).trans (zfy_223 hf (by omega))
    have a27 : zs0 w 227 (n : Int) = 0 := (zs0_a (by decide)).trans (zfy_227 hf (by omega))
    exact ⟨by omega, by omega, by omega⟩
theorem I_M {w : zW} (hf : zFresh w) : gM (zs0 w) w ∧ iM (zs0 w) := by
  refine ⟨⟨(zff_5_1 hf).trans ((zs0_f (by decide)).trans (zff_72_194 hf)).symm, fun j hj => ?_⟩, fun j j1 j2 => ?_⟩
  · rw [zfy_25 hf hj, zs0_a (by decide), zfy_230 hf hj]
  · obtain ⟨n, rfl⟩ := Int.eq_ofNat_of_zero_le j1
    rw [zs0_a (by decide), zfy_230 hf (by omega)]
    decide
theorem I_L {w : zW} (hf : zFresh w) : gL (zs0 w) w := by
  exact ⟨0, 0, by decide, by decide, zff_10_5 hf, zff_11_5 hf, (zs0_f (by decide)).trans (zff_122_194 hf), fun k hk => absurd hk (Nat.not_lt_zero _)⟩
theorem zcnt_no {w : zW} (h : ∀ d f, d < 7 → f < 64 → zb w (zNd d + 1) f = none) : ∀ n, n ≤ 448 → zcnt w n = 0
  | 0, _ => rfl
  | n + 1, hn => by
    rw [zcnt, zcnt_no h n (by omega), if_pos (h (n / 64) (n % 64) (by omega) (by omega))]
theorem I_H {w : zW} (hf : zFresh w) : gH (zs0 w) w := by
  have e : zs0 w 113 0 = 0 := (zs0_f (by decide)).trans (zff_113_194 hf)
  unfold gH
  rw [zcnt_no (fun d f hd hf2 => zfn_all hf hd hf2) 448 (Nat.le_refl _), e, hf.1, hf.2.1]
  omega
theorem I_all {w : zW} (hf : zFresh w) (h4 : ∀ j, j < 448 → za w 204 j = 0) (h5 : ∀ j, j < 448 → za w 205 j = 0) (h20 : ∀ j, j < 32 → za w 220 j = 0) : zPJ 0 w :=
  ⟨fun _ => 0, zs0 w, ⟨⟨w, hf, fun _ _ _ => rfl, fun _ _ _ _ _ _ => rfl, fun _ _ => ⟨rfl, rfl⟩⟩, I_N hf, I_P hf, I_Q hf, I_T hf h4 h5, I_R hf, I_S hf, I_E hf h20, I_B hf, I_M hf, I_L hf, I_H hf⟩, zs0_mk⟩
def zmoreB (w : zW) : Bool := (List.range 448).all (fun j => decide (za w 204 j = 0) && decide (za w 205 j = 0)) && (List.range 32).all (fun j => decide (za w 220 j = 0))
theorem zC_more : zmoreB zC = true := by decide +kernel
theorem zmore_of {w : zW} (h : zmoreB w = true) : (∀ j, j < 448 → za w 204 j = 0) ∧ (∀ j, j < 448 → za w 205 j = 0) ∧ ∀ j, j < 32 → za w 220 j = 0 := by
  unfold zmoreB at h
  rw [Bool.and_eq_true, List.all_eq_true, List.all_eq_true] at h
  refine ⟨fun j hj => ?_, fun j hj => ?_, fun j hj => ?_⟩
  · have q := h.1 j (List.mem_range.mpr hj)
    rw [Bool.and_eq_true] at q
    exact of_decide_eq_true q.1
  · have q := h.1 j (List.mem_range.mpr hj)
    rw [Bool.and_eq_true] at q
    exact of_decide_eq_true q.2
  · exact of_decide_eq_true (h.2 j (List.mem_range.mpr hj))
theorem zPJ_0 (L : Nat) (xs : Nat → Int) : zPJ 0 (zo L xs zC) := by
  have m := zmore_of zC_more
  have f := zFresh_0 L xs
  revert m f
  generalize zC = wC
  intro m f
  exact I_all f (fun j hj => (zo_a (by decide)).trans (m.1 j hj)) (fun j hj => (zo_a (by decide)).trans (m.2.1 j hj)) (fun j hj => (zo_a (by decide)).trans (m.2.2 j hj))
