-- the class's part of the world beside the reference's state: the relation, group by group
def zNd (d : Nat) : Nat := if d = 0 then 5 else if d = 1 then 30 else 40 + 22 * d
def zPt (p : Nat) : Nat := if p = 0 then 7 else if p = 1 then 32 else if p = 7 then 52 else 42 + 22 * p
theorem zPt_c {p : Nat} (hp : p < 8) : (p = 0 ∧ zPt p = 7) ∨ (p = 1 ∧ zPt p = 32) ∨ (p = 7 ∧ zPt p = 52) ∨ (2 ≤ p ∧ p ≤ 6 ∧ zPt p = 42 + 22 * p) := by
  unfold zPt
  repeat' split
  all_goals omega
theorem zNd_c {d : Nat} (hd : d < 7) : (d = 0 ∧ zNd d = 5) ∨ (d = 1 ∧ zNd d = 30) ∨ (2 ≤ d ∧ d ≤ 6 ∧ zNd d = 40 + 22 * d) := by
  unfold zNd
  repeat' split
  all_goals omega
theorem zPt_dis {p q : Nat} (hp : p < 8) (hq : q < 8) (h : p ≠ q) : zPt p + 18 ≤ zPt q ∨ zPt q + 18 ≤ zPt p := by
  have h1 := zPt_c hp
  have h2 := zPt_c hq
  omega
theorem zPt_Nd {d : Nat} (hd : d < 7) : zPt d = zNd d + 2 := by
  have h1 := zPt_c (p := d) (by omega)
  have h2 := zNd_c hd
  omega
-- what never changes: pointers of the first 239 cells, fixed arrays of references, two fields
def zCon (w : zW) : Prop := ∃ w0, zFresh w0 ∧ (∀ f h, h ≤ 239 → zp w f h = zp w0 f h) ∧ (∀ h j, h ≤ 239 → zk w h ≠ 18 → zk w h ≠ 20 → zk w h ≠ 21 → zb w h j = zb w0 h j) ∧ (∀ h, h ≤ 239 → zf w 17 h = zf w0 17 h ∧ zf w 41 h = zf w0 41 h)
-- packet k of the output of port p, in the slot at h
def zEnt (s : zSt) (w : zW) (p k h : Nat) : Prop := zf w 26 h = s 201 (12 * (8 * (p : Int) + (k : Int))) ∧ zf w 27 h = s 201 (12 * (8 * (p : Int) + (k : Int)) + 1) ∧ zf w 28 h = s 201 (12 * (8 * (p : Int) + (k : Int)) + 2) ∧ zf w 29 h = s 201 (12 * (8 * (p : Int) + (k : Int)) + 3) ∧ ∀ j : Nat, (j : Int) < s 201 (12 * (8 * (p : Int) + (k : Int)) + 3) → za w (h + 1) j = s 201 (12 * (8 * (p : Int) + (k : Int)) + 4 + (j : Int))
-- the output of port p; x packets in front are no longer counted
def zPQ (x : Nat) (s : zSt) (w : zW) (p : Nat) : Prop := ∃ hd b : Nat, hd < 8 ∧ b + x ≤ 8 ∧ zf w 25 (zPt p) = (hd : Int) ∧ zf w 23 (zPt p) = ((b + x : Nat) : Int) ∧ s 200 (p : Int) = (b : Int) ∧ ∀ k : Nat, k < b → zEnt s w p k (zPt p + 2 + 2 * ((hd + x + k) % 8))
def gQ (e : Nat) (s : zSt) (w : zW) : Prop := (∀ p : Nat, p < 8 → 0 ≤ s 195 (p : Int) → zPQ (if p = e then 1 else 0) s w p) ∧ (∀ p : Nat, p < 8 → ∃ hd b : Nat, hd < 8 ∧ b ≤ 8 ∧ zf w 25 (zPt p) = (hd : Int) ∧ zf w 23 (zPt p) = (b : Int))
def gN (s : zSt) (w : zW) : Prop := (∀ d : Nat, d < 7 → zf w 15 (zNd d) = s 195 (d : Int)) ∧ (∀ d : Nat, d < 7 → zb w 71 d = if s 195 (d : Int) = 0 then some (zPt d) else none) ∧ (∀ d : Nat, d < 7 → zb w 78 d = if d = 1 then some 52 else if s 195 (d : Int) = 1 then some (zPt d) else none)
def gP (e : Nat) (s : zSt) (w : zW) : Prop := ∀ p : Nat, p < 8 → zf w 18 (zPt p) = s 196 (p : Int) ∧ zf w 19 (zPt p) = s 197 (p : Int) ∧ zf w 20 (zPt p) = (if p = 0 ∨ p = 7 then 1 else s 198 (p : Int)) ∧ (p < 7 → zf w 21 (zPt p) = s 202 (p : Int)) ∧ (p ≠ e → zf w 22 (zPt p) = s 199 (p : Int))
-- the part that node d keeps of messages from endpoint f, at h; own: whose a later cell is
def zPrt (own : Nat → Nat) (s : zSt) (w : zW) (S f h : Nat) : Prop := zk w h = 9 ∧ zk w (h + 1) = 12 ∧ zl w (h + 1) = 32 ∧ zp w 61 h = some (h + 1) ∧ zf w 58 h = (f : Int) ∧ own h = S ∧ own (h + 1) = S ∧ 239 < h ∧ h + 1 ≤ zn w ∧ (0 ≤ zf w 59 h ∧ zf w 59 h ≤ 15) ∧ (0 ≤ zf w 60 h ∧ zf w 60 h ≤ 32) ∧ (0 ≤ zf w 63 h ∧ zf w 63 h ≤ 3) ∧ ((zf w 62 h = 0 ∧ s 203 (S : Int) = 0) ∨ (zf w 62 h = 1 ∧ ∃ n : Nat, (1 ≤ n ∧ n ≤ 32) ∧ s 203 (S : Int) = (n : Int) + 1 ∧ zf w 60 h = (n : Int) ∧ zf w 59 h = s 204 (S : Int) ∧ zf w 63 h = s 205 (S : Int) ∧ ∀ j : Nat, j < n → za w (h + 1) j = s 206 (32 * (S : Int) + (j : Int))))
def gT (own : Nat → Nat) (s : zSt) (w : zW) : Prop := ∀ d f : Nat, d < 7 → f < 64 → (zb w (zNd d + 1) f = none ∧ s 203 ((64 * d + f : Nat) : Int) = 0) ∨ ∃ h, zb w (zNd d + 1) f = some h ∧ zPrt own s w (64 * d + f) f h
-- request r: its bytes at g, itself at g + 1, the answer's bytes at g + 2
def zReq (own : Nat → Nat) (s : zSt) (w : zW) (r g : Nat) : Prop := zk w g = 12 ∧ zk w (g + 1) = 10 ∧ zk w (g + 2) = 12 ∧ zl w (g + 2) = 32 ∧ zp w 66 (g + 1) = some g ∧ zp w 67 (g + 1) = some (g + 2) ∧ own g = 448 + r ∧ own (g + 1) = 448 + r ∧ own (g + 2) = 448 + r ∧ 239 < g ∧ g + 2 ≤ zn w ∧ zf w 64 (g + 1) = s 231 (r : Int) ∧ zf w 65 (g + 1) = ((r % 8 : Nat) : Int) ∧ zf w 68 (g + 1) = s 237 (r : Int) ∧ zf w 69 (g + 1) = s 234 (r : Int) ∧ zf w 70 (g + 1) = s 235 (r : Int) ∧ zf w 71 (g + 1) = s 236 (r : Int) ∧ s 232 (r : Int) = (zl w g : Int) ∧ (∀ j : Nat, (j : Int) < s 232 (r : Int) → za w g j = s 233 (32 * (r : Int) + (j : Int))) ∧ (∀ j : Nat, (j : Int) < s 237 (r : Int) → za w (g + 2) j = s 238 (32 * (r : Int) + (j : Int)))
def gR (own : Nat → Nat) (s : zSt) (w : zW) : Prop := zf w 13 5 = s 113 0 ∧ ∀ r : Nat, (r : Int) < s 113 0 → ∃ g, zb w 29 r = some (g + 1) ∧ zReq own s w r g
def gS (s : zSt) (w : zW) : Prop := ∀ d : Nat, 1 ≤ d → d < 7 → zf w 32 (zNd d) = s 207 (d : Int) ∧ zf w 33 (zNd d) = s 211 (d : Int) ∧ zf w 34 (zNd d) = s 208 (d : Int) ∧ zf w 35 (zNd d) = s 209 (d : Int) ∧ zf w 36 (zNd d) = s 210 (d : Int) ∧ zf w 38 (zNd d) = s 212 (d : Int) ∧ zf w 39 (zNd d) = s 213 (d : Int) ∧ ∀ j : Nat, j < 24 → za w (zNd d + 20) j = s 214 (24 * (d : Int) + (j : Int))
-- the address that the bridge's identity was given last among the first n
def zgb (s : zSt) : Nat → Int
  | 0 => 0
  | n + 1 => if s 220 (n : Int) = 1000 then 16 + (n : Int) else zgb s n
def gE (s : zSt) (w : zW) : Prop := (∀ b : Nat, b < 2 → zf w 48 (72 + 7 * b) = s 215 (b : Int) ∧ zf w 49 (72 + 7 * b) = s 219 (b : Int) ∧ zf w 50 (72 + 7 * b) = s 218 (b : Int) ∧ zf w 52 (72 + 7 * b) = s 216 (b : Int) ∧ (s 215 (b : Int) = 1 → s 216 (b : Int) = 2 → zf w 53 (72 + 7 * b) = s 221 (b : Int)) ∧ (s 215 (b : Int) = 1 → s 216 (b : Int) = 3 → zf w 54 (72 + 7 * b) = s 217 (b : Int))) ∧ zf w 51 72 = s 100 0 ∧ (s 215 0 = 1 → s 216 0 ≠ 0 → zf w 55 72 = zgb s (s 219 0).toNat)
def gB (s : zSt) (w : zW) : Prop := ∀ b : Nat, b < 2 → ((zf w 45 (70 + 7 * b) = -1 ∧ s 223 (b : Int) = 0) ∨ (zf w 45 (70 + 7 * b) = s 222 (b : Int) ∧ zf w 46 (70 + 7 * b) = s 223 (b : Int) ∧ 1 ≤ s 223 (b : Int))) ∧ zf w 57 (73 + 7 * b) = s 227 (b : Int) ∧ ∀ j : Nat, (j : Int) < s 227 (b : Int) → za w (74 + 7 * b) j = s 226 (16 * (b : Int) + (j : Int))
def gM (s : zSt) (w : zW) : Prop := zf w 5 1 = s 72 0 ∧ ∀ j : Nat, j < 32 → za w 25 j = s 230 (j : Int)
-- the log: a ring in the class, in the reference the latest last
def gL (s : zSt) (w : zW) : Prop := ∃ n x : Nat, n ≤ 16 ∧ x < 16 ∧ zf w 10 5 = (n : Int) ∧ zf w 11 5 = (x : Int) ∧ s 122 0 = (n : Int) ∧ ∀ k : Nat, k < n → za w 26 ((x + 31 - k) % 16) = s 239 (3 * ((n : Int) - 1 - (k : Int))) ∧ za w 27 ((x + 31 - k) % 16) = s 239 (3 * ((n : Int) - 1 - (k : Int)) + 1) ∧ za w 28 ((x + 31 - k) % 16) = s 239 (3 * ((n : Int) - 1 - (k : Int)) + 2)
-- how many parts stand among the first n places
def zcnt (w : zW) : Nat → Nat
  | 0 => 0
  | n + 1 => zcnt w n + (if zb w (zNd (n / 64) + 1) (n % 64) = none then 0 else 1)
def gH (s : zSt) (w : zW) : Prop := (zn w : Int) = 239 + 2 * (zcnt w 448 : Int) + 3 * s 113 0 ∧ (zsl w : Int) ≤ 21900 + 38 * (zcnt w 448 : Int) + 72 * s 113 0
-- bounds of the state, group by group
def iN (s : zSt) : Prop := s 195 0 = 0 ∧ s 195 1 = 0 ∧ s 195 7 = 1 ∧ ∀ p : Int, 0 ≤ p → p < 8 → -1 ≤ s 195 p ∧ s 195 p ≤ 1
def iP (s : zSt) : Prop := (∀ p : Int, 0 ≤ p → p < 8 → 0 ≤ s 196 p ∧ s 196 p ≤ 65535) ∧ (s 197 0 = 8 ∧ s 197 7 = 8 ∧ ∀ p : Int, 1 ≤ p → p < 7 → s 197 p = 0 ∨ 16 ≤ s 197 p ∧ s 197 p ≤ 31) ∧ (∀ p : Int, 0 ≤ p → p < 8 → s 198 p = 0 ∨ s 198 p = 1) ∧ (∀ p : Int, 0 ≤ p → p < 8 → 0 ≤ s 199 p ∧ s 199 p ≤ 2) ∧ (s 202 0 = 8 ∧ ∀ d : Int, 0 ≤ d → d < 7 → 0 ≤ s 202 d ∧ s 202 d ≤ 63)
-- a packet in the output: target, source, flags, length, bytes
def zOK (s : zSt) (a : Int) : Prop := (0 ≤ s 201 a ∧ s 201 a ≤ 255) ∧ (0 ≤ s 201 (a + 1) ∧ s 201 (a + 1) ≤ 63) ∧ (0 ≤ s 201 (a + 2) ∧ s 201 (a + 2) ≤ 255) ∧ (1 ≤ s 201 (a + 3) ∧ s 201 (a + 3) ≤ 8) ∧ ∀ j : Int, 0 ≤ j → j < s 201 (a + 3) → 0 ≤ s 201 (a + 4 + j) ∧ s 201 (a + 4 + j) ≤ 255
def iQ (s : zSt) : Prop := ∀ p k : Int, 0 ≤ p → p < 8 → 0 ≤ s 195 p → 0 ≤ k → k < s 200 p → zOK s (12 * (8 * p + k)) ∧ (p = 7 → 32 ≤ s 201 (12 * (8 * p + k)))
def iT (s : zSt) : Prop := ∀ S : Int, 0 ≤ S → S < 448 → (0 ≤ s 203 S ∧ s 203 S ≤ 33) ∧ (0 ≤ s 204 S ∧ s 204 S ≤ 15) ∧ (0 ≤ s 205 S ∧ s 205 S ≤ 3) ∧ ∀ j : Int, 0 ≤ j → j + 1 < s 203 S → 0 ≤ s 206 (32 * S + j) ∧ s 206 (32 * S + j) ≤ 255
def iS (B : Int) (s : zSt) : Prop := ∀ d : Int, 1 ≤ d → d < 7 → (-32768 ≤ s 207 d ∧ s 207 d ≤ 32767) ∧ (-32768 ≤ s 208 d ∧ s 208 d ≤ 32767) ∧ (-32768 ≤ s 209 d ∧ s 209 d ≤ 32767) ∧ (0 ≤ s 210 d ∧ s 210 d ≤ 255) ∧ (0 ≤ s 211 d ∧ s 211 d ≤ 2) ∧ (0 ≤ s 212 d ∧ s 212 d ≤ 255) ∧ (0 ≤ s 213 d ∧ s 213 d ≤ B) ∧ ∀ j : Int, 0 ≤ j → j < 24 → 0 ≤ s 214 (24 * d + j) ∧ s 214 (24 * d + j) ≤ 255
def iE (s : zSt) : Prop := (∀ b : Int, 0 ≤ b → b < 2 → (0 ≤ s 215 b ∧ s 215 b ≤ 3) ∧ (0 ≤ s 216 b ∧ s 216 b ≤ 3) ∧ (s 215 b = 1 → s 216 b = 3 → 0 ≤ s 217 b ∧ s 217 b < s 219 b) ∧ (0 ≤ s 218 b ∧ s 218 b ≤ 2) ∧ (0 ≤ s 219 b ∧ s 219 b ≤ 16) ∧ (s 215 b = 1 → s 216 b = 2 → s 219 b ≤ 15 ∧ 0 ≤ s 221 b ∧ s 221 b ≤ 65535) ∧ ∀ x : Int, 0 ≤ x → x < 16 → 0 ≤ s 220 (16 * b + x) ∧ s 220 (16 * b + x) ≤ 65535) ∧ 0 ≤ s 100 0 ∧ s 100 0 ≤ 31
def iB (s : zSt) : Prop := ∀ b : Int, 0 ≤ b → b < 2 → (0 ≤ s 222 b ∧ s 222 b ≤ 12) ∧ (0 ≤ s 223 b ∧ s 223 b ≤ 255) ∧ (0 ≤ s 227 b ∧ s 227 b ≤ 13)
def iM (s : zSt) : Prop := ∀ j : Int, 0 ≤ j → j < 32 → 0 ≤ s 230 j ∧ s 230 j ≤ 255
def iR (s : zSt) : Prop := (0 ≤ s 113 0 ∧ s 113 0 ≤ 40 ∧ ∀ x : Int, s 113 0 ≤ x → x < 40 → s 237 x = 0) ∧ ∀ r : Int, 0 ≤ r → r < s 113 0 → (9 ≤ s 231 r ∧ s 231 r ≤ 63) ∧ (1 ≤ s 232 r ∧ s 232 r ≤ 32) ∧ (1 ≤ s 234 r ∧ s 234 r ≤ 3) ∧ (0 ≤ s 235 r ∧ s 235 r ≤ 30) ∧ (s 234 r = 1 → 1 ≤ s 235 r) ∧ (1 ≤ s 236 r ∧ s 236 r ≤ 3) ∧ (0 ≤ s 237 r ∧ s 237 r ≤ 32) ∧ ∀ j : Int, 0 ≤ j → j < s 232 r → 0 ≤ s 233 (32 * r + j) ∧ s 233 (32 * r + j) ≤ 255
-- all of it: what doesn't change; groups 1 to 10; the room
def zJ0 (B : Int) (e : Nat) (own : Nat → Nat) (s : zSt) (w : zW) : Prop := zCon w ∧ (gN s w ∧ iN s) ∧ (gP e s w ∧ iP s) ∧ (gQ e s w ∧ iQ s) ∧ (gT own s w ∧ iT s) ∧ (gR own s w ∧ iR s) ∧ (gS s w ∧ iS B s) ∧ (gE s w ∧ iE s) ∧ (gB s w ∧ iB s) ∧ (gM s w ∧ iM s) ∧ gL s w ∧ gH s w
