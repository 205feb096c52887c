/-! The mathematics: sizes, masks, the generator, the hash, a look, a place, a taking out, a step. -/
def szC (C : Nat) : Prop := C = 8 ∨ C = 16 ∨ C = 32 ∨ C = 64 ∨ C = 128
theorem szC.lo {C : Nat} (h : szC C) : 8 ≤ C := by unfold szC at h; omega
theorem szC.hi {C : Nat} (h : szC C) : C ≤ 128 := by unfold szC at h; omega
theorem mk_and {C n : Nat} (h : szC C) (hn : n < 2 ^ 31) : nI n &&& nI (C - 1) = nI (n % C) := by
  rcases h with rfl | rfl | rfl | rfl | rfl
  · exact pk_andN (by omega) 3 (by decide)
  · exact pk_andN (by omega) 4 (by decide)
  · exact pk_andN (by omega) 5 (by decide)
  · exact pk_andN (by omega) 6 (by decide)
  · exact pk_andN (by omega) 7 (by decide)
theorem mk_andX {C : Nat} (h : szC C) (x : Int32) : x &&& nI (C - 1) = nI (x.toBitVec.toNat % C) := by
  rcases h with rfl | rfl | rfl | rfl | rfl
  · exact pk_and x 3 (by decide)
  · exact pk_and x 4 (by decide)
  · exact pk_and x 5 (by decide)
  · exact pk_and x 6 (by decide)
  · exact pk_and x 7 (by decide)
theorem mk_sub {C a b : Nat} (h : szC C) (ha : a < C) (hb : b < C) : (nI a - nI b) &&& nI (C - 1) = nI ((a + C - b) % C) := by
  have hi := h.hi
  rw [mk_andX h]
  congr 1
  rw [Int32.toBitVec_sub, BitVec.toNat_sub, pk_tn (by omega), pk_tn (by omega)]
  rcases h with rfl | rfl | rfl | rfl | rfl <;> omega
theorem mk_next {C c : Nat} (h : szC C) (hc : c < C) : (nI c + 1) &&& nI (C - 1) = nI ((c + 1) % C) := by
  have hi := h.hi
  rw [nI_1, mk_and h (by omega)]
theorem md_lt {C n : Nat} (h : szC C) : n % C < C := Nat.mod_lt _ (by have := h.lo; omega)
theorem md_next {C h i : Nat} (hC : szC C) : ((h + i) % C + 1) % C = (h + (i + 1)) % C := by
  rw [Nat.mod_add_mod, Nat.add_assoc]
def rl32 (x n : Int32) : Int32 := (x <<< (n &&& 31)) ||| ush x (-n)
def rl64 (x : Int64) (n : Int32) : Int64 := lsl x n ||| lus x (-n)
def jn (lo hi : Int32) : Int64 := lsl hi.toInt64 32 ||| (lo.toInt64 &&& 4294967295)
def mx (z : Int32) : Int32 :=
  let x := (z ^^^ ush z 16) * (-2048144789)
  let y := (x ^^^ ush x 13) * (-1028477387)
  y ^^^ ush y 16
/-- the generator: its next state and its answer -/
def gS (v : Int32 × Int32 × Int32 × Int32) : Int32 × Int32 × Int32 × Int32 :=
  (v.1 ^^^ (v.2.2.2 ^^^ v.2.1), v.2.1 ^^^ (v.2.2.1 ^^^ v.1), (v.2.2.1 ^^^ v.1) ^^^ (v.2.1 <<< ((9 : Int32) &&& 31)), rl32 (v.2.2.2 ^^^ v.2.1) 11)
def gO (v : Int32 × Int32 × Int32 × Int32) : Int32 := rl32 (v.2.1 * 5) 7 * 9
def gIt : Nat → Int32 × Int32 × Int32 × Int32 → Int32 × Int32 × Int32 × Int32
  | 0, v => v
  | n + 1, v => gS (gIt n v)
/-- the words behind n draws -/
def wIt (g : Int32 × Int32 × Int32 × Int32) (w : Nat → Int32) : Nat → Nat → Int32
  | 0 => w
  | n + 1 => upd (wIt g w n) n (gO (gIt n g))
def g0 (sd : Int32) : Int32 × Int32 × Int32 × Int32 :=
  let a := mx (sd + (-1640531527)); let b := mx (sd + 1013904242); let c := mx (sd + (-626627285)); let d := mx (sd + 2027808484)
  (if a ||| b ||| c ||| d = 0 then 1 else a, b, c, d)
/-- one round of the hash -/
def sr (v : Int64 × Int64 × Int64 × Int64) : Int64 × Int64 × Int64 × Int64 :=
  let p1 := v.1 + v.2.1
  let q1 := rl64 v.2.1 13 ^^^ p1
  let r1 := v.2.2.1 + v.2.2.2
  let s1 := rl64 v.2.2.2 16 ^^^ r1
  let p2 := rl64 p1 32 + s1
  let r2 := r1 + q1
  (p2, rl64 q1 17 ^^^ r2, rl64 r2 32, rl64 s1 21 ^^^ p2)
def sx (m : Int64) (v : Int64 × Int64 × Int64 × Int64) : Int64 × Int64 × Int64 × Int64 := (v.1 ^^^ m, v.2.1, v.2.2.1 ^^^ 255, v.2.2.2)
/-- f rounds are left -/
def hk (m : Int64) : Nat → Int64 × Int64 × Int64 × Int64 → Int64
  | 0, v => v.1 ^^^ v.2.1 ^^^ v.2.2.1 ^^^ v.2.2.2
  | f + 1, v => hk m f (if f = 3 then sx m (sr v) else sr v)
def hi0 (k l m : Int64) : Int64 × Int64 × Int64 × Int64 := (k ^^^ 8317987319222330741, l ^^^ 7237128888997146477, k ^^^ 7816392313619706465, l ^^^ 8387220255154660723 ^^^ m)
def hs (k l : Int64) (n : Int32) : Int64 := hk (jn n 67108864) 4 (hi0 k l (jn n 67108864))
def hwd (w : Nat → Int32) (n : Int32) : Int64 := hs (jn (w 0) (w 1)) (jn (w 2) (w 3)) n
def hm (C : Nat) (w : Nat → Int32) (n : Int32) : Nat := (hwd w n).toInt32.toBitVec.toNat % C
theorem hm_lt {C : Nat} (h : szC C) (w : Nat → Int32) (n : Int32) : hm C w n < C := md_lt h
/-- a look: f cells are left to look at, c is the next -/
def lk (C : Nat) (M K : Nat → Int32) (key : Int32) : Nat → Nat → Int32
  | 0, _ => -1
  | f + 1, c => if M c = 0 then -1 else if M c = 1 ∧ K c = key then nI c else lk C M K key f ((c + 1) % C)
/-- how many cells from c on are not free, f at most -/
def fd (C : Nat) (M : Nat → Int32) : Nat → Nat → Nat
  | 0, _ => 0
  | f + 1, c => if M c = 0 then 0 else fd C M f ((c + 1) % C) + 1
/-- the offset, and the cell, at which an int with the home h is placed -/
def pld (C : Nat) (M : Nat → Int32) (h : Nat) : Nat := fd C M (C - 1) h
def plc (C : Nat) (M : Nat → Int32) (h : Nat) : Nat := (h + pld C M h) % C
/-- what moves up behind a hole: f cells are left, the next is i cells behind the first hole -/
def tk (C : Nat) (h : Int32 → Nat) (fr : Nat) : Nat → Nat → (Nat → Int32) → (Nat → Int32) → (Nat → Int32) → Nat → (Nat → Int32) × (Nat → Int32) × (Nat → Int32)
  | 0, _, M, K, V, _ => (M, K, V)
  | f + 1, i, M, K, V, ho =>
    if M ((fr + i) % C) = 0 then (M, K, V)
    else if ((fr + i) % C + C - ho) % C ≤ ((fr + i) % C + C - h (K ((fr + i) % C))) % C then
      tk C h fr f (i + 1) (upd (upd M ho 1) ((fr + i) % C) 0) (upd K ho (K ((fr + i) % C))) (upd V ho (V ((fr + i) % C))) ((fr + i) % C)
    else tk C h fr f (i + 1) M K V ho
/-- how many of the first n cells are keyed -/
def cnt (M : Nat → Int32) : Nat → Nat
  | 0 => 0
  | n + 1 => cnt M n + if M n = 1 then 1 else 0
/-- the least keyed cell from n - f on, or n -/
def nx (n : Nat) (M : Nat → Int32) : Nat → Nat
  | 0 => n
  | f + 1 => if M (n - (f + 1)) = 1 then n - (f + 1) else nx n M f
def lst (C : Nat) (M : Nat → Int32) : Nat := nx C M C
/-- n moves of a step: old marks; new marks, keys, values -/
def mst (C : Nat) (h : Int32 → Nat) (OK OV : Nat → Int32) : Nat → (Nat → Int32) × (Nat → Int32) × (Nat → Int32) × (Nat → Int32) → (Nat → Int32) × (Nat → Int32) × (Nat → Int32) × (Nat → Int32)
  | 0, s => s
  | n + 1, s => if lst C s.1 = C then s else
      mst C h OK OV n (upd s.1 (lst C s.1) 2, upd s.2.1 (plc C s.2.1 (h (OK (lst C s.1)))) 1, upd s.2.2.1 (plc C s.2.1 (h (OK (lst C s.1)))) (OK (lst C s.1)), upd s.2.2.2 (plc C s.2.1 (h (OK (lst C s.1)))) (OV (lst C s.1)))
def mcn (C : Nat) : Nat → (Nat → Int32) → Nat
  | 0, _ => 0
  | n + 1, M => if lst C M = C then 0 else mcn C n (upd M (lst C M) 2) + 1
/-- the least key above b among the first n cells, or x if that is nearer; x = b is none yet -/
def abv (M K : Nat → Int32) (b : Int32) : Nat → Nat → Int32 → Int32
  | 0, _, x => x
  | f + 1, i, x => abv M K b f (i + 1) (if M i = 1 ∧ b < K i ∧ (x = b ∨ K i < x) then K i else x)
/-- the sum over the cells -/
def smf (w : Nat → Int32) (M K V : Nat → Int32) : Nat → Int64
  | 0 => 0
  | n + 1 => smf w M K V n + if M n = 1 then hwd w (K n) * (2 * (V n).toInt64 + 1) else 0
