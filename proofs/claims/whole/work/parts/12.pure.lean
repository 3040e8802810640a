def up {α : Type} (f : Nat → α) (k : Nat) (v : α) : Nat → α := fun j => if j = k then v else f j
theorem mWd {G : mS → Prop} {pc : Nat} {lv : mL} {st : List Value} {w w2 : mW} (h : w = w2) (k : G (pc, lv, st, w2)) : G (pc, lv, st, w) := h ▸ k
/-- a MAKING's row: MAIN, ALL, an entry of THE TABLE -/
def msX (row : Nat → Int32) : Nat := if row 1 = 1 then 22 else 21
def mainX (row : Nat → Int32) : Int32 := if row 1 = 2 then 1 else row 0 * row (msX row)
def allX (rows : Nat → Nat → Int32) (i : Nat) : Int32 := if rows i 1 = 2 then 1 else rows i 0 * rows i (msX (rows i)) + rows i 8 * rows 0 (msX (rows i)) + rows i 9 * rows 1 (msX (rows i)) + rows i 10 * rows 2 (msX (rows i)) + rows i 11 * rows 3 (msX (rows i))
def cellX (row : Nat → Int32) (i j : Nat) : Int32 := if row 1 = 2 then (if i = j then row 0 else 0) + row (8 + j) - row (4 + j) else (if i = j then row 0 else 0) * row 3 - row (4 + j) * row 2
def wrow (rows : Nat → Nat → Int32) (i : Nat) : Nat → Nat → Int32 := up rows i (up (up (rows i) 2 (mainX (rows i))) 3 (allX rows i))
theorem lc_eq {x y : Int64} : lg_cmp x y = 0 ↔ x = y := by
  unfold lg_cmp
  by_cases h : x > y
  · rw [if_pos h]
    exact ⟨fun q => absurd q (by decide), fun q => by subst q; exact absurd h (Int64.lt_irrefl)⟩
  · rw [if_neg h]
    by_cases h2 : x = y
    · rw [if_pos h2]; exact ⟨fun _ => h2, fun _ => rfl⟩
    · rw [if_neg h2]; exact ⟨fun q => absurd q (by decide), fun q => absurd q h2⟩
theorem lc_lt {x y : Int64} : lg_cmp x y < 0 ↔ x < y := by
  unfold lg_cmp
  by_cases h : x > y
  · rw [if_pos h]
    exact ⟨fun q => absurd q (by decide), fun q => absurd (Int64.lt_trans q h) Int64.lt_irrefl⟩
  · rw [if_neg h]
    by_cases h2 : x = y
    · rw [if_pos h2]; exact ⟨fun q => absurd q (by decide), fun q => by subst h2; exact absurd q Int64.lt_irrefl⟩
    · rw [if_neg h2]; exact ⟨fun _ => Int64.lt_of_le_of_ne (Int64.not_lt.mp h) h2, fun _ => by decide⟩
theorem lc_gt {x y : Int64} : 0 < lg_cmp x y ↔ y < x := by
  unfold lg_cmp
  by_cases h : x > y
  · rw [if_pos h]; exact ⟨fun _ => h, fun _ => by decide⟩
  · rw [if_neg h]
    refine ⟨fun q => ?_, fun q => absurd q h⟩
    by_cases h2 : x = y
    · rw [if_pos h2] at q; exact absurd q (by decide)
    · rw [if_neg h2] at q; exact absurd q (by decide)
theorem lc_ge {x y : Int64} : 0 ≤ lg_cmp x y ↔ y ≤ x := by
  rw [← Int32.not_lt, lc_lt, Int64.not_lt]
theorem lc_le {x y : Int64} : lg_cmp x y ≤ 0 ↔ x ≤ y := by
  rw [← Int32.not_lt, lc_gt, Int64.not_lt]
def absX (x : Int64) : Int64 := if x < 0 then -x else x
def fdX (x y : Int64) : Int64 := if (x ^^^ y) < 0 ∧ x / y * y ≠ x then x / y - 1 else x / y
def hbX (row : Nat → Int32) : Int32 := if 0 < row 8 then 1 else if 0 < row 9 then 1 else if 0 < row 10 then 1 else if 0 < row 11 then 1 else 0
def chX (rows : Nat → Nat → Int32) (i what : Nat) (v : Int32) : Nat → Nat → Int32 := wrow (wrow (wrow (wrow (up rows i (up (rows i) what v)) 0) 1) 2) 3
def cpX (B : Nat → Nat → Nat → Int32) (t f a b : Nat) : Nat → Nat → Nat → Int32 := up B t (fun i => if a ≤ i then (if i < b then B f i else B t i) else B t i)
def emX (row : Nat → Int32) (k s : Nat) : Int64 := (row (12 + 3 * s + k) * row 2).toInt64
def lyc (n : Nat) (c T : Nat → Nat → Int64) : Nat → Nat → Int64 := fun j i => if j < n then (if i < n then c j i else T j i) else T j i
def lyT (n : Nat) (rows : Nat → Nat → Int32) (T : Nat → Nat → Int64) : Nat → Nat → Int64 := lyc n (fun j i => (cellX (rows i) i j).toInt64) T
def clc (n : Nat) (T : Nat → Nat → Int64) (i : Nat) (h : Nat → Int64) : Nat → Nat → Int64 := fun j k => if j < n then (if k = i then h j else T j k) else T j k
def clT (n : Nat) (T : Nat → Nat → Int64) (i : Nat) (h : Nat → Int32) : Nat → Nat → Int64 := clc n T i (fun j => (h j).toInt64)
def coT (n : Nat) (T : Nat → Nat → Int64) (i : Nat) (co : Nat → Int64) : Nat → Int64 := fun j => if j < n then T j i else co j
def mz0 (_ : Nat → Nat → Int64) : Int64 := 1
def mz1 (T : Nat → Nat → Int64) : Int64 := 0 + T 0 0 * mz0 T
def mz2 (T : Nat → Nat → Int64) : Int64 := 0 + T 0 1 * mz0 T
def mz3 (T : Nat → Nat → Int64) : Int64 := 0 + -(T 1 0 * mz2 T) + T 1 1 * mz1 T
def mz4 (T : Nat → Nat → Int64) : Int64 := 0 + T 0 2 * mz0 T
def mz5 (T : Nat → Nat → Int64) : Int64 := 0 + -(T 1 0 * mz4 T) + T 1 2 * mz1 T
def mz6 (T : Nat → Nat → Int64) : Int64 := 0 + -(T 1 1 * mz4 T) + T 1 2 * mz2 T
def mz7 (T : Nat → Nat → Int64) : Int64 := 0 + T 2 0 * mz6 T + -(T 2 1 * mz5 T) + T 2 2 * mz3 T
def mz8 (T : Nat → Nat → Int64) : Int64 := 0 + T 0 3 * mz0 T
def mz9 (T : Nat → Nat → Int64) : Int64 := 0 + -(T 1 0 * mz8 T) + T 1 3 * mz1 T
def mz10 (T : Nat → Nat → Int64) : Int64 := 0 + -(T 1 1 * mz8 T) + T 1 3 * mz2 T
def mz11 (T : Nat → Nat → Int64) : Int64 := 0 + T 2 0 * mz10 T + -(T 2 1 * mz9 T) + T 2 3 * mz3 T
def mz12 (T : Nat → Nat → Int64) : Int64 := 0 + -(T 1 2 * mz8 T) + T 1 3 * mz4 T
def mz13 (T : Nat → Nat → Int64) : Int64 := 0 + T 2 0 * mz12 T + -(T 2 2 * mz9 T) + T 2 3 * mz5 T
def mz14 (T : Nat → Nat → Int64) : Int64 := 0 + T 2 1 * mz12 T + -(T 2 2 * mz10 T) + T 2 3 * mz6 T
def mz15 (T : Nat → Nat → Int64) : Int64 := 0 + -(T 3 0 * mz14 T) + T 3 1 * mz13 T + -(T 3 2 * mz11 T) + T 3 3 * mz7 T
def mzs (k : Nat) (T : Nat → Nat → Int64) : Int64 := match k with
  | 0 => mz0 T
  | 1 => mz1 T
  | 2 => mz2 T
  | 3 => mz3 T
  | 4 => mz4 T
  | 5 => mz5 T
  | 6 => mz6 T
  | 7 => mz7 T
  | 8 => mz8 T
  | 9 => mz9 T
  | 10 => mz10 T
  | 11 => mz11 T
  | 12 => mz12 T
  | 13 => mz13 T
  | 14 => mz14 T
  | _ => mz15 T
def miX (n : Nat) (T : Nat → Nat → Int64) (mi : Nat → Int64) : Nat → Int64 := fun k => if k < 2 ^ n then mzs k T else mi k
def detX (n : Nat) (T : Nat → Nat → Int64) : Int64 := mzs (2 ^ n - 1) T
def rdX (n : Nat) (T : Nat → Nat → Int64) (h : Nat → Int32) (i : Nat) : Int64 := if detX n T < 0 then -(detX n (clT n T i h)) else detX n (clT n T i h)
def roX (n : Nat) (T : Nat → Nat → Int64) (h : Nat → Int32) (ro : Nat → Int64) : Nat → Int64 := fun i => if i < n then rdX n T h i else ro i
def csX (n : Nat) (T : Nat → Nat → Int64) (co : Nat → Int64) : Nat → Int64 := coT n T (n - 1) co
def mfX (n : Nat) (T : Nat → Nat → Int64) (h : Nat → Int32) (mi : Nat → Int64) : Nat → Int64 := match n with
  | 0 => miX 0 T mi
  | m + 1 => miX (m + 1) (clT (m + 1) T m h) mi
theorem h_pos {x : Int32} (h : ¬ x ≤ 0) : (0 < x) = True := eq_true (Int32.not_le.mp h)
theorem h_npos {x : Int32} (h : x ≤ 0) : (0 < x) = False := eq_false (Int32.not_lt.mpr h)
theorem hbX_01 (row : Nat → Int32) : hbX row = 0 ∨ hbX row = 1 := by
  unfold hbX
  repeat' split
  all_goals first | exact Or.inr rfl | exact Or.inl rfl
theorem mNf {G : mS → Prop} {pc : Nat} {lv lv2 : mL} {st st2 : List Value} {w : mW} (h : lv = lv2) (h2 : st = st2) (k : G (pc, lv2, st2, w)) : G (pc, lv, st, w) := by
  subst h h2
  exact k
theorem XW_T {n vs : Int32} {be de : Int64} {sz : Int32} {ro co mi : Nat → Int64} {T : Nat → Nat → Int64} {B : Nat → Nat → Nat → Int32} {hd : Nat → Nat → Int32} {df : Nat → Int32} {T2 : Nat → Nat → Int64} (h : ∀ j : Nat, j < 4 → ∀ i : Nat, i < 4 → T j i = T2 j i) : XW n vs be de sz ro co mi T B hd df = XW n vs be de sz ro co mi T2 B hd df := by
  have e : ∀ j : Nat, j < 4 → eL4 (T j) = eL4 (T2 j) := fun j hj => by
    show (Sum.inr (1, Sum.inr (Sum.inl [T j 0, T j 1, T j 2, T j 3])) : mE) = Sum.inr (1, Sum.inr (Sum.inl [T2 j 0, T2 j 1, T2 j 2, T2 j 3]))
    rw [h j hj 0 (by decide), h j hj 1 (by decide), h j hj 2 (by decide), h j hj 3 (by decide)]
  unfold XW
  rw [e 0 (by decide), e 1 (by decide), e 2 (by decide), e 3 (by decide)]
