def up {α : Type} (f : Nat → α) (k : Nat) (v : α) : Nat → α := fun j => if j = k then v else f j
theorem mWd {G : mS → Prop} {pc : Nat} {lv : mL} {st : List Value} {w w2 : mW} (h : w = w2) (k : G (pc, lv, st, w2)) : G (pc, lv, st, w) := h ▸ k
/-- a MAKING's row: MAIN, ALL, an entry of THE TABLE -/
def msX (row : Nat → Int32) : Nat := if row 1 = 1 then 22 else 21
def mainX (row : Nat → Int32) : Int32 := if row 1 = 2 then 1 else row 0 * row (msX row)
def allX (rows : Nat → Nat → Int32) (i : Nat) : Int32 := if rows i 1 = 2 then 1 else rows i 0 * rows i (msX (rows i)) + rows i 8 * rows 0 (msX (rows i)) + rows i 9 * rows 1 (msX (rows i)) + rows i 10 * rows 2 (msX (rows i)) + rows i 11 * rows 3 (msX (rows i))
def cellX (row : Nat → Int32) (i j : Nat) : Int32 := if row 1 = 2 then (if i = j then row 0 else 0) + row (8 + j) - row (4 + j) else (if i = j then row 0 else 0) * row 3 - row (4 + j) * row 2
def wrow (rows : Nat → Nat → Int32) (i : Nat) : Nat → Nat → Int32 := up rows i (up (up (rows i) 2 (mainX (rows i))) 3 (allX rows i))
