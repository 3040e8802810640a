theorem rngL (x : Int64) : -9223372036854775808 ≤ x.toInt ∧ x.toInt < 9223372036854775808 := ⟨Int64.le_toInt x, Int64.toInt_lt x⟩
theorem bmodL {z : Int} (h1 : -9223372036854775808 ≤ z) (h2 : z < 9223372036854775808) : z.bmod (2 ^ 64) = z := Int.bmod_eq_of_le (by omega) (by omega)
def bd (x : Int64) (a : Nat) : Prop := x.toInt.natAbs ≤ a
theorem bd_rng {x : Int64} {a : Nat} (h : bd x a) : -(a : Int) ≤ x.toInt ∧ x.toInt ≤ a := by unfold bd at h; omega
theorem mulL {x y : Int64} {a b : Nat} (hx : bd x a) (hy : bd y b) (h : a * b < 9223372036854775808) : (x * y).toInt = x.toInt * y.toInt := by
  have e : (x.toInt * y.toInt).natAbs ≤ a * b := by rw [Int.natAbs_mul]; exact Nat.mul_le_mul hx hy
  rw [Int64.toInt_mul]
  exact bmodL (by omega) (by omega)
theorem bd_mul {x y : Int64} {a b : Nat} (hx : bd x a) (hy : bd y b) (h : a * b < 9223372036854775808) : bd (x * y) (a * b) := by
  unfold bd
  rw [mulL hx hy h, Int.natAbs_mul]
  exact Nat.mul_le_mul hx hy
theorem addL {x y : Int64} {a b : Nat} (hx : bd x a) (hy : bd y b) (h : a + b < 9223372036854775808) : (x + y).toInt = x.toInt + y.toInt := by
  have := bd_rng hx
  have := bd_rng hy
  rw [Int64.toInt_add]
  exact bmodL (by omega) (by omega)
theorem bd_add {x y : Int64} {a b : Nat} (hx : bd x a) (hy : bd y b) (h : a + b < 9223372036854775808) : bd (x + y) (a + b) := by
  have := bd_rng hx
  have := bd_rng hy
  unfold bd
  rw [addL hx hy h]
  omega
theorem subL {x y : Int64} {a b : Nat} (hx : bd x a) (hy : bd y b) (h : a + b < 9223372036854775808) : (x - y).toInt = x.toInt - y.toInt := by
  have := bd_rng hx
  have := bd_rng hy
  rw [Int64.toInt_sub]
  exact bmodL (by omega) (by omega)
theorem bd_sub {x y : Int64} {a b : Nat} (hx : bd x a) (hy : bd y b) (h : a + b < 9223372036854775808) : bd (x - y) (a + b) := by
  have := bd_rng hx
  have := bd_rng hy
  unfold bd
  rw [subL hx hy h]
  omega
theorem negL {x : Int64} {a : Nat} (hx : bd x a) (h : a < 9223372036854775808) : (-x).toInt = -x.toInt := by
  have := bd_rng hx
  rw [Int64.toInt_neg]
  exact bmodL (by omega) (by omega)
theorem bd_neg {x : Int64} {a : Nat} (hx : bd x a) (h : a < 9223372036854775808) : bd (-x) a := by
  have := bd_rng hx
  unfold bd
  rw [negL hx h]
  omega
theorem bd_0 : bd 0 0 := by unfold bd; decide
theorem bd_le {x : Int64} {a b : Nat} (h : bd x a) (hab : a ≤ b) : bd x b := Nat.le_trans h hab
theorem det4 (T : Nat → Nat → Int64) (t : Nat → Int64) (h00 : t 0 = T 0 0) (h01 : t 1 = T 0 1) (h02 : t 2 = T 0 2) (h03 : t 3 = T 0 3) (h10 : t 4 = T 1 0) (h11 : t 5 = T 1 1) (h12 : t 6 = T 1 2) (h13 : t 7 = T 1 3) (h20 : t 8 = T 2 0) (h21 : t 9 = T 2 1) (h22 : t 10 = T 2 2) (h23 : t 11 = T 2 3) (h30 : t 12 = T 3 0) (h31 : t 13 = T 3 1) (h32 : t 14 = T 3 2) (h33 : t 15 = T 3 3) : mz15 T = dtM t := by
  simp only [dtM, prM, mz0, mz1, mz2, mz3, mz4, mz5, mz6, mz7, mz8, mz9, mz10, mz11, mz12, mz13, mz14, mz15, Nat.reduceMul, Nat.reduceAdd, h00, h01, h02, h03, h10, h11, h12, h13, h20, h21, h22, h23, h30, h31, h32, h33]
  generalize T 0 0 = a00, T 0 1 = a01, T 0 2 = a02, T 0 3 = a03, T 1 0 = a10, T 1 1 = a11, T 1 2 = a12, T 1 3 = a13, T 2 0 = a20, T 2 1 = a21, T 2 2 = a22, T 2 3 = a23, T 3 0 = a30, T 3 1 = a31, T 3 2 = a32, T 3 3 = a33
  grind
theorem det0 (T : Nat → Nat → Int64) (t : Nat → Int64) (h00 : t 0 = 1) (h01 : t 1 = 0) (h02 : t 2 = 0) (h03 : t 3 = 0) (h10 : t 4 = 0) (h11 : t 5 = 1) (h12 : t 6 = 0) (h13 : t 7 = 0) (h20 : t 8 = 0) (h21 : t 9 = 0) (h22 : t 10 = 1) (h23 : t 11 = 0) (h30 : t 12 = 0) (h31 : t 13 = 0) (h32 : t 14 = 0) (h33 : t 15 = 1) : mz0 T = dtM t := by
  simp only [dtM, prM, mz0, mz1, mz2, mz3, mz4, mz5, mz6, mz7, mz8, mz9, mz10, mz11, mz12, mz13, mz14, mz15, Nat.reduceMul, Nat.reduceAdd, h00, h01, h02, h03, h10, h11, h12, h13, h20, h21, h22, h23, h30, h31, h32, h33]
  grind
theorem det1 (T : Nat → Nat → Int64) (t : Nat → Int64) (h00 : t 0 = T 0 0) (h01 : t 1 = 0) (h02 : t 2 = 0) (h03 : t 3 = 0) (h10 : t 4 = 0) (h11 : t 5 = 1) (h12 : t 6 = 0) (h13 : t 7 = 0) (h20 : t 8 = 0) (h21 : t 9 = 0) (h22 : t 10 = 1) (h23 : t 11 = 0) (h30 : t 12 = 0) (h31 : t 13 = 0) (h32 : t 14 = 0) (h33 : t 15 = 1) : mz1 T = dtM t := by
  simp only [dtM, prM, mz0, mz1, mz2, mz3, mz4, mz5, mz6, mz7, mz8, mz9, mz10, mz11, mz12, mz13, mz14, mz15, Nat.reduceMul, Nat.reduceAdd, h00, h01, h02, h03, h10, h11, h12, h13, h20, h21, h22, h23, h30, h31, h32, h33]
  generalize T 0 0 = a00
  grind
theorem det2 (T : Nat → Nat → Int64) (t : Nat → Int64) (h00 : t 0 = T 0 0) (h01 : t 1 = T 0 1) (h02 : t 2 = 0) (h03 : t 3 = 0) (h10 : t 4 = T 1 0) (h11 : t 5 = T 1 1) (h12 : t 6 = 0) (h13 : t 7 = 0) (h20 : t 8 = 0) (h21 : t 9 = 0) (h22 : t 10 = 1) (h23 : t 11 = 0) (h30 : t 12 = 0) (h31 : t 13 = 0) (h32 : t 14 = 0) (h33 : t 15 = 1) : mz3 T = dtM t := by
  simp only [dtM, prM, mz0, mz1, mz2, mz3, mz4, mz5, mz6, mz7, mz8, mz9, mz10, mz11, mz12, mz13, mz14, mz15, Nat.reduceMul, Nat.reduceAdd, h00, h01, h02, h03, h10, h11, h12, h13, h20, h21, h22, h23, h30, h31, h32, h33]
  generalize T 0 0 = a00, T 0 1 = a01, T 1 0 = a10, T 1 1 = a11
  grind
theorem det3 (T : Nat → Nat → Int64) (t : Nat → Int64) (h00 : t 0 = T 0 0) (h01 : t 1 = T 0 1) (h02 : t 2 = T 0 2) (h03 : t 3 = 0) (h10 : t 4 = T 1 0) (h11 : t 5 = T 1 1) (h12 : t 6 = T 1 2) (h13 : t 7 = 0) (h20 : t 8 = T 2 0) (h21 : t 9 = T 2 1) (h22 : t 10 = T 2 2) (h23 : t 11 = 0) (h30 : t 12 = 0) (h31 : t 13 = 0) (h32 : t 14 = 0) (h33 : t 15 = 1) : mz7 T = dtM t := by
  simp only [dtM, prM, mz0, mz1, mz2, mz3, mz4, mz5, mz6, mz7, mz8, mz9, mz10, mz11, mz12, mz13, mz14, mz15, Nat.reduceMul, Nat.reduceAdd, h00, h01, h02, h03, h10, h11, h12, h13, h20, h21, h22, h23, h30, h31, h32, h33]
  generalize T 0 0 = a00, T 0 1 = a01, T 0 2 = a02, T 1 0 = a10, T 1 1 = a11, T 1 2 = a12, T 2 0 = a20, T 2 1 = a21, T 2 2 = a22
  grind
