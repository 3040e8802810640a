/-! FLOORS, over the longs -/
theorem min_toInt : Int64.minValue.toInt = -9223372036854775808 := by decide
theorem k_toInt : (1000 : Int64).toInt = 1000 := by decide
theorem tm_pos {a : Int} (b : Int) (h : 0 ≤ a) : 0 ≤ a.tmod b ∧ a.tmod b ≤ a := by
  have h1 := Int.tmod_nonneg b h
  have h2 := Int.natAbs_tmod a b
  have h3 := Nat.mod_le a.natAbs b.natAbs
  omega
theorem tm_neg {a : Int} (b : Int) (h : a ≤ 0) : a ≤ a.tmod b ∧ a.tmod b ≤ 0 := by
  have h1 := Int.tmod_nonneg b (show 0 ≤ -a by omega)
  rw [Int.neg_tmod] at h1
  have h2 := Int.natAbs_tmod a b
  have h3 := Nat.mod_le a.natAbs b.natAbs
  omega
theorem divL {a b : Int64} (h : a.toInt ≠ -9223372036854775808) : (a / b).toInt = a.toInt.tdiv b.toInt :=
  Int64.toInt_div_of_ne_left a b (fun e => h (by rw [e]; exact min_toInt))
theorem mdL {a b : Int64} (h : a.toInt ≠ -9223372036854775808) : (a / b * b).toInt = a.toInt - a.toInt.tmod b.toInt := by
  have e := Int.mul_tdiv_add_tmod a.toInt b.toInt
  have e2 : a.toInt.tdiv b.toInt * b.toInt = a.toInt - a.toInt.tmod b.toInt := by rw [Int.mul_comm]; omega
  have hr := rngL a
  have hp := @tm_pos a.toInt b.toInt
  have hq := @tm_neg a.toInt b.toInt
  rw [Int64.toInt_mul, divL h, e2]
  refine bmodL ?_ ?_
  · omega
  · omega
theorem remL {a b : Int64} (h : a.toInt ≠ -9223372036854775808) : (a - a / b * b).toInt = a.toInt.tmod b.toInt := by
  have hr := rngL a
  have hp := @tm_pos a.toInt b.toInt
  have hq := @tm_neg a.toInt b.toInt
  rw [Int64.toInt_sub, mdL h]
  have e : a.toInt - (a.toInt - a.toInt.tmod b.toInt) = a.toInt.tmod b.toInt := by omega
  rw [e]
  refine bmodL ?_ ?_
  · omega
  · omega
theorem fl_int {a b : Int} (hb : 0 < b) : a / b = if a.tmod b < 0 then a.tdiv b - 1 else a.tdiv b := by
  have e := Int.mul_tdiv_add_tmod a b
  have h1 := Int.tmod_lt_of_pos a hb
  have h2 := Int.lt_tmod_of_pos a hb
  by_cases h : a.tmod b < 0
  · rw [if_pos h]
    refine ((Int.ediv_emod_unique (r := a.tmod b + b) hb).mpr ⟨?_, ?_, ?_⟩).1
    · rw [Int.mul_sub, Int.mul_one]; omega
    · omega
    · omega
  · rw [if_neg h]
    refine ((Int.ediv_emod_unique (r := a.tmod b) hb).mpr ⟨?_, ?_, ?_⟩).1
    · omega
    · omega
    · omega
theorem one_toInt : (1 : Int64).toInt = 1 := by decide
theorem predL {a b : Int64} (h : a.toInt ≠ -9223372036854775808) : (a / b - 1).toInt = a.toInt.tdiv b.toInt - 1 := by
  have hr := rngL a
  have h1 := Int.natAbs_tdiv_le_natAbs a.toInt b.toInt
  rw [Int64.toInt_sub, divL h, one_toInt]
  refine bmodL ?_ ?_
  · omega
  · omega
theorem flM_int {a b : Int64} (h : a.toInt ≠ -9223372036854775808) (hb : 0 < b.toInt) : (flM a b).toInt = a.toInt / b.toInt := by
  rw [fl_int hb]
  unfold flM
  by_cases q : a.toInt.tmod b.toInt < 0
  · rw [if_pos q, if_pos (Int64.lt_iff_toInt_lt.mpr (by rw [remL h]; exact q)), predL h]
  · rw [if_neg q, if_neg (fun z => q (by have y := Int64.lt_iff_toInt_lt.mp z; rw [remL h] at y; exact y)), divL h]
theorem xorL (x y : Int64) : (x ^^^ y).toInt < 0 ↔ ¬ (x.toInt < 0 ↔ y.toInt < 0) := by
  have hx : x.toBitVec.msb = decide (x.toInt < 0) := BitVec.msb_eq_toInt
  have hy : y.toBitVec.msb = decide (y.toInt < 0) := BitVec.msb_eq_toInt
  have hz : (x.toBitVec ^^^ y.toBitVec).msb = decide ((x ^^^ y).toInt < 0) := BitVec.msb_eq_toInt
  rw [BitVec.msb_xor, hx, hy] at hz
  by_cases p : x.toInt < 0 <;> by_cases q : y.toInt < 0 <;> by_cases r : (x ^^^ y).toInt < 0 <;> simp [p, q, r] at hz ⊢
theorem mdL_eq {a b : Int64} (h : a.toInt ≠ -9223372036854775808) : a / b * b = a ↔ a.toInt.tmod b.toInt = 0 := by
  rw [← Int64.toInt_inj, mdL h]
  omega
theorem fdX_pos {x y : Int64} (h : x.toInt ≠ -9223372036854775808) (hy : 0 < y.toInt) : (fdX x y).toInt = x.toInt / y.toInt := by
  rw [fl_int hy]
  have hp := @tm_pos x.toInt y.toInt
  have hq := @tm_neg x.toInt y.toInt
  unfold fdX
  by_cases q : x.toInt.tmod y.toInt < 0
  · rw [if_pos q, if_pos ⟨Int64.lt_iff_toInt_lt.mpr ((xorL x y).mpr (fun z => by omega)), fun z => by rw [mdL_eq h] at z; omega⟩, predL h]
  · rw [if_neg q, if_neg ?_, divL h]
    rintro ⟨z1, z2⟩
    have z3 := (xorL x y).mp (Int64.lt_iff_toInt_lt.mp z1)
    apply z2
    rw [mdL_eq h]
    by_cases x0 : x.toInt < 0
    · have := hq (by omega); omega
    · exact absurd (show x.toInt < 0 ↔ y.toInt < 0 from ⟨fun z => by omega, fun z => by omega⟩) z3
theorem fdX_neg {x y : Int64} (h : x.toInt ≠ -9223372036854775808) (hy : y.toInt < 0) : (fdX x y).toInt = (-x.toInt) / (-y.toInt) := by
  rw [fl_int (show 0 < -y.toInt by omega), Int.tmod_neg, Int.neg_tmod, Int.tdiv_neg, Int.neg_tdiv, Int.neg_neg]
  have hp := @tm_pos x.toInt y.toInt
  have hq := @tm_neg x.toInt y.toInt
  unfold fdX
  by_cases q : -x.toInt.tmod y.toInt < 0
  · rw [if_pos q, if_pos ⟨Int64.lt_iff_toInt_lt.mpr ((xorL x y).mpr (fun z => by omega)), fun z => by rw [mdL_eq h] at z; omega⟩, predL h]
  · rw [if_neg q, if_neg ?_, divL h]
    rintro ⟨z1, z2⟩
    have z3 := (xorL x y).mp (Int64.lt_iff_toInt_lt.mp z1)
    apply z2
    rw [mdL_eq h]
    by_cases x0 : x.toInt < 0
    · exact absurd (show x.toInt < 0 ↔ y.toInt < 0 from ⟨fun z => by omega, fun z => by omega⟩) z3
    · have := hp (by omega); omega
theorem k_mul {a : Int64} {A : Nat} (ha : bd a A) (hA : 1000 * A < 9223372036854775808) : (1000 * a).toInt = 1000 * a.toInt := by
  have := bd_rng ha
  rw [Int64.toInt_mul, k_toInt]
  refine bmodL ?_ ?_
  · omega
  · omega
theorem thM_int {a b : Int64} {A : Nat} (ha : bd a A) (hA : 1000 * A < 9000000000000000000) (hb : 0 < b.toInt) (hB : b.toInt < 9000000000000000) : (thM a b).toInt = 1000 * a.toInt / b.toInt := by
  have ra := bd_rng ha
  have f := flM_int (a := a) (b := b) (by omega) hb
  have e := Int.mul_ediv_add_emod a.toInt b.toInt
  have n := Int.natAbs_ediv_le_natAbs a.toInt b.toInt
  have m1 := Int.emod_nonneg a.toInt (show b.toInt ≠ 0 by omega)
  have m2 := Int.emod_lt_of_pos a.toInt hb
  have g1 : (flM a b * b).toInt = a.toInt - a.toInt % b.toInt := by
    rw [Int64.toInt_mul, f]
    have e2 : a.toInt / b.toInt * b.toInt = a.toInt - a.toInt % b.toInt := by rw [Int.mul_comm]; omega
    rw [e2]
    refine bmodL ?_ ?_
    · omega
    · omega
  have g2 : (a - flM a b * b).toInt = a.toInt % b.toInt := by
    rw [Int64.toInt_sub, g1]
    have e2 : a.toInt - (a.toInt - a.toInt % b.toInt) = a.toInt % b.toInt := by omega
    rw [e2]
    refine bmodL ?_ ?_
    · omega
    · omega
  have g3 : (1000 * (a - flM a b * b)).toInt = 1000 * (a.toInt % b.toInt) := by
    rw [Int64.toInt_mul, k_toInt, g2]
    refine bmodL ?_ ?_
    · omega
    · omega
  have g4 : (1000 * flM a b).toInt = 1000 * (a.toInt / b.toInt) := by
    rw [Int64.toInt_mul, k_toInt, f]
    refine bmodL ?_ ?_
    · omega
    · omega
  have f2 := flM_int (a := 1000 * (a - flM a b * b)) (b := b) (by rw [g3]; omega) hb
  have s : 1000 * a.toInt / b.toInt = 1000 * (a.toInt % b.toInt) / b.toInt + 1000 * (a.toInt / b.toInt) := by
    rw [← Int.add_mul_ediv_left _ _ (show b.toInt ≠ 0 by omega)]
    congr 1
    have e3 : b.toInt * (1000 * (a.toInt / b.toInt)) = 1000 * (b.toInt * (a.toInt / b.toInt)) := by rw [Int.mul_left_comm]
    rw [e3]
    omega
  have n2 := Int.natAbs_ediv_le_natAbs (1000 * a.toInt) b.toInt
  unfold thM
  rw [Int64.toInt_add, g4, f2, g3, Int.add_comm, ← s]
  refine bmodL ?_ ?_
  · omega
  · omega
theorem thX_pos {a b : Int64} {A : Nat} (ha : bd a A) (hA : 1000 * A < 9000000000000000000) (hb : 0 < b.toInt) : (thX a b).toInt = 1000 * a.toInt / b.toInt := by
  have ra := bd_rng ha
  have hk := k_mul ha (by omega)
  unfold thX
  rw [if_neg (fun z => by rw [z] at hb; exact absurd hb (by decide)), fdX_pos (by rw [hk]; omega) hb, hk]
theorem thX_neg {a b : Int64} {A : Nat} (ha : bd a A) (hA : 1000 * A < 9000000000000000000) (hb : b.toInt < 0) : (thX a b).toInt = (-(1000 * a.toInt)) / (-b.toInt) := by
  have ra := bd_rng ha
  have hk := k_mul ha (by omega)
  unfold thX
  rw [if_neg (fun z => by rw [z] at hb; exact absurd hb (by decide)), fdX_neg (by rw [hk]; omega) hb, hk]
theorem th_eq {a b : Int64} {A : Nat} (ha : bd a A) (hA : 1000 * A < 9000000000000000000) (hb : 0 < b.toInt) (hB : b.toInt < 9000000000000000) : thX a b = thM a b :=
  Int64.toInt_inj.mp ((thX_pos ha hA hb).trans (thM_int ha hA hb hB).symm)
theorem thX_bd {a b : Int64} {A : Nat} (ha : bd a A) (hA : 1000 * A < 9000000000000000000) (hb : 0 < b.toInt) : bd (thX a b) (1000 * A) := by
  have ra := bd_rng ha
  have n2 := Int.natAbs_ediv_le_natAbs (1000 * a.toInt) b.toInt
  unfold bd
  rw [thX_pos ha hA hb]
  omega
theorem wy_eq {a b : Int64} {A : Nat} (ha : bd a A) (hA : 1000 * A < 9000000000000000000) (h0 : ¬ b = 0) (hB : bd b 8000000000000000) : thX a b = wyM a b := by
  have ra := bd_rng ha
  have rb := bd_rng hB
  have hz : b.toInt ≠ 0 := fun z => h0 (Int64.toInt_inj.mp z)
  unfold wyM
  by_cases q : b < 0
  · rw [if_pos q]
    have q2 : b.toInt < 0 := Int64.lt_iff_toInt_lt.mp q
    have na := negL ha (by omega)
    have nb := negL hB (by decide)
    refine Int64.toInt_inj.mp ?_
    rw [thX_neg ha hA q2, thM_int (A := A) (bd_neg ha (by omega)) hA (by rw [nb]; omega) (by rw [nb]; omega), na, nb]
    congr 1
    omega
  · rw [if_neg q]
    have q2 : ¬ b.toInt < 0 := fun z => q (Int64.lt_iff_toInt_lt.mpr z)
    exact th_eq ha hA (by omega) (by omega)
/-! Euclid ends -/
theorem gcE_0 (k : Nat) (x : Int64) : gcE k x 0 := by
  cases k with
  | zero => exact rfl
  | succ k => exact Or.inl rfl
theorem rem_pos {a b : Int64} (ha : 0 ≤ a.toInt) : (a - a / b * b).toInt = a.toInt % b.toInt := by
  rw [remL (by omega), Int.tmod_eq_emod_of_nonneg ha]
theorem gcE_all : ∀ (k : Nat) (x y : Int64), 0 ≤ x.toInt → 0 ≤ y.toInt → y.toInt < 2 ^ k → gcE (2 * k) x y
  | 0, x, y, _, hy, hk => by
    have e : y = 0 := Int64.toInt_inj.mp (by rw [Int64.toInt_zero]; omega)
    subst e
    exact rfl
  | k + 1, x, y, hx, hy, hk => by
    by_cases y0 : y = 0
    · subst y0; exact gcE_0 _ _
    · have yz : y.toInt ≠ 0 := fun z => y0 (Int64.toInt_inj.mp z)
      have r1 := rem_pos (b := y) hx
      obtain ⟨r, er⟩ : ∃ z, z = x - x / y * y := ⟨_, rfl⟩
      rw [← er] at r1
      have m1 := Int.emod_nonneg x.toInt yz
      have m2 := Int.emod_lt_of_pos x.toInt (show 0 < y.toInt by omega)
      refine Or.inr ?_
      rw [← er]
      show r = 0 ∨ gcE (2 * k) r (y - y / r * r)
      by_cases r0 : r = 0
      · exact Or.inl r0
      · refine Or.inr ?_
        have rz : r.toInt ≠ 0 := fun z => r0 (Int64.toInt_inj.mp z)
        have r2 := rem_pos (a := y) (b := r) hy
        have p1 := Int.emod_nonneg y.toInt rz
        have p2 := Int.emod_lt_of_pos y.toInt (show 0 < r.toInt by omega)
        have p3 := Int.mul_ediv_add_emod y.toInt r.toInt
        refine gcE_all k r _ (by omega) (by omega) ?_
        rw [r2]
        have hp : (2 : Int) ^ (k + 1) = 2 * 2 ^ k := by rw [Int.pow_succ, Int.mul_comm]
        have q1 : 1 ≤ y.toInt / r.toInt := by
          refine Int.le_ediv_of_mul_le (by omega) ?_
          omega
        have q2 : r.toInt * 1 ≤ r.toInt * (y.toInt / r.toInt) := Int.mul_le_mul_of_nonneg_left q1 (by omega)
        omega
theorem gcE_succ : ∀ (k : Nat) (x y : Int64), gcE k x y → gcE (k + 1) x y
  | 0, x, y, h => Or.inl h
  | k + 1, x, y, h => by
    rcases h with h | h
    · exact Or.inl h
    · exact Or.inr (gcE_succ k _ _ h)
theorem gcE_add (j k : Nat) (x y : Int64) (h : gcE k x y) : gcE (k + j) x y := by
  induction j with
  | zero => exact h
  | succ j ih => exact gcE_succ _ _ _ ih
theorem gcE_1000 (x y : Int64) (hx : 0 ≤ x.toInt) (hy : 0 ≤ y.toInt) : gcE 1000 x y := by
  have h := gcE_all 63 x y hx hy (by have := rngL y; omega)
  exact gcE_add 874 126 x y h
theorem gcX_ne : ∀ (k : Nat) (x y : Int64), gcE k x y → (¬ x = 0 ∨ ¬ y = 0) → ¬ gcX k x y = 0
  | 0, x, y, h, q => by
    have h : y = 0 := h
    rcases q with q | q
    · exact q
    · exact absurd h q
  | k + 1, x, y, h, q => by
    show ¬ (if y = 0 then x else gcX k y (x - x / y * y)) = 0
    by_cases y0 : y = 0
    · rw [if_pos y0]
      rcases q with q | q
      · exact q
      · exact absurd y0 q
    · rw [if_neg y0]
      rcases h with h | h
      · exact absurd h y0
      · exact gcX_ne k _ _ h (Or.inl y0)
theorem absX_int {x : Int64} {a : Nat} (h : bd x a) (ha : a < 9223372036854775808) : (absX x).toInt = x.toInt.natAbs := by
  have r := bd_rng h
  unfold absX
  by_cases q : x < 0
  · have q2 : x.toInt < 0 := Int64.lt_iff_toInt_lt.mp q
    rw [if_pos q, negL h ha]
    omega
  · have q2 : ¬ x.toInt < 0 := fun z => q (Int64.lt_iff_toInt_lt.mpr z)
    rw [if_neg q]
    omega
theorem absX_abs {x : Int64} {a : Nat} (h : bd x a) (ha : a < 9223372036854775808) : absX (absX x) = absX x := by
  have e := absX_int h ha
  have q : ¬ absX x < 0 := fun z => by
    have z2 := Int64.lt_iff_toInt_lt.mp z
    rw [e] at z2
    have : (0 : Int64).toInt = 0 := rfl
    omega
  rw [show absX (absX x) = if absX x < 0 then -absX x else absX x from rfl, if_neg q]
theorem bd_abs {x : Int64} {a : Nat} (h : bd x a) (ha : a < 9223372036854775808) : bd (absX x) a := by
  unfold bd
  rw [absX_int h ha]
  unfold bd at h
  omega
theorem absX_pos {x : Int64} {a : Nat} (h : bd x a) (ha : a < 9223372036854775808) (h0 : ¬ x = 0) : 0 < (absX x).toInt := by
  have hz : x.toInt ≠ 0 := fun z => h0 (Int64.toInt_inj.mp z)
  rw [absX_int h ha]
  omega
