/-! ENTRIES, DETERMINANTS, ROUNDS AND SUMS of class and reference are the same numbers, and how large they are -/
def bi (x : Int32) (a : Nat) : Prop := x.toInt.natAbs ≤ a
theorem bmodI {z : Int} (h1 : -2147483648 ≤ z) (h2 : z < 2147483648) : z.bmod (2 ^ 32) = z := Int.bmod_eq_of_le (by omega) (by omega)
theorem bi_rng {x : Int32} {a : Nat} (h : bi x a) : -(a : Int) ≤ x.toInt ∧ x.toInt ≤ a := by unfold bi at h; omega
theorem mulI {x y : Int32} {a b : Nat} (hx : bi x a) (hy : bi y b) (h : a * b < 2147483648) : (x * y).toInt = x.toInt * y.toInt := by
  have e : (x.toInt * y.toInt).natAbs ≤ a * b := by rw [Int.natAbs_mul]; exact Nat.mul_le_mul hx hy
  rw [Int32.toInt_mul]
  exact bmodI (by omega) (by omega)
theorem bi_mul {x y : Int32} {a b : Nat} (hx : bi x a) (hy : bi y b) (h : a * b < 2147483648) : bi (x * y) (a * b) := by
  unfold bi
  rw [mulI hx hy h, Int.natAbs_mul]
  exact Nat.mul_le_mul hx hy
theorem bi_add {x y : Int32} {a b : Nat} (hx : bi x a) (hy : bi y b) (h : a + b < 2147483648) : bi (x + y) (a + b) := by
  have := bi_rng hx
  have := bi_rng hy
  unfold bi
  rw [Int32.toInt_add, bmodI (by omega) (by omega)]
  omega
theorem bi_sub {x y : Int32} {a b : Nat} (hx : bi x a) (hy : bi y b) (h : a + b < 2147483648) : bi (x - y) (a + b) := by
  have := bi_rng hx
  have := bi_rng hy
  unfold bi
  rw [Int32.toInt_sub, bmodI (by omega) (by omega)]
  omega
theorem bi_le {x : Int32} {a b : Nat} (h : bi x a) (hab : a ≤ b) : bi x b := Nat.le_trans h hab
theorem bi_bd {x : Int32} {a : Nat} (h : bi x a) : bd x.toInt64 a := by
  unfold bd
  rw [Int32.toInt_toInt64]
  exact h
theorem bi_of {x : Int32} {a : Nat} (h1 : 0 ≤ x.toInt) (h2 : x.toInt ≤ a) : bi x a := by unfold bi; omega
theorem loR_0 (p : Nat) : 0 ≤ loR p := by
  unfold loR
  repeat' split
  all_goals decide
theorem RG_bi {n : Nat} {m : Nat → Int32} (h : RG n m) {p : Nat} (hp : p < 23) (q2 : p ≠ 2) (q3 : p ≠ 3) {a : Nat} (ha : hiR n p ≤ a) : bi (m p) a :=
  bi_of (Int.le_trans (loR_0 p) (h p hp q2 q3).1) (Int.le_trans (h p hp q2 q3).2 ha)
theorem hi_need {n p : Nat} (h1 : 4 ≤ p) (h2 : p < 12) : hiR n p ≤ (6 : Nat) := by
  unfold hiR
  repeat' split
  all_goals omega
theorem hi_em {n p : Nat} (h1 : 12 ≤ p) (h2 : p < 21) : hiR n p ≤ (100 : Nat) := by
  unfold hiR
  repeat' split
  all_goals omega
theorem RG_0 {n : Nat} {m : Nat → Int32} (h : RG n m) : bi (m 0) 6 := RG_bi h (by decide) (by decide) (by decide) (by show (6 : Int) ≤ 6; decide)
theorem RG_21 {n : Nat} {m : Nat → Int32} (h : RG n m) : bi (m 21) 5 := RG_bi h (by decide) (by decide) (by decide) (by show (5 : Int) ≤ 5; decide)
theorem RG_22 {n : Nat} {m : Nat → Int32} (h : RG n m) : bi (m 22) 5 := RG_bi h (by decide) (by decide) (by decide) (by show (5 : Int) ≤ 5; decide)
theorem RG_nd {n : Nat} {m : Nat → Int32} (h : RG n m) {p : Nat} (h1 : 4 ≤ p) (h2 : p < 12) : bi (m p) 6 := RG_bi h (by omega) (by omega) (by omega) (hi_need h1 h2)
theorem RG_em {n : Nat} {m : Nat → Int32} (h : RG n m) {p : Nat} (h1 : 12 ≤ p) (h2 : p < 21) : bi (m p) 100 := RG_bi h (by omega) (by omega) (by omega) (hi_em h1 h2)
theorem bi_1 (a : Nat) (h : 1 ≤ a) : bi 1 a := by
  have e : (1 : Int32).toInt = 1 := rfl
  unfold bi
  rw [e]
  omega
theorem vl_bi {n : Nat} {m : Nat → Int32} (h : RG n m) (x : Int32) : bi (vlM m x) 5 := by
  unfold vlM
  split
  · exact RG_21 h
  · exact RG_22 h
theorem mn_bi {n : Nat} {m : Nat → Int32} (h : RG n m) : bi (mnM m) 30 := by
  unfold mnM
  split
  · exact bi_1 30 (by decide)
  · exact bi_mul (RG_0 h) (vl_bi h _) (by decide)
theorem alS_bi {n : Nat} {M : Nat → Nat → Int32} {i : Nat} (hi : RG n (M i)) : ∀ {k : Nat}, k ≤ 4 → (∀ j : Nat, j < k → RG n (M j)) → bi (alS k M i) (30 + 30 * k)
  | 0, _, _ => mn_bi hi
  | k + 1, h4, h => by
    show bi (alS k M i + M i (8 + k) * vlM (M k) (M i 1)) _
    refine bi_le (bi_add (alS_bi hi (by omega) (fun j hj => h j (by omega))) (bi_mul (RG_nd hi (by omega) (by omega)) (vl_bi (h k (by omega)) _) (by decide)) (by omega)) (by omega)
theorem al_bi {n : Nat} {M : Nat → Nat → Int32} {i : Nat} (hn : n ≤ 4) (hi : RG n (M i)) (h : ∀ j : Nat, j < n → RG n (M j)) : bi (alM n M i) 150 := by
  unfold alM
  split
  · exact bi_le (mn_bi hi) (by decide)
  · exact bi_le (alS_bi hi hn h) (by omega)
theorem ite_bi {c : Prop} [Decidable c] {x : Int32} {a : Nat} (h : bi x a) : bi (if c then x else 0) a := by
  split
  · exact h
  · exact Nat.zero_le a
theorem ce_bi {n : Nat} {M : Nat → Nat → Int32} {i j : Nat} (hn : n ≤ 4) (hi : RG n (M i)) (h : ∀ j : Nat, j < n → RG n (M j)) (hj : j < 4) : bi (ceM n M i j) 1080 := by
  unfold ceM
  split
  · exact bi_le (bi_sub (bi_add (ite_bi (RG_0 hi)) (RG_nd hi (by omega) (by omega)) (by decide)) (RG_nd hi (by omega) (by omega)) (by decide)) (by decide)
  · exact bi_le (bi_sub (bi_mul (ite_bi (RG_0 hi)) (al_bi hn hi h) (by decide)) (bi_mul (RG_nd hi (by omega) (by omega)) (mn_bi hi) (by decide)) (by decide)) (by decide)
theorem em_eq {n : Nat} {R M : Nat → Nat → Int32} {i : Nat} (h : RO n R M i) {k s : Nat} (hk : k < 3) (hs : s < 3) : emX (R i) k s = emM (M i) k s := by
  unfold emX emM
  rw [h.1 (12 + 3 * s + k) (by omega) (by omega) (by omega), h.2.1]
  have b1 := RG_em h.2.2.2 (p := 12 + 3 * s + k) (by omega) (by omega)
  have b2 := mn_bi h.2.2.2
  refine Int64.toInt_inj.mp ?_
  rw [Int32.toInt_toInt64, mulI b1 b2 (by decide), mulL (bi_bd b1) (bi_bd b2) (by decide), Int32.toInt_toInt64, Int32.toInt_toInt64]
theorem em_bd {n : Nat} {m : Nat → Int32} (h : RG n m) {k s : Nat} (hk : k < 3) (hs : s < 3) : bd (emM m k s) 3000 :=
  bd_mul (bi_bd (RG_em h (by omega) (by omega))) (bi_bd (mn_bi h)) (by decide)
/-! the table -/
theorem taM_congr {n : Nat} {c c2 : Nat → Nat → Int64} (h : ∀ j i : Nat, j < n → i < n → c j i = c2 j i) : taM n c = taM n c2 := by
  funext k
  unfold taM
  by_cases a : k / 4 < n
  · by_cases b : k % 4 < n
    · rw [if_pos a, if_pos a, if_pos b, if_pos b]; exact h _ _ a b
    · rw [if_pos a, if_pos a, if_neg b, if_neg b]
  · rw [if_neg a, if_neg a]
theorem lyc_col {n i : Nat} (hi : i < n) (c T : Nat → Nat → Int64) (hh : Nat → Int64) : clc n (lyc n c T) i hh = lyc n (fun j k => if k = i then hh j else c j k) T := by
  funext j k
  unfold clc lyc
  dsimp only
  by_cases a : j < n
  · rw [if_pos a, if_pos a, if_pos a]
    by_cases b : k = i
    · rw [if_pos b, if_pos (by omega), if_pos b]
    · rw [if_neg b, if_neg b]
  · rw [if_neg a, if_neg a, if_neg a]
theorem taM_col {n i : Nat} (hi : i < n) (c : Nat → Nat → Int64) (hh : Nat → Int64) : tsM n (taM n c) i hh = taM n (fun j k => if k = i then hh j else c j k) := by
  funext k
  unfold tsM taM
  dsimp only
  by_cases a : k % 4 = i
  · rw [if_pos a]
    by_cases b : k / 4 < n
    · rw [if_pos b, if_pos b, if_pos (by omega), if_pos a]
    · rw [if_neg b, if_neg b, if_neg (by omega)]
  · rw [if_neg a]
    by_cases b : k / 4 < n
    · rw [if_pos b, if_pos b]
      by_cases d : k % 4 < n
      · rw [if_pos d, if_pos d, if_neg a]
      · rw [if_neg d, if_neg d]
    · rw [if_neg b, if_neg b]

theorem dtc {n : Nat} (hn : n ≤ 4) (c T : Nat → Nat → Int64) : detX n (lyc n c T) = dtM (taM n c) := by
  rcases (show n = 0 ∨ n = 1 ∨ n = 2 ∨ n = 3 ∨ n = 4 by omega) with e | e | e | e | e
  · subst e; exact det0 (lyc 0 c T) (taM 0 c) rfl rfl rfl rfl rfl rfl rfl rfl rfl rfl rfl rfl rfl rfl rfl rfl
  · subst e; exact det1 (lyc 1 c T) (taM 1 c) rfl rfl rfl rfl rfl rfl rfl rfl rfl rfl rfl rfl rfl rfl rfl rfl
  · subst e; exact det2 (lyc 2 c T) (taM 2 c) rfl rfl rfl rfl rfl rfl rfl rfl rfl rfl rfl rfl rfl rfl rfl rfl
  · subst e; exact det3 (lyc 3 c T) (taM 3 c) rfl rfl rfl rfl rfl rfl rfl rfl rfl rfl rfl rfl rfl rfl rfl rfl
  · subst e; exact det4 (lyc 4 c T) (taM 4 c) rfl rfl rfl rfl rfl rfl rfl rfl rfl rfl rfl rfl rfl rfl rfl rfl
theorem rd_eq {n : Nat} (hn : n ≤ 4) (c T : Nat → Nat → Int64) (h : Nat → Int32) {i : Nat} (hi : i < n) : rdX n (lyc n c T) h i = rdM n (taM n c) (dtM (taM n c)) (fun j => (h j).toInt64) i := by
  unfold rdX rdM clT
  rw [lyc_col hi, taM_col hi, dtc hn, dtc hn]
theorem ro_eq {n : Nat} (hn : n ≤ 4) (c T : Nat → Nat → Int64) (h : Nat → Int32) (ro : Nat → Int64) {i : Nat} (hi : i < n) : roX n (lyc n c T) h ro i = rdM n (taM n c) (dtM (taM n c)) (fun j => (h j).toInt64) i := by
  unfold roX
  rw [if_pos hi, rd_eq hn c T h hi]
theorem pr_bd {t : Nat → Int64} {r a b x y z u : Nat} (h1 : bd (t (4 * r + a)) x) (h2 : bd (t (4 * r + 4 + b)) y) (h3 : bd (t (4 * r + b)) z) (h4 : bd (t (4 * r + 4 + a)) u) (h : x * y + z * u < 9223372036854775808) : bd (prM t r a b) (x * y + z * u) :=
  bd_sub (bd_mul h1 h2 (by omega)) (bd_mul h3 h4 (by omega)) h
theorem dt_bd {t : Nat → Int64} {P : Nat} (hP : 6 * P < 9223372036854775808) (h1 : bd (prM t 0 0 1 * prM t 2 2 3) P) (h2 : bd (prM t 0 0 2 * prM t 2 1 3) P) (h3 : bd (prM t 0 0 3 * prM t 2 1 2) P) (h4 : bd (prM t 0 1 2 * prM t 2 0 3) P) (h5 : bd (prM t 0 1 3 * prM t 2 0 2) P) (h6 : bd (prM t 0 2 3 * prM t 2 0 1) P) : bd (dtM t) (6 * P) := by
  unfold dtM
  exact bd_le (bd_add (bd_sub (bd_add (bd_add (bd_sub h1 h2 (by omega)) h3 (by omega)) h4 (by omega)) h5 (by omega)) h6 (by omega)) (by omega)
theorem dt_bd0 {t : Nat → Int64} (h : ∀ k : Nat, k < 16 → bd (t k) (if k % 4 = 0 then 20 else 1080)) : bd (dtM t) 604661760000 := by
  have g0 : bd (t 0) 20 := h 0 (by decide)
  have g1 : bd (t 1) 1080 := h 1 (by decide)
  have g2 : bd (t 2) 1080 := h 2 (by decide)
  have g3 : bd (t 3) 1080 := h 3 (by decide)
  have g4 : bd (t 4) 20 := h 4 (by decide)
  have g5 : bd (t 5) 1080 := h 5 (by decide)
  have g6 : bd (t 6) 1080 := h 6 (by decide)
  have g7 : bd (t 7) 1080 := h 7 (by decide)
  have g8 : bd (t 8) 20 := h 8 (by decide)
  have g9 : bd (t 9) 1080 := h 9 (by decide)
  have g10 : bd (t 10) 1080 := h 10 (by decide)
  have g11 : bd (t 11) 1080 := h 11 (by decide)
  have g12 : bd (t 12) 20 := h 12 (by decide)
  have g13 : bd (t 13) 1080 := h 13 (by decide)
  have g14 : bd (t 14) 1080 := h 14 (by decide)
  have g15 : bd (t 15) 1080 := h 15 (by decide)
  exact dt_bd (P := 100776960000) (by decide) (bd_mul (pr_bd (t := t) (r := 0) (a := 0) (b := 1) g0 g5 g1 g4 (by decide)) (pr_bd (t := t) (r := 2) (a := 2) (b := 3) g10 g15 g11 g14 (by decide)) (by decide)) (bd_mul (pr_bd (t := t) (r := 0) (a := 0) (b := 2) g0 g6 g2 g4 (by decide)) (pr_bd (t := t) (r := 2) (a := 1) (b := 3) g9 g15 g11 g13 (by decide)) (by decide)) (bd_mul (pr_bd (t := t) (r := 0) (a := 0) (b := 3) g0 g7 g3 g4 (by decide)) (pr_bd (t := t) (r := 2) (a := 1) (b := 2) g9 g14 g10 g13 (by decide)) (by decide)) (bd_mul (pr_bd (t := t) (r := 0) (a := 1) (b := 2) g1 g6 g2 g5 (by decide)) (pr_bd (t := t) (r := 2) (a := 0) (b := 3) g8 g15 g11 g12 (by decide)) (by decide)) (bd_mul (pr_bd (t := t) (r := 0) (a := 1) (b := 3) g1 g7 g3 g5 (by decide)) (pr_bd (t := t) (r := 2) (a := 0) (b := 2) g8 g14 g10 g12 (by decide)) (by decide)) (bd_mul (pr_bd (t := t) (r := 0) (a := 2) (b := 3) g2 g7 g3 g6 (by decide)) (pr_bd (t := t) (r := 2) (a := 0) (b := 1) g8 g13 g9 g12 (by decide)) (by decide))
theorem dt_bd1 {t : Nat → Int64} (h : ∀ k : Nat, k < 16 → bd (t k) (if k % 4 = 1 then 20 else 1080)) : bd (dtM t) 604661760000 := by
  have g0 : bd (t 0) 1080 := h 0 (by decide)
  have g1 : bd (t 1) 20 := h 1 (by decide)
  have g2 : bd (t 2) 1080 := h 2 (by decide)
  have g3 : bd (t 3) 1080 := h 3 (by decide)
  have g4 : bd (t 4) 1080 := h 4 (by decide)
  have g5 : bd (t 5) 20 := h 5 (by decide)
  have g6 : bd (t 6) 1080 := h 6 (by decide)
  have g7 : bd (t 7) 1080 := h 7 (by decide)
  have g8 : bd (t 8) 1080 := h 8 (by decide)
  have g9 : bd (t 9) 20 := h 9 (by decide)
  have g10 : bd (t 10) 1080 := h 10 (by decide)
  have g11 : bd (t 11) 1080 := h 11 (by decide)
  have g12 : bd (t 12) 1080 := h 12 (by decide)
  have g13 : bd (t 13) 20 := h 13 (by decide)
  have g14 : bd (t 14) 1080 := h 14 (by decide)
  have g15 : bd (t 15) 1080 := h 15 (by decide)
  exact dt_bd (P := 100776960000) (by decide) (bd_mul (pr_bd (t := t) (r := 0) (a := 0) (b := 1) g0 g5 g1 g4 (by decide)) (pr_bd (t := t) (r := 2) (a := 2) (b := 3) g10 g15 g11 g14 (by decide)) (by decide)) (bd_mul (pr_bd (t := t) (r := 0) (a := 0) (b := 2) g0 g6 g2 g4 (by decide)) (pr_bd (t := t) (r := 2) (a := 1) (b := 3) g9 g15 g11 g13 (by decide)) (by decide)) (bd_mul (pr_bd (t := t) (r := 0) (a := 0) (b := 3) g0 g7 g3 g4 (by decide)) (pr_bd (t := t) (r := 2) (a := 1) (b := 2) g9 g14 g10 g13 (by decide)) (by decide)) (bd_mul (pr_bd (t := t) (r := 0) (a := 1) (b := 2) g1 g6 g2 g5 (by decide)) (pr_bd (t := t) (r := 2) (a := 0) (b := 3) g8 g15 g11 g12 (by decide)) (by decide)) (bd_mul (pr_bd (t := t) (r := 0) (a := 1) (b := 3) g1 g7 g3 g5 (by decide)) (pr_bd (t := t) (r := 2) (a := 0) (b := 2) g8 g14 g10 g12 (by decide)) (by decide)) (bd_mul (pr_bd (t := t) (r := 0) (a := 2) (b := 3) g2 g7 g3 g6 (by decide)) (pr_bd (t := t) (r := 2) (a := 0) (b := 1) g8 g13 g9 g12 (by decide)) (by decide))
theorem dt_bd2 {t : Nat → Int64} (h : ∀ k : Nat, k < 16 → bd (t k) (if k % 4 = 2 then 20 else 1080)) : bd (dtM t) 604661760000 := by
  have g0 : bd (t 0) 1080 := h 0 (by decide)
  have g1 : bd (t 1) 1080 := h 1 (by decide)
  have g2 : bd (t 2) 20 := h 2 (by decide)
  have g3 : bd (t 3) 1080 := h 3 (by decide)
  have g4 : bd (t 4) 1080 := h 4 (by decide)
  have g5 : bd (t 5) 1080 := h 5 (by decide)
  have g6 : bd (t 6) 20 := h 6 (by decide)
  have g7 : bd (t 7) 1080 := h 7 (by decide)
  have g8 : bd (t 8) 1080 := h 8 (by decide)
  have g9 : bd (t 9) 1080 := h 9 (by decide)
  have g10 : bd (t 10) 20 := h 10 (by decide)
  have g11 : bd (t 11) 1080 := h 11 (by decide)
  have g12 : bd (t 12) 1080 := h 12 (by decide)
  have g13 : bd (t 13) 1080 := h 13 (by decide)
  have g14 : bd (t 14) 20 := h 14 (by decide)
  have g15 : bd (t 15) 1080 := h 15 (by decide)
  exact dt_bd (P := 100776960000) (by decide) (bd_mul (pr_bd (t := t) (r := 0) (a := 0) (b := 1) g0 g5 g1 g4 (by decide)) (pr_bd (t := t) (r := 2) (a := 2) (b := 3) g10 g15 g11 g14 (by decide)) (by decide)) (bd_mul (pr_bd (t := t) (r := 0) (a := 0) (b := 2) g0 g6 g2 g4 (by decide)) (pr_bd (t := t) (r := 2) (a := 1) (b := 3) g9 g15 g11 g13 (by decide)) (by decide)) (bd_mul (pr_bd (t := t) (r := 0) (a := 0) (b := 3) g0 g7 g3 g4 (by decide)) (pr_bd (t := t) (r := 2) (a := 1) (b := 2) g9 g14 g10 g13 (by decide)) (by decide)) (bd_mul (pr_bd (t := t) (r := 0) (a := 1) (b := 2) g1 g6 g2 g5 (by decide)) (pr_bd (t := t) (r := 2) (a := 0) (b := 3) g8 g15 g11 g12 (by decide)) (by decide)) (bd_mul (pr_bd (t := t) (r := 0) (a := 1) (b := 3) g1 g7 g3 g5 (by decide)) (pr_bd (t := t) (r := 2) (a := 0) (b := 2) g8 g14 g10 g12 (by decide)) (by decide)) (bd_mul (pr_bd (t := t) (r := 0) (a := 2) (b := 3) g2 g7 g3 g6 (by decide)) (pr_bd (t := t) (r := 2) (a := 0) (b := 1) g8 g13 g9 g12 (by decide)) (by decide))
theorem dt_bd3 {t : Nat → Int64} (h : ∀ k : Nat, k < 16 → bd (t k) (if k % 4 = 3 then 20 else 1080)) : bd (dtM t) 604661760000 := by
  have g0 : bd (t 0) 1080 := h 0 (by decide)
  have g1 : bd (t 1) 1080 := h 1 (by decide)
  have g2 : bd (t 2) 1080 := h 2 (by decide)
  have g3 : bd (t 3) 20 := h 3 (by decide)
  have g4 : bd (t 4) 1080 := h 4 (by decide)
  have g5 : bd (t 5) 1080 := h 5 (by decide)
  have g6 : bd (t 6) 1080 := h 6 (by decide)
  have g7 : bd (t 7) 20 := h 7 (by decide)
  have g8 : bd (t 8) 1080 := h 8 (by decide)
  have g9 : bd (t 9) 1080 := h 9 (by decide)
  have g10 : bd (t 10) 1080 := h 10 (by decide)
  have g11 : bd (t 11) 20 := h 11 (by decide)
  have g12 : bd (t 12) 1080 := h 12 (by decide)
  have g13 : bd (t 13) 1080 := h 13 (by decide)
  have g14 : bd (t 14) 1080 := h 14 (by decide)
  have g15 : bd (t 15) 20 := h 15 (by decide)
  exact dt_bd (P := 100776960000) (by decide) (bd_mul (pr_bd (t := t) (r := 0) (a := 0) (b := 1) g0 g5 g1 g4 (by decide)) (pr_bd (t := t) (r := 2) (a := 2) (b := 3) g10 g15 g11 g14 (by decide)) (by decide)) (bd_mul (pr_bd (t := t) (r := 0) (a := 0) (b := 2) g0 g6 g2 g4 (by decide)) (pr_bd (t := t) (r := 2) (a := 1) (b := 3) g9 g15 g11 g13 (by decide)) (by decide)) (bd_mul (pr_bd (t := t) (r := 0) (a := 0) (b := 3) g0 g7 g3 g4 (by decide)) (pr_bd (t := t) (r := 2) (a := 1) (b := 2) g9 g14 g10 g13 (by decide)) (by decide)) (bd_mul (pr_bd (t := t) (r := 0) (a := 1) (b := 2) g1 g6 g2 g5 (by decide)) (pr_bd (t := t) (r := 2) (a := 0) (b := 3) g8 g15 g11 g12 (by decide)) (by decide)) (bd_mul (pr_bd (t := t) (r := 0) (a := 1) (b := 3) g1 g7 g3 g5 (by decide)) (pr_bd (t := t) (r := 2) (a := 0) (b := 2) g8 g14 g10 g12 (by decide)) (by decide)) (bd_mul (pr_bd (t := t) (r := 0) (a := 2) (b := 3) g2 g7 g3 g6 (by decide)) (pr_bd (t := t) (r := 2) (a := 0) (b := 1) g8 g13 g9 g12 (by decide)) (by decide))
theorem dt_bd4 {t : Nat → Int64} (h : ∀ k : Nat, k < 16 → bd (t k) (if k % 4 = 4 then 20 else 1080)) : bd (dtM t) 32651735040000 := by
  have g0 : bd (t 0) 1080 := h 0 (by decide)
  have g1 : bd (t 1) 1080 := h 1 (by decide)
  have g2 : bd (t 2) 1080 := h 2 (by decide)
  have g3 : bd (t 3) 1080 := h 3 (by decide)
  have g4 : bd (t 4) 1080 := h 4 (by decide)
  have g5 : bd (t 5) 1080 := h 5 (by decide)
  have g6 : bd (t 6) 1080 := h 6 (by decide)
  have g7 : bd (t 7) 1080 := h 7 (by decide)
  have g8 : bd (t 8) 1080 := h 8 (by decide)
  have g9 : bd (t 9) 1080 := h 9 (by decide)
  have g10 : bd (t 10) 1080 := h 10 (by decide)
  have g11 : bd (t 11) 1080 := h 11 (by decide)
  have g12 : bd (t 12) 1080 := h 12 (by decide)
  have g13 : bd (t 13) 1080 := h 13 (by decide)
  have g14 : bd (t 14) 1080 := h 14 (by decide)
  have g15 : bd (t 15) 1080 := h 15 (by decide)
  exact dt_bd (P := 5441955840000) (by decide) (bd_mul (pr_bd (t := t) (r := 0) (a := 0) (b := 1) g0 g5 g1 g4 (by decide)) (pr_bd (t := t) (r := 2) (a := 2) (b := 3) g10 g15 g11 g14 (by decide)) (by decide)) (bd_mul (pr_bd (t := t) (r := 0) (a := 0) (b := 2) g0 g6 g2 g4 (by decide)) (pr_bd (t := t) (r := 2) (a := 1) (b := 3) g9 g15 g11 g13 (by decide)) (by decide)) (bd_mul (pr_bd (t := t) (r := 0) (a := 0) (b := 3) g0 g7 g3 g4 (by decide)) (pr_bd (t := t) (r := 2) (a := 1) (b := 2) g9 g14 g10 g13 (by decide)) (by decide)) (bd_mul (pr_bd (t := t) (r := 0) (a := 1) (b := 2) g1 g6 g2 g5 (by decide)) (pr_bd (t := t) (r := 2) (a := 0) (b := 3) g8 g15 g11 g12 (by decide)) (by decide)) (bd_mul (pr_bd (t := t) (r := 0) (a := 1) (b := 3) g1 g7 g3 g5 (by decide)) (pr_bd (t := t) (r := 2) (a := 0) (b := 2) g8 g14 g10 g12 (by decide)) (by decide)) (bd_mul (pr_bd (t := t) (r := 0) (a := 2) (b := 3) g2 g7 g3 g6 (by decide)) (pr_bd (t := t) (r := 2) (a := 0) (b := 1) g8 g13 g9 g12 (by decide)) (by decide))
theorem rd_bd {n : Nat} {ta hh : Nat → Int64} {wo : Int64} {i : Nat} (hi : i < 4) (ht : ∀ k : Nat, k < 16 → bd (ta k) 1080) (hb : ∀ j : Nat, j < 4 → bd (hh j) 20) : bd (rdM n ta wo hh i) 604661760000 := by
  have hs : ∀ k : Nat, k < 16 → bd (tsM n ta i hh k) (if k % 4 = i then 20 else 1080) := fun k hk => by
    unfold tsM
    by_cases a : k % 4 = i
    · rw [if_pos a, if_pos a]
      split
      · exact hb _ (by omega)
      · exact bd_le bd_0 (by decide)
    · rw [if_neg a, if_neg a]
      exact ht k hk
  have hd : bd (dtM (tsM n ta i hh)) 604661760000 := by
    rcases (show i = 0 ∨ i = 1 ∨ i = 2 ∨ i = 3 by omega) with e | e | e | e
    · subst e; exact dt_bd0 hs
    · subst e; exact dt_bd1 hs
    · subst e; exact dt_bd2 hs
    · subst e; exact dt_bd3 hs
  unfold rdM
  split
  · exact bd_neg hd (by decide)
  · exact hd
theorem ta_bd {n : Nat} {c : Nat → Nat → Int64} (h : ∀ j i : Nat, j < n → i < n → bd (c j i) 1080) : ∀ k : Nat, k < 16 → bd (taM n c k) 1080 := by
  intro k hk
  have b1 : bd 1 1080 := by unfold bd; decide
  have b0 : bd 0 1080 := bd_le bd_0 (by decide)
  unfold taM
  repeat' split
  all_goals first | exact b1 | exact b0 | exact h _ _ (by assumption) (by assumption)
theorem dw_bd {n : Nat} {c : Nat → Nat → Int64} (h : ∀ j i : Nat, j < n → i < n → bd (c j i) 1080) : bd (dtM (taM n c)) 32651735040000 := by
  refine dt_bd4 (fun k hk => ?_)
  rw [if_neg (by omega)]
  exact ta_bd h k hk
/-! sums -/
theorem sd_1 (r : Int64) : sdX r 1 = 1 := by unfold sdX; split <;> rfl
theorem sm_eq {R : Nat → Nat → Int32} {f : Nat → Nat → Int64} {ro r2 : Nat → Int64} {k s : Nat} (hs : s < 3) : ∀ {n : Nat}, (∀ i : Nat, i < n → ∀ q : Nat, q < 3 → emX (R i) k q = f i q) → (∀ i : Nat, i < n → ro i = r2 i) → smX n R ro k s = smG n f r2 s
  | 0, _, _ => rfl
  | n + 1, h1, h2 => by
    show smX n R ro k s + emX (R n) k (sdX (ro n) s) * ro n = smG n f r2 s + f n (if s = 1 then 1 else sdX (r2 n) s) * r2 n
    rw [sm_eq hs (fun i hi => h1 i (by omega)) (fun i hi => h2 i (by omega)), h2 n (by omega), h1 n (by omega) _ (sdX_lt _ hs)]
    by_cases q : s = 1
    · subst q; rw [if_pos rfl, sd_1]
    · rw [if_neg q]
theorem smG_bd {f : Nat → Nat → Int64} {ro : Nat → Int64} {s : Nat} (hs : s < 3) : ∀ {n : Nat}, n ≤ 4 → (∀ i : Nat, i < n → ∀ q : Nat, q < 3 → bd (f i q) 3000) → (∀ i : Nat, i < n → bd (ro i) 604661760000) → bd (smG n f ro s) (1813985280000000 * n)
  | 0, _, _, _ => bd_0
  | n + 1, h4, h1, h2 => by
    show bd (smG n f ro s + f n (if s = 1 then 1 else sdX (ro n) s) * ro n) _
    have hq : (if s = 1 then 1 else sdX (ro n) s) < 3 := by
      split
      · decide
      · exact sdX_lt _ hs
    exact bd_le (bd_add (smG_bd hs (by omega) (fun i hi => h1 i (by omega)) (fun i hi => h2 i (by omega))) (bd_mul (h1 n (by omega) _ hq) (h2 n (by omega)) (by decide)) (by omega)) (by omega)
theorem su_eq {R : Nat → Nat → Int32} {f : Nat → Nat → Int64} {ro d : Nat → Int64} {k : Nat} : ∀ {n : Nat}, (∀ i : Nat, i < n → ∀ q : Nat, q < 3 → emX (R i) k q = f i q) → (∀ i : Nat, i < n → ro i = d i) → smX n R ro k 2 = suM n f d
  | 0, _, _ => rfl
  | n + 1, h1, h2 => by
    show smX n R ro k 2 + emX (R n) k (sdX (ro n) 2) * ro n = suM n f d + f n (if 0 < d n then 2 else 0) * d n
    rw [su_eq (fun i hi => h1 i (by omega)) (fun i hi => h2 i (by omega)), h2 n (by omega), h1 n (by omega) _ (sdX_lt _ (by decide))]
    unfold sdX
    by_cases q : d n < 0
    · rw [if_pos q, if_neg (fun z => absurd (Int64.lt_trans q z) Int64.lt_irrefl)]
    · rw [if_neg q]
      by_cases q2 : 0 < d n
      · rw [if_pos q2]
      · have e : d n = 0 := Int64.le_antisymm (Int64.not_lt.mp q2) (Int64.not_lt.mp q)
        rw [if_neg q2, e, Int64.mul_zero, Int64.mul_zero]
theorem mb_congr {f g : Nat → Int64} : ∀ {n : Nat}, (∀ i : Nat, i < n → f i = g i) → mbX n f = mbX n g
  | 0, _ => rfl
  | 1, h => by
    show (((0 : Int32), f 0) : Int32 × Int64) = (0, g 0)
    rw [h 0 (by decide)]
  | n + 2, h => by
    show (if (mbX (n + 1) f).2 < f (n + 1) then ((Int32.ofNat (n + 1), f (n + 1)) : Int32 × Int64) else mbX (n + 1) f) = (if (mbX (n + 1) g).2 < g (n + 1) then ((Int32.ofNat (n + 1), g (n + 1)) : Int32 × Int64) else mbX (n + 1) g)
    rw [mb_congr (fun i hi => h i (by omega)), h (n + 1) (by omega)]
theorem tn_congr {f g : Nat → Int64} : ∀ {n i : Nat}, (∀ k : Nat, k < i + n → f k = g k) → tnF n i f = tnF n i g
  | 0, _, _ => rfl
  | n + 1, i, h => by
    show (if f i < 0 then Int32.ofNat i else tnF n (i + 1) f) = (if g i < 0 then Int32.ofNat i else tnF n (i + 1) g)
    rw [tn_congr (fun k hk => h k (by omega)), h i (by omega)]
theorem dt_lin0 (t u v : Nat → Int64) (h0 : t 0 = u 0 - v 0) (h4 : t 4 = u 4 - v 4) (h8 : t 8 = u 8 - v 8) (h12 : t 12 = u 12 - v 12) (p1 : t 1 = u 1) (q1 : v 1 = u 1) (p2 : t 2 = u 2) (q2 : v 2 = u 2) (p3 : t 3 = u 3) (q3 : v 3 = u 3) (p5 : t 5 = u 5) (q5 : v 5 = u 5) (p6 : t 6 = u 6) (q6 : v 6 = u 6) (p7 : t 7 = u 7) (q7 : v 7 = u 7) (p9 : t 9 = u 9) (q9 : v 9 = u 9) (p10 : t 10 = u 10) (q10 : v 10 = u 10) (p11 : t 11 = u 11) (q11 : v 11 = u 11) (p13 : t 13 = u 13) (q13 : v 13 = u 13) (p14 : t 14 = u 14) (q14 : v 14 = u 14) (p15 : t 15 = u 15) (q15 : v 15 = u 15) : dtM t = dtM u - dtM v := by
  simp only [dtM, prM, Nat.reduceMul, Nat.reduceAdd, h0, h4, h8, h12, p1, q1, p2, q2, p3, q3, p5, q5, p6, q6, p7, q7, p9, q9, p10, q10, p11, q11, p13, q13, p14, q14, p15, q15]
  generalize u 0 = x0, u 1 = x1, u 2 = x2, u 3 = x3, u 4 = x4, u 5 = x5, u 6 = x6, u 7 = x7, u 8 = x8, u 9 = x9, u 10 = x10, u 11 = x11, u 12 = x12, u 13 = x13, u 14 = x14, u 15 = x15, v 0 = y0, v 4 = y4, v 8 = y8, v 12 = y12
  grind
theorem dt_lin1 (t u v : Nat → Int64) (h1 : t 1 = u 1 - v 1) (h5 : t 5 = u 5 - v 5) (h9 : t 9 = u 9 - v 9) (h13 : t 13 = u 13 - v 13) (p0 : t 0 = u 0) (q0 : v 0 = u 0) (p2 : t 2 = u 2) (q2 : v 2 = u 2) (p3 : t 3 = u 3) (q3 : v 3 = u 3) (p4 : t 4 = u 4) (q4 : v 4 = u 4) (p6 : t 6 = u 6) (q6 : v 6 = u 6) (p7 : t 7 = u 7) (q7 : v 7 = u 7) (p8 : t 8 = u 8) (q8 : v 8 = u 8) (p10 : t 10 = u 10) (q10 : v 10 = u 10) (p11 : t 11 = u 11) (q11 : v 11 = u 11) (p12 : t 12 = u 12) (q12 : v 12 = u 12) (p14 : t 14 = u 14) (q14 : v 14 = u 14) (p15 : t 15 = u 15) (q15 : v 15 = u 15) : dtM t = dtM u - dtM v := by
  simp only [dtM, prM, Nat.reduceMul, Nat.reduceAdd, h1, h5, h9, h13, p0, q0, p2, q2, p3, q3, p4, q4, p6, q6, p7, q7, p8, q8, p10, q10, p11, q11, p12, q12, p14, q14, p15, q15]
  generalize u 0 = x0, u 1 = x1, u 2 = x2, u 3 = x3, u 4 = x4, u 5 = x5, u 6 = x6, u 7 = x7, u 8 = x8, u 9 = x9, u 10 = x10, u 11 = x11, u 12 = x12, u 13 = x13, u 14 = x14, u 15 = x15, v 1 = y1, v 5 = y5, v 9 = y9, v 13 = y13
  grind
theorem dt_lin2 (t u v : Nat → Int64) (h2 : t 2 = u 2 - v 2) (h6 : t 6 = u 6 - v 6) (h10 : t 10 = u 10 - v 10) (h14 : t 14 = u 14 - v 14) (p0 : t 0 = u 0) (q0 : v 0 = u 0) (p1 : t 1 = u 1) (q1 : v 1 = u 1) (p3 : t 3 = u 3) (q3 : v 3 = u 3) (p4 : t 4 = u 4) (q4 : v 4 = u 4) (p5 : t 5 = u 5) (q5 : v 5 = u 5) (p7 : t 7 = u 7) (q7 : v 7 = u 7) (p8 : t 8 = u 8) (q8 : v 8 = u 8) (p9 : t 9 = u 9) (q9 : v 9 = u 9) (p11 : t 11 = u 11) (q11 : v 11 = u 11) (p12 : t 12 = u 12) (q12 : v 12 = u 12) (p13 : t 13 = u 13) (q13 : v 13 = u 13) (p15 : t 15 = u 15) (q15 : v 15 = u 15) : dtM t = dtM u - dtM v := by
  simp only [dtM, prM, Nat.reduceMul, Nat.reduceAdd, h2, h6, h10, h14, p0, q0, p1, q1, p3, q3, p4, q4, p5, q5, p7, q7, p8, q8, p9, q9, p11, q11, p12, q12, p13, q13, p15, q15]
  generalize u 0 = x0, u 1 = x1, u 2 = x2, u 3 = x3, u 4 = x4, u 5 = x5, u 6 = x6, u 7 = x7, u 8 = x8, u 9 = x9, u 10 = x10, u 11 = x11, u 12 = x12, u 13 = x13, u 14 = x14, u 15 = x15, v 2 = y2, v 6 = y6, v 10 = y10, v 14 = y14
  grind
theorem dt_lin3 (t u v : Nat → Int64) (h3 : t 3 = u 3 - v 3) (h7 : t 7 = u 7 - v 7) (h11 : t 11 = u 11 - v 11) (h15 : t 15 = u 15 - v 15) (p0 : t 0 = u 0) (q0 : v 0 = u 0) (p1 : t 1 = u 1) (q1 : v 1 = u 1) (p2 : t 2 = u 2) (q2 : v 2 = u 2) (p4 : t 4 = u 4) (q4 : v 4 = u 4) (p5 : t 5 = u 5) (q5 : v 5 = u 5) (p6 : t 6 = u 6) (q6 : v 6 = u 6) (p8 : t 8 = u 8) (q8 : v 8 = u 8) (p9 : t 9 = u 9) (q9 : v 9 = u 9) (p10 : t 10 = u 10) (q10 : v 10 = u 10) (p12 : t 12 = u 12) (q12 : v 12 = u 12) (p13 : t 13 = u 13) (q13 : v 13 = u 13) (p14 : t 14 = u 14) (q14 : v 14 = u 14) : dtM t = dtM u - dtM v := by
  simp only [dtM, prM, Nat.reduceMul, Nat.reduceAdd, h3, h7, h11, h15, p0, q0, p1, q1, p2, q2, p4, q4, p5, q5, p6, q6, p8, q8, p9, q9, p10, q10, p12, q12, p13, q13, p14, q14]
  generalize u 0 = x0, u 1 = x1, u 2 = x2, u 3 = x3, u 4 = x4, u 5 = x5, u 6 = x6, u 7 = x7, u 8 = x8, u 9 = x9, u 10 = x10, u 11 = x11, u 12 = x12, u 13 = x13, u 14 = x14, u 15 = x15, v 3 = y3, v 7 = y7, v 11 = y11, v 15 = y15
  grind
theorem dt_lin {n : Nat} {ta h g : Nat → Int64} {i : Nat} (hi : i < 4) : dtM (tsM n ta i (fun j => h j - g j)) = dtM (tsM n ta i h) - dtM (tsM n ta i g) := by
  have e1 : ∀ k : Nat, k % 4 = i → tsM n ta i (fun j => h j - g j) k = tsM n ta i h k - tsM n ta i g k := fun k hk => by
    unfold tsM
    rw [if_pos hk, if_pos hk, if_pos hk]
    split
    · rfl
    · exact (Int64.sub_self 0).symm
  have e2 : ∀ k : Nat, k % 4 ≠ i → tsM n ta i (fun j => h j - g j) k = tsM n ta i h k := fun k hk => by
    unfold tsM
    rw [if_neg hk, if_neg hk]
  have e3 : ∀ k : Nat, k % 4 ≠ i → tsM n ta i g k = tsM n ta i h k := fun k hk => by
    unfold tsM
    rw [if_neg hk, if_neg hk]
  rcases (show i = 0 ∨ i = 1 ∨ i = 2 ∨ i = 3 by omega) with e | e | e | e
  · subst e; exact dt_lin0 _ _ _ (e1 0 (by decide)) (e1 4 (by decide)) (e1 8 (by decide)) (e1 12 (by decide)) (e2 1 (by decide)) (e3 1 (by decide)) (e2 2 (by decide)) (e3 2 (by decide)) (e2 3 (by decide)) (e3 3 (by decide)) (e2 5 (by decide)) (e3 5 (by decide)) (e2 6 (by decide)) (e3 6 (by decide)) (e2 7 (by decide)) (e3 7 (by decide)) (e2 9 (by decide)) (e3 9 (by decide)) (e2 10 (by decide)) (e3 10 (by decide)) (e2 11 (by decide)) (e3 11 (by decide)) (e2 13 (by decide)) (e3 13 (by decide)) (e2 14 (by decide)) (e3 14 (by decide)) (e2 15 (by decide)) (e3 15 (by decide))
  · subst e; exact dt_lin1 _ _ _ (e1 1 (by decide)) (e1 5 (by decide)) (e1 9 (by decide)) (e1 13 (by decide)) (e2 0 (by decide)) (e3 0 (by decide)) (e2 2 (by decide)) (e3 2 (by decide)) (e2 3 (by decide)) (e3 3 (by decide)) (e2 4 (by decide)) (e3 4 (by decide)) (e2 6 (by decide)) (e3 6 (by decide)) (e2 7 (by decide)) (e3 7 (by decide)) (e2 8 (by decide)) (e3 8 (by decide)) (e2 10 (by decide)) (e3 10 (by decide)) (e2 11 (by decide)) (e3 11 (by decide)) (e2 12 (by decide)) (e3 12 (by decide)) (e2 14 (by decide)) (e3 14 (by decide)) (e2 15 (by decide)) (e3 15 (by decide))
  · subst e; exact dt_lin2 _ _ _ (e1 2 (by decide)) (e1 6 (by decide)) (e1 10 (by decide)) (e1 14 (by decide)) (e2 0 (by decide)) (e3 0 (by decide)) (e2 1 (by decide)) (e3 1 (by decide)) (e2 3 (by decide)) (e3 3 (by decide)) (e2 4 (by decide)) (e3 4 (by decide)) (e2 5 (by decide)) (e3 5 (by decide)) (e2 7 (by decide)) (e3 7 (by decide)) (e2 8 (by decide)) (e3 8 (by decide)) (e2 9 (by decide)) (e3 9 (by decide)) (e2 11 (by decide)) (e3 11 (by decide)) (e2 12 (by decide)) (e3 12 (by decide)) (e2 13 (by decide)) (e3 13 (by decide)) (e2 15 (by decide)) (e3 15 (by decide))
  · subst e; exact dt_lin3 _ _ _ (e1 3 (by decide)) (e1 7 (by decide)) (e1 11 (by decide)) (e1 15 (by decide)) (e2 0 (by decide)) (e3 0 (by decide)) (e2 1 (by decide)) (e3 1 (by decide)) (e2 2 (by decide)) (e3 2 (by decide)) (e2 4 (by decide)) (e3 4 (by decide)) (e2 5 (by decide)) (e3 5 (by decide)) (e2 6 (by decide)) (e3 6 (by decide)) (e2 8 (by decide)) (e3 8 (by decide)) (e2 9 (by decide)) (e3 9 (by decide)) (e2 10 (by decide)) (e3 10 (by decide)) (e2 12 (by decide)) (e3 12 (by decide)) (e2 13 (by decide)) (e3 13 (by decide)) (e2 14 (by decide)) (e3 14 (by decide))
theorem rd_lin {n : Nat} {ta h g : Nat → Int64} {wo : Int64} {i : Nat} (hi : i < 4) : rdM n ta wo (fun j => h j - g j) i = rdM n ta wo h i - rdM n ta wo g i := by
  unfold rdM
  rw [dt_lin hi]
  generalize dtM (tsM n ta i h) = x, dtM (tsM n ta i g) = y
  split
  · grind
  · rfl
theorem dif64 {x y : Int32} (hx : 0 ≤ x.toInt ∧ x.toInt ≤ 20) (hy : 0 ≤ y.toInt ∧ y.toInt ≤ 20) : (x - y).toInt64 = x.toInt64 - y.toInt64 := by
  refine Int64.toInt_inj.mp ?_
  rw [Int32.toInt_toInt64, Int32.toInt_sub, bmodI (by omega) (by omega), subL (a := 20) (b := 20) (bi_bd (bi_of hx.1 hx.2)) (bi_bd (bi_of hy.1 hy.2)) (by decide), Int32.toInt_toInt64, Int32.toInt_toInt64]
