/-! THE REFERENCE'S PICTURE: 14 cells; the book by the same numbers as the class's rows (0 OUT, 1 RULE, 4 + j, 8 + j, 12 .. 20, 21, 22) -/
abbrev mO (Bm : Nat → Nat → Nat → Int32) : List Int32 := [Bm 0 0 0, Bm 0 1 0, Bm 0 2 0, Bm 0 3 0, Bm 1 0 0, Bm 1 1 0, Bm 1 2 0, Bm 1 3 0, Bm 2 0 0, Bm 2 1 0, Bm 2 2 0, Bm 2 3 0, Bm 3 0 0, Bm 3 1 0, Bm 3 2 0, Bm 3 3 0, Bm 4 0 0, Bm 4 1 0, Bm 4 2 0, Bm 4 3 0, Bm 5 0 0, Bm 5 1 0, Bm 5 2 0, Bm 5 3 0, Bm 6 0 0, Bm 6 1 0, Bm 6 2 0, Bm 6 3 0]
abbrev mRu (Bm : Nat → Nat → Nat → Int32) : List Int32 := [Bm 0 0 1, Bm 0 1 1, Bm 0 2 1, Bm 0 3 1, Bm 1 0 1, Bm 1 1 1, Bm 1 2 1, Bm 1 3 1, Bm 2 0 1, Bm 2 1 1, Bm 2 2 1, Bm 2 3 1, Bm 3 0 1, Bm 3 1 1, Bm 3 2 1, Bm 3 3 1, Bm 4 0 1, Bm 4 1 1, Bm 4 2 1, Bm 4 3 1, Bm 5 0 1, Bm 5 1 1, Bm 5 2 1, Bm 5 3 1, Bm 6 0 1, Bm 6 1 1, Bm 6 2 1, Bm 6 3 1]
abbrev mWe (Bm : Nat → Nat → Nat → Int32) : List Int32 := [Bm 0 0 21, Bm 0 1 21, Bm 0 2 21, Bm 0 3 21, Bm 1 0 21, Bm 1 1 21, Bm 1 2 21, Bm 1 3 21, Bm 2 0 21, Bm 2 1 21, Bm 2 2 21, Bm 2 3 21, Bm 3 0 21, Bm 3 1 21, Bm 3 2 21, Bm 3 3 21, Bm 4 0 21, Bm 4 1 21, Bm 4 2 21, Bm 4 3 21, Bm 5 0 21, Bm 5 1 21, Bm 5 2 21, Bm 5 3 21, Bm 6 0 21, Bm 6 1 21, Bm 6 2 21, Bm 6 3 21]
abbrev mPr (Bm : Nat → Nat → Nat → Int32) : List Int32 := [Bm 0 0 22, Bm 0 1 22, Bm 0 2 22, Bm 0 3 22, Bm 1 0 22, Bm 1 1 22, Bm 1 2 22, Bm 1 3 22, Bm 2 0 22, Bm 2 1 22, Bm 2 2 22, Bm 2 3 22, Bm 3 0 22, Bm 3 1 22, Bm 3 2 22, Bm 3 3 22, Bm 4 0 22, Bm 4 1 22, Bm 4 2 22, Bm 4 3 22, Bm 5 0 22, Bm 5 1 22, Bm 5 2 22, Bm 5 3 22, Bm 6 0 22, Bm 6 1 22, Bm 6 2 22, Bm 6 3 22]
abbrev mNe (Bm : Nat → Nat → Nat → Int32) : List Int32 := [Bm 0 0 4, Bm 0 0 5, Bm 0 0 6, Bm 0 0 7, Bm 0 1 4, Bm 0 1 5, Bm 0 1 6, Bm 0 1 7, Bm 0 2 4, Bm 0 2 5, Bm 0 2 6, Bm 0 2 7, Bm 0 3 4, Bm 0 3 5, Bm 0 3 6, Bm 0 3 7, Bm 1 0 4, Bm 1 0 5, Bm 1 0 6, Bm 1 0 7, Bm 1 1 4, Bm 1 1 5, Bm 1 1 6, Bm 1 1 7, Bm 1 2 4, Bm 1 2 5, Bm 1 2 6, Bm 1 2 7, Bm 1 3 4, Bm 1 3 5, Bm 1 3 6, Bm 1 3 7, Bm 2 0 4, Bm 2 0 5, Bm 2 0 6, Bm 2 0 7, Bm 2 1 4, Bm 2 1 5, Bm 2 1 6, Bm 2 1 7, Bm 2 2 4, Bm 2 2 5, Bm 2 2 6, Bm 2 2 7, Bm 2 3 4, Bm 2 3 5, Bm 2 3 6, Bm 2 3 7, Bm 3 0 4, Bm 3 0 5, Bm 3 0 6, Bm 3 0 7, Bm 3 1 4, Bm 3 1 5, Bm 3 1 6, Bm 3 1 7, Bm 3 2 4, Bm 3 2 5, Bm 3 2 6, Bm 3 2 7, Bm 3 3 4, Bm 3 3 5, Bm 3 3 6, Bm 3 3 7, Bm 4 0 4, Bm 4 0 5, Bm 4 0 6, Bm 4 0 7, Bm 4 1 4, Bm 4 1 5, Bm 4 1 6, Bm 4 1 7, Bm 4 2 4, Bm 4 2 5, Bm 4 2 6, Bm 4 2 7, Bm 4 3 4, Bm 4 3 5, Bm 4 3 6, Bm 4 3 7, Bm 5 0 4, Bm 5 0 5, Bm 5 0 6, Bm 5 0 7, Bm 5 1 4, Bm 5 1 5, Bm 5 1 6, Bm 5 1 7, Bm 5 2 4, Bm 5 2 5, Bm 5 2 6, Bm 5 2 7, Bm 5 3 4, Bm 5 3 5, Bm 5 3 6, Bm 5 3 7, Bm 6 0 4, Bm 6 0 5, Bm 6 0 6, Bm 6 0 7, Bm 6 1 4, Bm 6 1 5, Bm 6 1 6, Bm 6 1 7, Bm 6 2 4, Bm 6 2 5, Bm 6 2 6, Bm 6 2 7, Bm 6 3 4, Bm 6 3 5, Bm 6 3 6, Bm 6 3 7]
abbrev mGi (Bm : Nat → Nat → Nat → Int32) : List Int32 := [Bm 0 0 8, Bm 0 0 9, Bm 0 0 10, Bm 0 0 11, Bm 0 1 8, Bm 0 1 9, Bm 0 1 10, Bm 0 1 11, Bm 0 2 8, Bm 0 2 9, Bm 0 2 10, Bm 0 2 11, Bm 0 3 8, Bm 0 3 9, Bm 0 3 10, Bm 0 3 11, Bm 1 0 8, Bm 1 0 9, Bm 1 0 10, Bm 1 0 11, Bm 1 1 8, Bm 1 1 9, Bm 1 1 10, Bm 1 1 11, Bm 1 2 8, Bm 1 2 9, Bm 1 2 10, Bm 1 2 11, Bm 1 3 8, Bm 1 3 9, Bm 1 3 10, Bm 1 3 11, Bm 2 0 8, Bm 2 0 9, Bm 2 0 10, Bm 2 0 11, Bm 2 1 8, Bm 2 1 9, Bm 2 1 10, Bm 2 1 11, Bm 2 2 8, Bm 2 2 9, Bm 2 2 10, Bm 2 2 11, Bm 2 3 8, Bm 2 3 9, Bm 2 3 10, Bm 2 3 11, Bm 3 0 8, Bm 3 0 9, Bm 3 0 10, Bm 3 0 11, Bm 3 1 8, Bm 3 1 9, Bm 3 1 10, Bm 3 1 11, Bm 3 2 8, Bm 3 2 9, Bm 3 2 10, Bm 3 2 11, Bm 3 3 8, Bm 3 3 9, Bm 3 3 10, Bm 3 3 11, Bm 4 0 8, Bm 4 0 9, Bm 4 0 10, Bm 4 0 11, Bm 4 1 8, Bm 4 1 9, Bm 4 1 10, Bm 4 1 11, Bm 4 2 8, Bm 4 2 9, Bm 4 2 10, Bm 4 2 11, Bm 4 3 8, Bm 4 3 9, Bm 4 3 10, Bm 4 3 11, Bm 5 0 8, Bm 5 0 9, Bm 5 0 10, Bm 5 0 11, Bm 5 1 8, Bm 5 1 9, Bm 5 1 10, Bm 5 1 11, Bm 5 2 8, Bm 5 2 9, Bm 5 2 10, Bm 5 2 11, Bm 5 3 8, Bm 5 3 9, Bm 5 3 10, Bm 5 3 11, Bm 6 0 8, Bm 6 0 9, Bm 6 0 10, Bm 6 0 11, Bm 6 1 8, Bm 6 1 9, Bm 6 1 10, Bm 6 1 11, Bm 6 2 8, Bm 6 2 9, Bm 6 2 10, Bm 6 2 11, Bm 6 3 8, Bm 6 3 9, Bm 6 3 10, Bm 6 3 11]
abbrev mEm (Bm : Nat → Nat → Nat → Int32) : List Int32 := [Bm 0 0 12, Bm 0 0 13, Bm 0 0 14, Bm 0 0 15, Bm 0 0 16, Bm 0 0 17, Bm 0 0 18, Bm 0 0 19, Bm 0 0 20, Bm 0 1 12, Bm 0 1 13, Bm 0 1 14, Bm 0 1 15, Bm 0 1 16, Bm 0 1 17, Bm 0 1 18, Bm 0 1 19, Bm 0 1 20, Bm 0 2 12, Bm 0 2 13, Bm 0 2 14, Bm 0 2 15, Bm 0 2 16, Bm 0 2 17, Bm 0 2 18, Bm 0 2 19, Bm 0 2 20, Bm 0 3 12, Bm 0 3 13, Bm 0 3 14, Bm 0 3 15, Bm 0 3 16, Bm 0 3 17, Bm 0 3 18, Bm 0 3 19, Bm 0 3 20, Bm 1 0 12, Bm 1 0 13, Bm 1 0 14, Bm 1 0 15, Bm 1 0 16, Bm 1 0 17, Bm 1 0 18, Bm 1 0 19, Bm 1 0 20, Bm 1 1 12, Bm 1 1 13, Bm 1 1 14, Bm 1 1 15, Bm 1 1 16, Bm 1 1 17, Bm 1 1 18, Bm 1 1 19, Bm 1 1 20, Bm 1 2 12, Bm 1 2 13, Bm 1 2 14, Bm 1 2 15, Bm 1 2 16, Bm 1 2 17, Bm 1 2 18, Bm 1 2 19, Bm 1 2 20, Bm 1 3 12, Bm 1 3 13, Bm 1 3 14, Bm 1 3 15, Bm 1 3 16, Bm 1 3 17, Bm 1 3 18, Bm 1 3 19, Bm 1 3 20, Bm 2 0 12, Bm 2 0 13, Bm 2 0 14, Bm 2 0 15, Bm 2 0 16, Bm 2 0 17, Bm 2 0 18, Bm 2 0 19, Bm 2 0 20, Bm 2 1 12, Bm 2 1 13, Bm 2 1 14, Bm 2 1 15, Bm 2 1 16, Bm 2 1 17, Bm 2 1 18, Bm 2 1 19, Bm 2 1 20, Bm 2 2 12, Bm 2 2 13, Bm 2 2 14, Bm 2 2 15, Bm 2 2 16, Bm 2 2 17, Bm 2 2 18, Bm 2 2 19, Bm 2 2 20, Bm 2 3 12, Bm 2 3 13, Bm 2 3 14, Bm 2 3 15, Bm 2 3 16, Bm 2 3 17, Bm 2 3 18, Bm 2 3 19, Bm 2 3 20, Bm 3 0 12, Bm 3 0 13, Bm 3 0 14, Bm 3 0 15, Bm 3 0 16, Bm 3 0 17, Bm 3 0 18, Bm 3 0 19, Bm 3 0 20, Bm 3 1 12, Bm 3 1 13, Bm 3 1 14, Bm 3 1 15, Bm 3 1 16, Bm 3 1 17, Bm 3 1 18, Bm 3 1 19, Bm 3 1 20, Bm 3 2 12, Bm 3 2 13, Bm 3 2 14, Bm 3 2 15, Bm 3 2 16, Bm 3 2 17, Bm 3 2 18, Bm 3 2 19, Bm 3 2 20, Bm 3 3 12, Bm 3 3 13, Bm 3 3 14, Bm 3 3 15, Bm 3 3 16, Bm 3 3 17, Bm 3 3 18, Bm 3 3 19, Bm 3 3 20, Bm 4 0 12, Bm 4 0 13, Bm 4 0 14, Bm 4 0 15, Bm 4 0 16, Bm 4 0 17, Bm 4 0 18, Bm 4 0 19, Bm 4 0 20, Bm 4 1 12, Bm 4 1 13, Bm 4 1 14, Bm 4 1 15, Bm 4 1 16, Bm 4 1 17, Bm 4 1 18, Bm 4 1 19, Bm 4 1 20, Bm 4 2 12, Bm 4 2 13, Bm 4 2 14, Bm 4 2 15, Bm 4 2 16, Bm 4 2 17, Bm 4 2 18, Bm 4 2 19, Bm 4 2 20, Bm 4 3 12, Bm 4 3 13, Bm 4 3 14, Bm 4 3 15, Bm 4 3 16, Bm 4 3 17, Bm 4 3 18, Bm 4 3 19, Bm 4 3 20, Bm 5 0 12, Bm 5 0 13, Bm 5 0 14, Bm 5 0 15, Bm 5 0 16, Bm 5 0 17, Bm 5 0 18, Bm 5 0 19, Bm 5 0 20, Bm 5 1 12, Bm 5 1 13, Bm 5 1 14, Bm 5 1 15, Bm 5 1 16, Bm 5 1 17, Bm 5 1 18, Bm 5 1 19, Bm 5 1 20, Bm 5 2 12, Bm 5 2 13, Bm 5 2 14, Bm 5 2 15, Bm 5 2 16, Bm 5 2 17, Bm 5 2 18, Bm 5 2 19, Bm 5 2 20, Bm 5 3 12, Bm 5 3 13, Bm 5 3 14, Bm 5 3 15, Bm 5 3 16, Bm 5 3 17, Bm 5 3 18, Bm 5 3 19, Bm 5 3 20, Bm 6 0 12, Bm 6 0 13, Bm 6 0 14, Bm 6 0 15, Bm 6 0 16, Bm 6 0 17, Bm 6 0 18, Bm 6 0 19, Bm 6 0 20, Bm 6 1 12, Bm 6 1 13, Bm 6 1 14, Bm 6 1 15, Bm 6 1 16, Bm 6 1 17, Bm 6 1 18, Bm 6 1 19, Bm 6 1 20, Bm 6 2 12, Bm 6 2 13, Bm 6 2 14, Bm 6 2 15, Bm 6 2 16, Bm 6 2 17, Bm 6 2 18, Bm 6 2 19, Bm 6 2 20, Bm 6 3 12, Bm 6 3 13, Bm 6 3 14, Bm 6 3 15, Bm 6 3 16, Bm 6 3 17, Bm 6 3 18, Bm 6 3 19, Bm 6 3 20]
abbrev mBk (bk : Nat → Nat → Int32) : List Int32 := [bk 0 0, bk 0 1, bk 0 2, bk 0 3, bk 1 0, bk 1 1, bk 1 2, bk 1 3, bk 2 0, bk 2 1, bk 2 2, bk 2 3, bk 3 0, bk 3 1, bk 3 2, bk 3 3]
def MW (n vs : Int32) (wo un h : Int64) (bo : Nat → Int32) (ta tr ro ot : Nat → Int64) (Bm : Nat → Nat → Nat → Int32) (bk : Nat → Nat → Int32) : mW :=
  [.inl (3, [.int n, .int vs, .ref 1, .ref 2, .ref 3, .ref 4, .ref 5, .ref 6, .ref 7, .ref 8, .ref 9, .ref 10, .ref 11, .long wo, .ref 12, .long un, .ref 13, .long h]),
   .inr (0, .inl (mO Bm)),
   .inr (0, .inl (mRu Bm)),
   .inr (0, .inl (mWe Bm)),
   .inr (0, .inl (mPr Bm)),
   .inr (0, .inl (mNe Bm)),
   .inr (0, .inl (mGi Bm)),
   .inr (0, .inl (mEm Bm)),
   .inr (0, .inl (mBk bk)),
   eI4 bo,
   eL16 ta,
   eL16 tr,
   eL4 ro,
   eL4 ot]
def vlM (row : Nat → Int32) (x : Int32) : Int32 := if x = 0 then row 21 else row 22
def mnM (row : Nat → Int32) : Int32 := if row 1 = 2 then 1 else row 0 * vlM row (row 1)
def alS : Nat → (Nat → Nat → Int32) → Nat → Int32
  | 0, rows, i => mnM (rows i)
  | m + 1, rows, i => alS m rows i + rows i (8 + m) * vlM (rows m) (rows i 1)
def alM (n : Nat) (rows : Nat → Nat → Int32) (i : Nat) : Int32 := if 2 ≤ rows i 1 then mnM (rows i) else alS n rows i
def ceM (n : Nat) (rows : Nat → Nat → Int32) (i j : Nat) : Int32 := if rows i 1 = 2 then (if i = j then rows i 0 else 0) + rows i (8 + j) - rows i (4 + j) else (if i = j then rows i 0 else 0) * alM n rows i - rows i (4 + j) * mnM (rows i)
def prM (t : Nat → Int64) (r a b : Nat) : Int64 := t (4 * r + a) * t (4 * r + 4 + b) - t (4 * r + b) * t (4 * r + 4 + a)
def dtM (t : Nat → Int64) : Int64 := ((prM t 0 0 1 * prM t 2 2 3 - prM t 0 0 2 * prM t 2 1 3) + prM t 0 0 3 * prM t 2 1 2) + prM t 0 1 2 * prM t 2 0 3 - prM t 0 1 3 * prM t 2 0 2 + prM t 0 2 3 * prM t 2 0 1
theorem le_pred {i : Int32} {n : Nat} (hn : n < 2 ^ 30) : i ≤ Int32.ofNat n - 1 ↔ i < Int32.ofNat n := by
  have h := pk_sub_toInt (a := n) (b := 1) hn (by decide)
  have h2 : (Int32.ofNat n).toInt = n := nI_toInt (by omega)
  rw [Int32.le_iff_toInt_le, Int32.lt_iff_toInt_lt, h2]
  have h3 : (Int32.ofNat n - 1).toInt = (n : Int) - 1 := h
  rw [h3]
  omega
theorem lt3_le2 {k : Int32} : k < 3 ↔ k ≤ 2 := by
  rw [Int32.lt_iff_toInt_lt, Int32.le_iff_toInt_le]
  show k.toInt < 3 ↔ k.toInt ≤ 2
  omega
theorem lt4_le3 {k : Int32} : k < 4 ↔ k ≤ 3 := by
  rw [Int32.lt_iff_toInt_lt, Int32.le_iff_toInt_le]
  show k.toInt < 4 ↔ k.toInt ≤ 3
  omega
section
variable {l : Launch} {D : va_G} {ca : Nat → ClassId} {ad : Nat → Nat}

set_option maxRecDepth 20000 in
theorem m_in_t {w : mW} {x a b : Int32} (h1 : a ≤ x) (h2 : x ≤ b) : KX3_in l D ca ad [.int x, .int a, .int b] w (some (.int 1)) w := by
  refine PX3_in (Nat.le_of_ble_eq_true rfl) (Or.inr rfl) ?_
  intro G hT hC hR
  refine mB hT 3 rfl ?_
  refine mIf (fun hp => absurd hp (Int32.not_lt.mpr h1)) (fun _ => ?_)
  refine mB hT 3 rfl ?_
  refine mIf (fun hp => absurd hp (Int32.not_lt.mpr h2)) (fun _ => ?_)
  refine mB hT 2 rfl ?_
  exact hR _ (by decide) _ _ _ rfl rfl
set_option maxRecDepth 20000 in
theorem m_in_f {w : mW} {x a b : Int32} (hf : ¬ (a ≤ x ∧ x ≤ b)) : KX3_in l D ca ad [.int x, .int a, .int b] w (some (.int 0)) w := by
  refine PX3_in (Nat.le_of_ble_eq_true rfl) (Or.inl rfl) ?_
  intro G hT hC hR
  refine mB hT 3 rfl ?_
  refine mIf (fun h1 => ?_) (fun h1 => ?_)
  · refine mB hT 1 rfl ?_
    exact hR _ (by decide) _ _ _ rfl rfl
  · refine mB hT 3 rfl ?_
    refine mIf (fun h2 => ?_) (fun h2 => ?_)
    · refine mB hT 1 rfl ?_
      exact hR _ (by decide) _ _ _ rfl rfl
    · refine mB hT 2 rfl ?_
      exact absurd (⟨Int32.not_lt.mp h1, Int32.not_lt.mp h2⟩ : a ≤ x ∧ x ≤ b) hf
set_option maxRecDepth 20000 in
theorem m_isMaking_t {n vs : Nat} {wo un h : Int64} {bo : Nat → Int32} {ta tr ro ot : Nat → Int64} {Bm : Nat → Nat → Nat → Int32} {bk : Nat → Nat → Int32} {i : Nat} (hi : i < n) (hn : n ≤ 4) : KX3_isMaking l D ca ad [.ref 0, .int (Int32.ofNat i)] (MW (Int32.ofNat n) (Int32.ofNat vs) wo un h bo ta tr ro ot Bm bk) (some (.int 1)) (MW (Int32.ofNat n) (Int32.ofNat vs) wo un h bo ta tr ro ot Bm bk) := by
  refine PX3_isMaking (Nat.le_of_ble_eq_true rfl) (Or.inr rfl) ?_
  intro G hT hC hR
  refine mB hT 6 rfl ?_
  refine hC _ [_, _, _] _ _ _ _ (m_in_t (nI_pos' (by omega)) ((le_pred (by omega)).mpr (ofNat_lt hi (by omega)))) rfl (Nat.le_of_ble_eq_true rfl) rfl ?_
  exact hR _ (by decide) _ _ _ rfl rfl
set_option maxRecDepth 20000 in
theorem m_isMaking_f {n vs : Nat} {wo un h : Int64} {bo : Nat → Int32} {ta tr ro ot : Nat → Int64} {Bm : Nat → Nat → Nat → Int32} {bk : Nat → Nat → Int32} {i : Int32} (hn : n ≤ 4) (hf : ¬ (0 ≤ i ∧ i < Int32.ofNat n)) : KX3_isMaking l D ca ad [.ref 0, .int i] (MW (Int32.ofNat n) (Int32.ofNat vs) wo un h bo ta tr ro ot Bm bk) (some (.int 0)) (MW (Int32.ofNat n) (Int32.ofNat vs) wo un h bo ta tr ro ot Bm bk) := by
  refine PX3_isMaking (Nat.le_of_ble_eq_true rfl) (Or.inl rfl) ?_
  intro G hT hC hR
  refine mB hT 6 rfl ?_
  refine hC _ [_, _, _] _ _ _ _ (m_in_f (fun q => hf ⟨q.1, (le_pred (by omega)).mp q.2⟩)) rfl (Nat.le_of_ble_eq_true rfl) rfl ?_
  exact hR _ (by decide) _ _ _ rfl rfl
set_option maxRecDepth 20000 in
theorem m_isBasket_t {w : mW} {i : Nat} (hi : i < 4) : KX3_isBasket l D ca ad [.int (Int32.ofNat i)] w (some (.int 1)) w := by
  refine PX3_isBasket (Nat.le_of_ble_eq_true rfl) (Or.inr rfl) ?_
  intro G hT hC hR
  refine mB hT 3 rfl ?_
  refine hC _ [_, _, _] _ _ _ _ (m_in_t (nI_pos' (by omega)) (nI_le (b := 3) (by omega) (by omega))) rfl (Nat.le_of_ble_eq_true rfl) rfl ?_
  exact hR _ (by decide) _ _ _ rfl rfl
set_option maxRecDepth 20000 in
theorem m_isBasket_f {w : mW} {i : Int32} (hf : ¬ (0 ≤ i ∧ i < 4)) : KX3_isBasket l D ca ad [.int i] w (some (.int 0)) w := by
  refine PX3_isBasket (Nat.le_of_ble_eq_true rfl) (Or.inl rfl) ?_
  intro G hT hC hR
  refine mB hT 3 rfl ?_
  refine hC _ [_, _, _] _ _ _ _ (m_in_f (fun q => hf ⟨q.1, lt4_le3.mpr q.2⟩)) rfl (Nat.le_of_ble_eq_true rfl) rfl ?_
  exact hR _ (by decide) _ _ _ rfl rfl
set_option maxRecDepth 20000 in
theorem m_isStuff_t {w : mW} {i : Nat} (hi : i < 3) : KX3_isStuff l D ca ad [.int (Int32.ofNat i)] w (some (.int 1)) w := by
  refine PX3_isStuff (Nat.le_of_ble_eq_true rfl) (Or.inr rfl) ?_
  intro G hT hC hR
  refine mB hT 3 rfl ?_
  refine hC _ [_, _, _] _ _ _ _ (m_in_t (nI_pos' (by omega)) (nI_le (b := 2) (by omega) (by omega))) rfl (Nat.le_of_ble_eq_true rfl) rfl ?_
  exact hR _ (by decide) _ _ _ rfl rfl
set_option maxRecDepth 20000 in
theorem m_isStuff_f {w : mW} {i : Int32} (hf : ¬ (0 ≤ i ∧ i < 3)) : KX3_isStuff l D ca ad [.int i] w (some (.int 0)) w := by
  refine PX3_isStuff (Nat.le_of_ble_eq_true rfl) (Or.inl rfl) ?_
  intro G hT hC hR
  refine mB hT 3 rfl ?_
  refine hC _ [_, _, _] _ _ _ _ (m_in_f (fun q => hf ⟨q.1, lt3_le2.mpr q.2⟩)) rfl (Nat.le_of_ble_eq_true rfl) rfl ?_
  exact hR _ (by decide) _ _ _ rfl rfl
set_option maxRecDepth 20000 in
theorem m_value_0_0 {n vs : Int32} {wo un h : Int64} {bo : Nat → Int32} {ta tr ro ot : Nat → Int64} {Bm : Nat → Nat → Nat → Int32} {bk : Nat → Nat → Int32} (x : Int32) : KX3_value l D ca ad [.ref 0, .int 0, .int 0, .int x] (MW n vs wo un h bo ta tr ro ot Bm bk) (some (.int (vlM (Bm 0 0) x))) (MW n vs wo un h bo ta tr ro ot Bm bk) := by
  refine PX3_value (Nat.le_of_ble_eq_true rfl) ?_
  intro G hT hC hR
  refine mB hT 2 rfl ?_
  refine mIf (fun h1 => ?_) (fun h1 => ?_)
  · refine mB hT 9 rfl ?_
    exact hR _ (by decide) _ _ _ (congrArg (fun z => [Value.int z]) (if_pos h1).symm) rfl
  · refine mB hT 8 rfl ?_
    exact hR _ (by decide) _ _ _ (congrArg (fun z => [Value.int z]) (if_neg h1).symm) rfl
set_option maxRecDepth 20000 in
theorem m_value_0_1 {n vs : Int32} {wo un h : Int64} {bo : Nat → Int32} {ta tr ro ot : Nat → Int64} {Bm : Nat → Nat → Nat → Int32} {bk : Nat → Nat → Int32} (x : Int32) : KX3_value l D ca ad [.ref 0, .int 0, .int 1, .int x] (MW n vs wo un h bo ta tr ro ot Bm bk) (some (.int (vlM (Bm 0 1) x))) (MW n vs wo un h bo ta tr ro ot Bm bk) := by
  refine PX3_value (Nat.le_of_ble_eq_true rfl) ?_
  intro G hT hC hR
  refine mB hT 2 rfl ?_
  refine mIf (fun h1 => ?_) (fun h1 => ?_)
  · refine mB hT 9 rfl ?_
    exact hR _ (by decide) _ _ _ (congrArg (fun z => [Value.int z]) (if_pos h1).symm) rfl
  · refine mB hT 8 rfl ?_
    exact hR _ (by decide) _ _ _ (congrArg (fun z => [Value.int z]) (if_neg h1).symm) rfl
set_option maxRecDepth 20000 in
theorem m_value_0_2 {n vs : Int32} {wo un h : Int64} {bo : Nat → Int32} {ta tr ro ot : Nat → Int64} {Bm : Nat → Nat → Nat → Int32} {bk : Nat → Nat → Int32} (x : Int32) : KX3_value l D ca ad [.ref 0, .int 0, .int 2, .int x] (MW n vs wo un h bo ta tr ro ot Bm bk) (some (.int (vlM (Bm 0 2) x))) (MW n vs wo un h bo ta tr ro ot Bm bk) := by
  refine PX3_value (Nat.le_of_ble_eq_true rfl) ?_
  intro G hT hC hR
  refine mB hT 2 rfl ?_
  refine mIf (fun h1 => ?_) (fun h1 => ?_)
  · refine mB hT 9 rfl ?_
    exact hR _ (by decide) _ _ _ (congrArg (fun z => [Value.int z]) (if_pos h1).symm) rfl
  · refine mB hT 8 rfl ?_
    exact hR _ (by decide) _ _ _ (congrArg (fun z => [Value.int z]) (if_neg h1).symm) rfl
set_option maxRecDepth 20000 in
theorem m_value_0_3 {n vs : Int32} {wo un h : Int64} {bo : Nat → Int32} {ta tr ro ot : Nat → Int64} {Bm : Nat → Nat → Nat → Int32} {bk : Nat → Nat → Int32} (x : Int32) : KX3_value l D ca ad [.ref 0, .int 0, .int 3, .int x] (MW n vs wo un h bo ta tr ro ot Bm bk) (some (.int (vlM (Bm 0 3) x))) (MW n vs wo un h bo ta tr ro ot Bm bk) := by
  refine PX3_value (Nat.le_of_ble_eq_true rfl) ?_
  intro G hT hC hR
  refine mB hT 2 rfl ?_
  refine mIf (fun h1 => ?_) (fun h1 => ?_)
  · refine mB hT 9 rfl ?_
    exact hR _ (by decide) _ _ _ (congrArg (fun z => [Value.int z]) (if_pos h1).symm) rfl
  · refine mB hT 8 rfl ?_
    exact hR _ (by decide) _ _ _ (congrArg (fun z => [Value.int z]) (if_neg h1).symm) rfl
set_option maxRecDepth 20000 in
theorem m_value_1_0 {n vs : Int32} {wo un h : Int64} {bo : Nat → Int32} {ta tr ro ot : Nat → Int64} {Bm : Nat → Nat → Nat → Int32} {bk : Nat → Nat → Int32} (x : Int32) : KX3_value l D ca ad [.ref 0, .int 1, .int 0, .int x] (MW n vs wo un h bo ta tr ro ot Bm bk) (some (.int (vlM (Bm 1 0) x))) (MW n vs wo un h bo ta tr ro ot Bm bk) := by
  refine PX3_value (Nat.le_of_ble_eq_true rfl) ?_
  intro G hT hC hR
  refine mB hT 2 rfl ?_
  refine mIf (fun h1 => ?_) (fun h1 => ?_)
  · refine mB hT 9 rfl ?_
    exact hR _ (by decide) _ _ _ (congrArg (fun z => [Value.int z]) (if_pos h1).symm) rfl
  · refine mB hT 8 rfl ?_
    exact hR _ (by decide) _ _ _ (congrArg (fun z => [Value.int z]) (if_neg h1).symm) rfl
set_option maxRecDepth 20000 in
theorem m_value_1_1 {n vs : Int32} {wo un h : Int64} {bo : Nat → Int32} {ta tr ro ot : Nat → Int64} {Bm : Nat → Nat → Nat → Int32} {bk : Nat → Nat → Int32} (x : Int32) : KX3_value l D ca ad [.ref 0, .int 1, .int 1, .int x] (MW n vs wo un h bo ta tr ro ot Bm bk) (some (.int (vlM (Bm 1 1) x))) (MW n vs wo un h bo ta tr ro ot Bm bk) := by
  refine PX3_value (Nat.le_of_ble_eq_true rfl) ?_
  intro G hT hC hR
  refine mB hT 2 rfl ?_
  refine mIf (fun h1 => ?_) (fun h1 => ?_)
  · refine mB hT 9 rfl ?_
    exact hR _ (by decide) _ _ _ (congrArg (fun z => [Value.int z]) (if_pos h1).symm) rfl
  · refine mB hT 8 rfl ?_
    exact hR _ (by decide) _ _ _ (congrArg (fun z => [Value.int z]) (if_neg h1).symm) rfl
set_option maxRecDepth 20000 in
theorem m_value_1_2 {n vs : Int32} {wo un h : Int64} {bo : Nat → Int32} {ta tr ro ot : Nat → Int64} {Bm : Nat → Nat → Nat → Int32} {bk : Nat → Nat → Int32} (x : Int32) : KX3_value l D ca ad [.ref 0, .int 1, .int 2, .int x] (MW n vs wo un h bo ta tr ro ot Bm bk) (some (.int (vlM (Bm 1 2) x))) (MW n vs wo un h bo ta tr ro ot Bm bk) := by
  refine PX3_value (Nat.le_of_ble_eq_true rfl) ?_
  intro G hT hC hR
  refine mB hT 2 rfl ?_
  refine mIf (fun h1 => ?_) (fun h1 => ?_)
  · refine mB hT 9 rfl ?_
    exact hR _ (by decide) _ _ _ (congrArg (fun z => [Value.int z]) (if_pos h1).symm) rfl
  · refine mB hT 8 rfl ?_
    exact hR _ (by decide) _ _ _ (congrArg (fun z => [Value.int z]) (if_neg h1).symm) rfl
set_option maxRecDepth 20000 in
theorem m_value_1_3 {n vs : Int32} {wo un h : Int64} {bo : Nat → Int32} {ta tr ro ot : Nat → Int64} {Bm : Nat → Nat → Nat → Int32} {bk : Nat → Nat → Int32} (x : Int32) : KX3_value l D ca ad [.ref 0, .int 1, .int 3, .int x] (MW n vs wo un h bo ta tr ro ot Bm bk) (some (.int (vlM (Bm 1 3) x))) (MW n vs wo un h bo ta tr ro ot Bm bk) := by
  refine PX3_value (Nat.le_of_ble_eq_true rfl) ?_
  intro G hT hC hR
  refine mB hT 2 rfl ?_
  refine mIf (fun h1 => ?_) (fun h1 => ?_)
  · refine mB hT 9 rfl ?_
    exact hR _ (by decide) _ _ _ (congrArg (fun z => [Value.int z]) (if_pos h1).symm) rfl
  · refine mB hT 8 rfl ?_
    exact hR _ (by decide) _ _ _ (congrArg (fun z => [Value.int z]) (if_neg h1).symm) rfl
set_option maxRecDepth 20000 in
theorem m_value_2_0 {n vs : Int32} {wo un h : Int64} {bo : Nat → Int32} {ta tr ro ot : Nat → Int64} {Bm : Nat → Nat → Nat → Int32} {bk : Nat → Nat → Int32} (x : Int32) : KX3_value l D ca ad [.ref 0, .int 2, .int 0, .int x] (MW n vs wo un h bo ta tr ro ot Bm bk) (some (.int (vlM (Bm 2 0) x))) (MW n vs wo un h bo ta tr ro ot Bm bk) := by
  refine PX3_value (Nat.le_of_ble_eq_true rfl) ?_
  intro G hT hC hR
  refine mB hT 2 rfl ?_
  refine mIf (fun h1 => ?_) (fun h1 => ?_)
  · refine mB hT 9 rfl ?_
    exact hR _ (by decide) _ _ _ (congrArg (fun z => [Value.int z]) (if_pos h1).symm) rfl
  · refine mB hT 8 rfl ?_
    exact hR _ (by decide) _ _ _ (congrArg (fun z => [Value.int z]) (if_neg h1).symm) rfl
set_option maxRecDepth 20000 in
theorem m_value_2_1 {n vs : Int32} {wo un h : Int64} {bo : Nat → Int32} {ta tr ro ot : Nat → Int64} {Bm : Nat → Nat → Nat → Int32} {bk : Nat → Nat → Int32} (x : Int32) : KX3_value l D ca ad [.ref 0, .int 2, .int 1, .int x] (MW n vs wo un h bo ta tr ro ot Bm bk) (some (.int (vlM (Bm 2 1) x))) (MW n vs wo un h bo ta tr ro ot Bm bk) := by
  refine PX3_value (Nat.le_of_ble_eq_true rfl) ?_
  intro G hT hC hR
  refine mB hT 2 rfl ?_
  refine mIf (fun h1 => ?_) (fun h1 => ?_)
  · refine mB hT 9 rfl ?_
    exact hR _ (by decide) _ _ _ (congrArg (fun z => [Value.int z]) (if_pos h1).symm) rfl
  · refine mB hT 8 rfl ?_
    exact hR _ (by decide) _ _ _ (congrArg (fun z => [Value.int z]) (if_neg h1).symm) rfl
set_option maxRecDepth 20000 in
theorem m_value_2_2 {n vs : Int32} {wo un h : Int64} {bo : Nat → Int32} {ta tr ro ot : Nat → Int64} {Bm : Nat → Nat → Nat → Int32} {bk : Nat → Nat → Int32} (x : Int32) : KX3_value l D ca ad [.ref 0, .int 2, .int 2, .int x] (MW n vs wo un h bo ta tr ro ot Bm bk) (some (.int (vlM (Bm 2 2) x))) (MW n vs wo un h bo ta tr ro ot Bm bk) := by
  refine PX3_value (Nat.le_of_ble_eq_true rfl) ?_
  intro G hT hC hR
  refine mB hT 2 rfl ?_
  refine mIf (fun h1 => ?_) (fun h1 => ?_)
  · refine mB hT 9 rfl ?_
    exact hR _ (by decide) _ _ _ (congrArg (fun z => [Value.int z]) (if_pos h1).symm) rfl
  · refine mB hT 8 rfl ?_
    exact hR _ (by decide) _ _ _ (congrArg (fun z => [Value.int z]) (if_neg h1).symm) rfl
set_option maxRecDepth 20000 in
theorem m_value_2_3 {n vs : Int32} {wo un h : Int64} {bo : Nat → Int32} {ta tr ro ot : Nat → Int64} {Bm : Nat → Nat → Nat → Int32} {bk : Nat → Nat → Int32} (x : Int32) : KX3_value l D ca ad [.ref 0, .int 2, .int 3, .int x] (MW n vs wo un h bo ta tr ro ot Bm bk) (some (.int (vlM (Bm 2 3) x))) (MW n vs wo un h bo ta tr ro ot Bm bk) := by
  refine PX3_value (Nat.le_of_ble_eq_true rfl) ?_
  intro G hT hC hR
  refine mB hT 2 rfl ?_
  refine mIf (fun h1 => ?_) (fun h1 => ?_)
  · refine mB hT 9 rfl ?_
    exact hR _ (by decide) _ _ _ (congrArg (fun z => [Value.int z]) (if_pos h1).symm) rfl
  · refine mB hT 8 rfl ?_
    exact hR _ (by decide) _ _ _ (congrArg (fun z => [Value.int z]) (if_neg h1).symm) rfl
set_option maxRecDepth 20000 in
theorem m_value_3_0 {n vs : Int32} {wo un h : Int64} {bo : Nat → Int32} {ta tr ro ot : Nat → Int64} {Bm : Nat → Nat → Nat → Int32} {bk : Nat → Nat → Int32} (x : Int32) : KX3_value l D ca ad [.ref 0, .int 3, .int 0, .int x] (MW n vs wo un h bo ta tr ro ot Bm bk) (some (.int (vlM (Bm 3 0) x))) (MW n vs wo un h bo ta tr ro ot Bm bk) := by
  refine PX3_value (Nat.le_of_ble_eq_true rfl) ?_
  intro G hT hC hR
  refine mB hT 2 rfl ?_
  refine mIf (fun h1 => ?_) (fun h1 => ?_)
  · refine mB hT 9 rfl ?_
    exact hR _ (by decide) _ _ _ (congrArg (fun z => [Value.int z]) (if_pos h1).symm) rfl
  · refine mB hT 8 rfl ?_
    exact hR _ (by decide) _ _ _ (congrArg (fun z => [Value.int z]) (if_neg h1).symm) rfl
set_option maxRecDepth 20000 in
theorem m_value_3_1 {n vs : Int32} {wo un h : Int64} {bo : Nat → Int32} {ta tr ro ot : Nat → Int64} {Bm : Nat → Nat → Nat → Int32} {bk : Nat → Nat → Int32} (x : Int32) : KX3_value l D ca ad [.ref 0, .int 3, .int 1, .int x] (MW n vs wo un h bo ta tr ro ot Bm bk) (some (.int (vlM (Bm 3 1) x))) (MW n vs wo un h bo ta tr ro ot Bm bk) := by
  refine PX3_value (Nat.le_of_ble_eq_true rfl) ?_
  intro G hT hC hR
  refine mB hT 2 rfl ?_
  refine mIf (fun h1 => ?_) (fun h1 => ?_)
  · refine mB hT 9 rfl ?_
    exact hR _ (by decide) _ _ _ (congrArg (fun z => [Value.int z]) (if_pos h1).symm) rfl
  · refine mB hT 8 rfl ?_
    exact hR _ (by decide) _ _ _ (congrArg (fun z => [Value.int z]) (if_neg h1).symm) rfl
set_option maxRecDepth 20000 in
theorem m_value_3_2 {n vs : Int32} {wo un h : Int64} {bo : Nat → Int32} {ta tr ro ot : Nat → Int64} {Bm : Nat → Nat → Nat → Int32} {bk : Nat → Nat → Int32} (x : Int32) : KX3_value l D ca ad [.ref 0, .int 3, .int 2, .int x] (MW n vs wo un h bo ta tr ro ot Bm bk) (some (.int (vlM (Bm 3 2) x))) (MW n vs wo un h bo ta tr ro ot Bm bk) := by
  refine PX3_value (Nat.le_of_ble_eq_true rfl) ?_
  intro G hT hC hR
  refine mB hT 2 rfl ?_
  refine mIf (fun h1 => ?_) (fun h1 => ?_)
  · refine mB hT 9 rfl ?_
    exact hR _ (by decide) _ _ _ (congrArg (fun z => [Value.int z]) (if_pos h1).symm) rfl
  · refine mB hT 8 rfl ?_
    exact hR _ (by decide) _ _ _ (congrArg (fun z => [Value.int z]) (if_neg h1).symm) rfl
set_option maxRecDepth 20000 in
theorem m_value_3_3 {n vs : Int32} {wo un h : Int64} {bo : Nat → Int32} {ta tr ro ot : Nat → Int64} {Bm : Nat → Nat → Nat → Int32} {bk : Nat → Nat → Int32} (x : Int32) : KX3_value l D ca ad [.ref 0, .int 3, .int 3, .int x] (MW n vs wo un h bo ta tr ro ot Bm bk) (some (.int (vlM (Bm 3 3) x))) (MW n vs wo un h bo ta tr ro ot Bm bk) := by
  refine PX3_value (Nat.le_of_ble_eq_true rfl) ?_
  intro G hT hC hR
  refine mB hT 2 rfl ?_
  refine mIf (fun h1 => ?_) (fun h1 => ?_)
  · refine mB hT 9 rfl ?_
    exact hR _ (by decide) _ _ _ (congrArg (fun z => [Value.int z]) (if_pos h1).symm) rfl
  · refine mB hT 8 rfl ?_
    exact hR _ (by decide) _ _ _ (congrArg (fun z => [Value.int z]) (if_neg h1).symm) rfl
set_option maxRecDepth 20000 in
theorem m_value_4_0 {n vs : Int32} {wo un h : Int64} {bo : Nat → Int32} {ta tr ro ot : Nat → Int64} {Bm : Nat → Nat → Nat → Int32} {bk : Nat → Nat → Int32} (x : Int32) : KX3_value l D ca ad [.ref 0, .int 4, .int 0, .int x] (MW n vs wo un h bo ta tr ro ot Bm bk) (some (.int (vlM (Bm 4 0) x))) (MW n vs wo un h bo ta tr ro ot Bm bk) := by
  refine PX3_value (Nat.le_of_ble_eq_true rfl) ?_
  intro G hT hC hR
  refine mB hT 2 rfl ?_
  refine mIf (fun h1 => ?_) (fun h1 => ?_)
  · refine mB hT 9 rfl ?_
    exact hR _ (by decide) _ _ _ (congrArg (fun z => [Value.int z]) (if_pos h1).symm) rfl
  · refine mB hT 8 rfl ?_
    exact hR _ (by decide) _ _ _ (congrArg (fun z => [Value.int z]) (if_neg h1).symm) rfl
set_option maxRecDepth 20000 in
theorem m_value_4_1 {n vs : Int32} {wo un h : Int64} {bo : Nat → Int32} {ta tr ro ot : Nat → Int64} {Bm : Nat → Nat → Nat → Int32} {bk : Nat → Nat → Int32} (x : Int32) : KX3_value l D ca ad [.ref 0, .int 4, .int 1, .int x] (MW n vs wo un h bo ta tr ro ot Bm bk) (some (.int (vlM (Bm 4 1) x))) (MW n vs wo un h bo ta tr ro ot Bm bk) := by
  refine PX3_value (Nat.le_of_ble_eq_true rfl) ?_
  intro G hT hC hR
  refine mB hT 2 rfl ?_
  refine mIf (fun h1 => ?_) (fun h1 => ?_)
  · refine mB hT 9 rfl ?_
    exact hR _ (by decide) _ _ _ (congrArg (fun z => [Value.int z]) (if_pos h1).symm) rfl
  · refine mB hT 8 rfl ?_
    exact hR _ (by decide) _ _ _ (congrArg (fun z => [Value.int z]) (if_neg h1).symm) rfl
set_option maxRecDepth 20000 in
theorem m_value_4_2 {n vs : Int32} {wo un h : Int64} {bo : Nat → Int32} {ta tr ro ot : Nat → Int64} {Bm : Nat → Nat → Nat → Int32} {bk : Nat → Nat → Int32} (x : Int32) : KX3_value l D ca ad [.ref 0, .int 4, .int 2, .int x] (MW n vs wo un h bo ta tr ro ot Bm bk) (some (.int (vlM (Bm 4 2) x))) (MW n vs wo un h bo ta tr ro ot Bm bk) := by
  refine PX3_value (Nat.le_of_ble_eq_true rfl) ?_
  intro G hT hC hR
  refine mB hT 2 rfl ?_
  refine mIf (fun h1 => ?_) (fun h1 => ?_)
  · refine mB hT 9 rfl ?_
    exact hR _ (by decide) _ _ _ (congrArg (fun z => [Value.int z]) (if_pos h1).symm) rfl
  · refine mB hT 8 rfl ?_
    exact hR _ (by decide) _ _ _ (congrArg (fun z => [Value.int z]) (if_neg h1).symm) rfl
set_option maxRecDepth 20000 in
theorem m_value_4_3 {n vs : Int32} {wo un h : Int64} {bo : Nat → Int32} {ta tr ro ot : Nat → Int64} {Bm : Nat → Nat → Nat → Int32} {bk : Nat → Nat → Int32} (x : Int32) : KX3_value l D ca ad [.ref 0, .int 4, .int 3, .int x] (MW n vs wo un h bo ta tr ro ot Bm bk) (some (.int (vlM (Bm 4 3) x))) (MW n vs wo un h bo ta tr ro ot Bm bk) := by
  refine PX3_value (Nat.le_of_ble_eq_true rfl) ?_
  intro G hT hC hR
  refine mB hT 2 rfl ?_
  refine mIf (fun h1 => ?_) (fun h1 => ?_)
  · refine mB hT 9 rfl ?_
    exact hR _ (by decide) _ _ _ (congrArg (fun z => [Value.int z]) (if_pos h1).symm) rfl
  · refine mB hT 8 rfl ?_
    exact hR _ (by decide) _ _ _ (congrArg (fun z => [Value.int z]) (if_neg h1).symm) rfl
set_option maxRecDepth 20000 in
theorem m_value_5_0 {n vs : Int32} {wo un h : Int64} {bo : Nat → Int32} {ta tr ro ot : Nat → Int64} {Bm : Nat → Nat → Nat → Int32} {bk : Nat → Nat → Int32} (x : Int32) : KX3_value l D ca ad [.ref 0, .int 5, .int 0, .int x] (MW n vs wo un h bo ta tr ro ot Bm bk) (some (.int (vlM (Bm 5 0) x))) (MW n vs wo un h bo ta tr ro ot Bm bk) := by
  refine PX3_value (Nat.le_of_ble_eq_true rfl) ?_
  intro G hT hC hR
  refine mB hT 2 rfl ?_
  refine mIf (fun h1 => ?_) (fun h1 => ?_)
  · refine mB hT 9 rfl ?_
    exact hR _ (by decide) _ _ _ (congrArg (fun z => [Value.int z]) (if_pos h1).symm) rfl
  · refine mB hT 8 rfl ?_
    exact hR _ (by decide) _ _ _ (congrArg (fun z => [Value.int z]) (if_neg h1).symm) rfl
set_option maxRecDepth 20000 in
theorem m_value_5_1 {n vs : Int32} {wo un h : Int64} {bo : Nat → Int32} {ta tr ro ot : Nat → Int64} {Bm : Nat → Nat → Nat → Int32} {bk : Nat → Nat → Int32} (x : Int32) : KX3_value l D ca ad [.ref 0, .int 5, .int 1, .int x] (MW n vs wo un h bo ta tr ro ot Bm bk) (some (.int (vlM (Bm 5 1) x))) (MW n vs wo un h bo ta tr ro ot Bm bk) := by
  refine PX3_value (Nat.le_of_ble_eq_true rfl) ?_
  intro G hT hC hR
  refine mB hT 2 rfl ?_
  refine mIf (fun h1 => ?_) (fun h1 => ?_)
  · refine mB hT 9 rfl ?_
    exact hR _ (by decide) _ _ _ (congrArg (fun z => [Value.int z]) (if_pos h1).symm) rfl
  · refine mB hT 8 rfl ?_
    exact hR _ (by decide) _ _ _ (congrArg (fun z => [Value.int z]) (if_neg h1).symm) rfl
set_option maxRecDepth 20000 in
theorem m_value_5_2 {n vs : Int32} {wo un h : Int64} {bo : Nat → Int32} {ta tr ro ot : Nat → Int64} {Bm : Nat → Nat → Nat → Int32} {bk : Nat → Nat → Int32} (x : Int32) : KX3_value l D ca ad [.ref 0, .int 5, .int 2, .int x] (MW n vs wo un h bo ta tr ro ot Bm bk) (some (.int (vlM (Bm 5 2) x))) (MW n vs wo un h bo ta tr ro ot Bm bk) := by
  refine PX3_value (Nat.le_of_ble_eq_true rfl) ?_
  intro G hT hC hR
  refine mB hT 2 rfl ?_
  refine mIf (fun h1 => ?_) (fun h1 => ?_)
  · refine mB hT 9 rfl ?_
    exact hR _ (by decide) _ _ _ (congrArg (fun z => [Value.int z]) (if_pos h1).symm) rfl
  · refine mB hT 8 rfl ?_
    exact hR _ (by decide) _ _ _ (congrArg (fun z => [Value.int z]) (if_neg h1).symm) rfl
set_option maxRecDepth 20000 in
theorem m_value_5_3 {n vs : Int32} {wo un h : Int64} {bo : Nat → Int32} {ta tr ro ot : Nat → Int64} {Bm : Nat → Nat → Nat → Int32} {bk : Nat → Nat → Int32} (x : Int32) : KX3_value l D ca ad [.ref 0, .int 5, .int 3, .int x] (MW n vs wo un h bo ta tr ro ot Bm bk) (some (.int (vlM (Bm 5 3) x))) (MW n vs wo un h bo ta tr ro ot Bm bk) := by
  refine PX3_value (Nat.le_of_ble_eq_true rfl) ?_
  intro G hT hC hR
  refine mB hT 2 rfl ?_
  refine mIf (fun h1 => ?_) (fun h1 => ?_)
  · refine mB hT 9 rfl ?_
    exact hR _ (by decide) _ _ _ (congrArg (fun z => [Value.int z]) (if_pos h1).symm) rfl
  · refine mB hT 8 rfl ?_
    exact hR _ (by decide) _ _ _ (congrArg (fun z => [Value.int z]) (if_neg h1).symm) rfl
set_option maxRecDepth 20000 in
theorem m_value_6_0 {n vs : Int32} {wo un h : Int64} {bo : Nat → Int32} {ta tr ro ot : Nat → Int64} {Bm : Nat → Nat → Nat → Int32} {bk : Nat → Nat → Int32} (x : Int32) : KX3_value l D ca ad [.ref 0, .int 6, .int 0, .int x] (MW n vs wo un h bo ta tr ro ot Bm bk) (some (.int (vlM (Bm 6 0) x))) (MW n vs wo un h bo ta tr ro ot Bm bk) := by
  refine PX3_value (Nat.le_of_ble_eq_true rfl) ?_
  intro G hT hC hR
  refine mB hT 2 rfl ?_
  refine mIf (fun h1 => ?_) (fun h1 => ?_)
  · refine mB hT 9 rfl ?_
    exact hR _ (by decide) _ _ _ (congrArg (fun z => [Value.int z]) (if_pos h1).symm) rfl
  · refine mB hT 8 rfl ?_
    exact hR _ (by decide) _ _ _ (congrArg (fun z => [Value.int z]) (if_neg h1).symm) rfl
set_option maxRecDepth 20000 in
theorem m_value_6_1 {n vs : Int32} {wo un h : Int64} {bo : Nat → Int32} {ta tr ro ot : Nat → Int64} {Bm : Nat → Nat → Nat → Int32} {bk : Nat → Nat → Int32} (x : Int32) : KX3_value l D ca ad [.ref 0, .int 6, .int 1, .int x] (MW n vs wo un h bo ta tr ro ot Bm bk) (some (.int (vlM (Bm 6 1) x))) (MW n vs wo un h bo ta tr ro ot Bm bk) := by
  refine PX3_value (Nat.le_of_ble_eq_true rfl) ?_
  intro G hT hC hR
  refine mB hT 2 rfl ?_
  refine mIf (fun h1 => ?_) (fun h1 => ?_)
  · refine mB hT 9 rfl ?_
    exact hR _ (by decide) _ _ _ (congrArg (fun z => [Value.int z]) (if_pos h1).symm) rfl
  · refine mB hT 8 rfl ?_
    exact hR _ (by decide) _ _ _ (congrArg (fun z => [Value.int z]) (if_neg h1).symm) rfl
set_option maxRecDepth 20000 in
theorem m_value_6_2 {n vs : Int32} {wo un h : Int64} {bo : Nat → Int32} {ta tr ro ot : Nat → Int64} {Bm : Nat → Nat → Nat → Int32} {bk : Nat → Nat → Int32} (x : Int32) : KX3_value l D ca ad [.ref 0, .int 6, .int 2, .int x] (MW n vs wo un h bo ta tr ro ot Bm bk) (some (.int (vlM (Bm 6 2) x))) (MW n vs wo un h bo ta tr ro ot Bm bk) := by
  refine PX3_value (Nat.le_of_ble_eq_true rfl) ?_
  intro G hT hC hR
  refine mB hT 2 rfl ?_
  refine mIf (fun h1 => ?_) (fun h1 => ?_)
  · refine mB hT 9 rfl ?_
    exact hR _ (by decide) _ _ _ (congrArg (fun z => [Value.int z]) (if_pos h1).symm) rfl
  · refine mB hT 8 rfl ?_
    exact hR _ (by decide) _ _ _ (congrArg (fun z => [Value.int z]) (if_neg h1).symm) rfl
set_option maxRecDepth 20000 in
theorem m_value_6_3 {n vs : Int32} {wo un h : Int64} {bo : Nat → Int32} {ta tr ro ot : Nat → Int64} {Bm : Nat → Nat → Nat → Int32} {bk : Nat → Nat → Int32} (x : Int32) : KX3_value l D ca ad [.ref 0, .int 6, .int 3, .int x] (MW n vs wo un h bo ta tr ro ot Bm bk) (some (.int (vlM (Bm 6 3) x))) (MW n vs wo un h bo ta tr ro ot Bm bk) := by
  refine PX3_value (Nat.le_of_ble_eq_true rfl) ?_
  intro G hT hC hR
  refine mB hT 2 rfl ?_
  refine mIf (fun h1 => ?_) (fun h1 => ?_)
  · refine mB hT 9 rfl ?_
    exact hR _ (by decide) _ _ _ (congrArg (fun z => [Value.int z]) (if_pos h1).symm) rfl
  · refine mB hT 8 rfl ?_
    exact hR _ (by decide) _ _ _ (congrArg (fun z => [Value.int z]) (if_neg h1).symm) rfl
set_option maxRecDepth 20000 in
theorem m_main_0_0 {n vs : Int32} {wo un h : Int64} {bo : Nat → Int32} {ta tr ro ot : Nat → Int64} {Bm : Nat → Nat → Nat → Int32} {bk : Nat → Nat → Int32} : KX3_mainOf l D ca ad [.ref 0, .int 0, .int 0] (MW n vs wo un h bo ta tr ro ot Bm bk) (some (.int (mnM (Bm 0 0)))) (MW n vs wo un h bo ta tr ro ot Bm bk) := by
  refine PX3_mainOf (Nat.le_of_ble_eq_true rfl) ?_
  intro G hT hC hR
  refine mB hT 12 rfl ?_
  refine mIf (fun h1 => ?_) (fun h1 => ?_)
  · refine mB hT 2 rfl ?_
    exact hR _ (by decide) _ _ _ (congrArg (fun z => [Value.int z]) (if_pos h1).symm) rfl
  · refine mB hT 12 rfl ?_
    refine hC _ 0 [_, _, _] _ _ _ _ _ (m_value_0_0 _) rfl rfl (Nat.le_of_ble_eq_true rfl) rfl ?_
    refine mB hT 1 rfl ?_
    exact hR _ (by decide) _ _ _ (congrArg (fun z => [Value.int z]) (if_neg h1).symm) rfl
set_option maxRecDepth 20000 in
theorem m_all_0_0_0 {vs : Int32} {wo un h : Int64} {bo : Nat → Int32} {ta tr ro ot : Nat → Int64} {Bm : Nat → Nat → Nat → Int32} {bk : Nat → Nat → Int32} : KX3_allOf l D ca ad [.ref 0, .int 0, .int 0] (MW 0 vs wo un h bo ta tr ro ot Bm bk) (some (.int (alM 0 (Bm 0) 0))) (MW 0 vs wo un h bo ta tr ro ot Bm bk) := by
  refine PX3_allOf (Nat.le_of_ble_eq_true rfl) ?_
  intro G hT hC hR
  refine mB hT 12 rfl ?_
  refine hC.1 _ 0 [_, _] _ _ _ _ _ (m_main_0_0) rfl rfl (Nat.le_of_ble_eq_true rfl) rfl ?_
  refine mB hT 8 rfl ?_
  exact hR _ (by decide) _ _ _ (congrArg (fun z => [Value.int z]) (show _ = alM 0 _ _ by unfold alM; split <;> rfl)) rfl
set_option maxRecDepth 20000 in
theorem m_all_0_0_1 {vs : Int32} {wo un h : Int64} {bo : Nat → Int32} {ta tr ro ot : Nat → Int64} {Bm : Nat → Nat → Nat → Int32} {bk : Nat → Nat → Int32} : KX3_allOf l D ca ad [.ref 0, .int 0, .int 0] (MW 1 vs wo un h bo ta tr ro ot Bm bk) (some (.int (alM 1 (Bm 0) 0))) (MW 1 vs wo un h bo ta tr ro ot Bm bk) := by
  refine PX3_allOf (Nat.le_of_ble_eq_true rfl) ?_
  intro G hT hC hR
  refine mB hT 12 rfl ?_
  refine hC.1 _ 0 [_, _] _ _ _ _ _ (m_main_0_0) rfl rfl (Nat.le_of_ble_eq_true rfl) rfl ?_
  refine mB hT 10 rfl ?_
  refine mIf (fun h1 => ?_) (fun h1 => ?_)
  · refine mNf (lv2 := [(5, .int 0), (4, .int (mnM (Bm 0 0))), (3, .int (Bm 0 0 1)), (0, .ref 0), (1, .int 0), (2, .int 0)]) (st2 := []) rfl rfl ?_
    refine mB hT 1 rfl ?_
    exact hR _ (by decide) _ _ _ (congrArg (fun z => [Value.int z]) (if_pos h1).symm) rfl
  · refine mNf (lv2 := [(5, .int 0), (4, .int (mnM (Bm 0 0))), (3, .int (Bm 0 0 1)), (0, .ref 0), (1, .int 0), (2, .int 0)]) (st2 := []) rfl rfl ?_
    refine mB hT 17 rfl ?_
    refine hC.2 _ 0 [_, _, _] _ _ _ _ _ (m_value_0_0 _) rfl rfl (Nat.le_of_ble_eq_true rfl) rfl ?_
    refine mB hT 10 rfl ?_
    exact hR _ (by decide) _ _ _ (congrArg (fun z => [Value.int z]) (if_neg h1).symm) rfl
set_option maxRecDepth 20000 in
theorem m_all_0_0_2 {vs : Int32} {wo un h : Int64} {bo : Nat → Int32} {ta tr ro ot : Nat → Int64} {Bm : Nat → Nat → Nat → Int32} {bk : Nat → Nat → Int32} : KX3_allOf l D ca ad [.ref 0, .int 0, .int 0] (MW 2 vs wo un h bo ta tr ro ot Bm bk) (some (.int (alM 2 (Bm 0) 0))) (MW 2 vs wo un h bo ta tr ro ot Bm bk) := by
  refine PX3_allOf (Nat.le_of_ble_eq_true rfl) ?_
  intro G hT hC hR
  refine mB hT 12 rfl ?_
  refine hC.1 _ 0 [_, _] _ _ _ _ _ (m_main_0_0) rfl rfl (Nat.le_of_ble_eq_true rfl) rfl ?_
  refine mB hT 10 rfl ?_
  refine mIf (fun h1 => ?_) (fun h1 => ?_)
  · refine mNf (lv2 := [(5, .int 0), (4, .int (mnM (Bm 0 0))), (3, .int (Bm 0 0 1)), (0, .ref 0), (1, .int 0), (2, .int 0)]) (st2 := []) rfl rfl ?_
    refine mB hT 1 rfl ?_
    exact hR _ (by decide) _ _ _ (congrArg (fun z => [Value.int z]) (if_pos h1).symm) rfl
  · refine mNf (lv2 := [(5, .int 0), (4, .int (mnM (Bm 0 0))), (3, .int (Bm 0 0 1)), (0, .ref 0), (1, .int 0), (2, .int 0)]) (st2 := []) rfl rfl ?_
    refine mB hT 17 rfl ?_
    refine hC.2 _ 0 [_, _, _] _ _ _ _ _ (m_value_0_0 _) rfl rfl (Nat.le_of_ble_eq_true rfl) rfl ?_
    refine mB hT 12 rfl ?_
    refine mIf (fun hp => absurd hp h1) (fun _ => ?_)
    refine mNf (lv2 := [(5, .int 1), (4, .int ((mnM (Bm 0 0)) + ((Bm 0 0 8) * (vlM (Bm 0 0) (Bm 0 0 1))))), (3, .int (Bm 0 0 1)), (0, .ref 0), (1, .int 0), (2, .int 0)]) (st2 := []) rfl rfl ?_
    refine mB hT 17 rfl ?_
    refine hC.2 _ 0 [_, _, _] _ _ _ _ _ (m_value_0_1 _) rfl rfl (Nat.le_of_ble_eq_true rfl) rfl ?_
    refine mB hT 10 rfl ?_
    exact hR _ (by decide) _ _ _ (congrArg (fun z => [Value.int z]) (if_neg h1).symm) rfl
set_option maxRecDepth 20000 in
theorem m_all_0_0_3 {vs : Int32} {wo un h : Int64} {bo : Nat → Int32} {ta tr ro ot : Nat → Int64} {Bm : Nat → Nat → Nat → Int32} {bk : Nat → Nat → Int32} : KX3_allOf l D ca ad [.ref 0, .int 0, .int 0] (MW 3 vs wo un h bo ta tr ro ot Bm bk) (some (.int (alM 3 (Bm 0) 0))) (MW 3 vs wo un h bo ta tr ro ot Bm bk) := by
  refine PX3_allOf (Nat.le_of_ble_eq_true rfl) ?_
  intro G hT hC hR
  refine mB hT 12 rfl ?_
  refine hC.1 _ 0 [_, _] _ _ _ _ _ (m_main_0_0) rfl rfl (Nat.le_of_ble_eq_true rfl) rfl ?_
  refine mB hT 10 rfl ?_
  refine mIf (fun h1 => ?_) (fun h1 => ?_)
  · refine mNf (lv2 := [(5, .int 0), (4, .int (mnM (Bm 0 0))), (3, .int (Bm 0 0 1)), (0, .ref 0), (1, .int 0), (2, .int 0)]) (st2 := []) rfl rfl ?_
    refine mB hT 1 rfl ?_
    exact hR _ (by decide) _ _ _ (congrArg (fun z => [Value.int z]) (if_pos h1).symm) rfl
  · refine mNf (lv2 := [(5, .int 0), (4, .int (mnM (Bm 0 0))), (3, .int (Bm 0 0 1)), (0, .ref 0), (1, .int 0), (2, .int 0)]) (st2 := []) rfl rfl ?_
    refine mB hT 17 rfl ?_
    refine hC.2 _ 0 [_, _, _] _ _ _ _ _ (m_value_0_0 _) rfl rfl (Nat.le_of_ble_eq_true rfl) rfl ?_
    refine mB hT 12 rfl ?_
    refine mIf (fun hp => absurd hp h1) (fun _ => ?_)
    refine mNf (lv2 := [(5, .int 1), (4, .int ((mnM (Bm 0 0)) + ((Bm 0 0 8) * (vlM (Bm 0 0) (Bm 0 0 1))))), (3, .int (Bm 0 0 1)), (0, .ref 0), (1, .int 0), (2, .int 0)]) (st2 := []) rfl rfl ?_
    refine mB hT 17 rfl ?_
    refine hC.2 _ 0 [_, _, _] _ _ _ _ _ (m_value_0_1 _) rfl rfl (Nat.le_of_ble_eq_true rfl) rfl ?_
    refine mB hT 12 rfl ?_
    refine mIf (fun hp => absurd hp h1) (fun _ => ?_)
    refine mNf (lv2 := [(5, .int 2), (4, .int (((mnM (Bm 0 0)) + ((Bm 0 0 8) * (vlM (Bm 0 0) (Bm 0 0 1)))) + ((Bm 0 0 9) * (vlM (Bm 0 1) (Bm 0 0 1))))), (3, .int (Bm 0 0 1)), (0, .ref 0), (1, .int 0), (2, .int 0)]) (st2 := []) rfl rfl ?_
    refine mB hT 17 rfl ?_
    refine hC.2 _ 0 [_, _, _] _ _ _ _ _ (m_value_0_2 _) rfl rfl (Nat.le_of_ble_eq_true rfl) rfl ?_
    refine mB hT 10 rfl ?_
    exact hR _ (by decide) _ _ _ (congrArg (fun z => [Value.int z]) (if_neg h1).symm) rfl
set_option maxRecDepth 20000 in
theorem m_all_0_0_4 {vs : Int32} {wo un h : Int64} {bo : Nat → Int32} {ta tr ro ot : Nat → Int64} {Bm : Nat → Nat → Nat → Int32} {bk : Nat → Nat → Int32} : KX3_allOf l D ca ad [.ref 0, .int 0, .int 0] (MW 4 vs wo un h bo ta tr ro ot Bm bk) (some (.int (alM 4 (Bm 0) 0))) (MW 4 vs wo un h bo ta tr ro ot Bm bk) := by
  refine PX3_allOf (Nat.le_of_ble_eq_true rfl) ?_
  intro G hT hC hR
  refine mB hT 12 rfl ?_
  refine hC.1 _ 0 [_, _] _ _ _ _ _ (m_main_0_0) rfl rfl (Nat.le_of_ble_eq_true rfl) rfl ?_
  refine mB hT 10 rfl ?_
  refine mIf (fun h1 => ?_) (fun h1 => ?_)
  · refine mNf (lv2 := [(5, .int 0), (4, .int (mnM (Bm 0 0))), (3, .int (Bm 0 0 1)), (0, .ref 0), (1, .int 0), (2, .int 0)]) (st2 := []) rfl rfl ?_
    refine mB hT 1 rfl ?_
    exact hR _ (by decide) _ _ _ (congrArg (fun z => [Value.int z]) (if_pos h1).symm) rfl
  · refine mNf (lv2 := [(5, .int 0), (4, .int (mnM (Bm 0 0))), (3, .int (Bm 0 0 1)), (0, .ref 0), (1, .int 0), (2, .int 0)]) (st2 := []) rfl rfl ?_
    refine mB hT 17 rfl ?_
    refine hC.2 _ 0 [_, _, _] _ _ _ _ _ (m_value_0_0 _) rfl rfl (Nat.le_of_ble_eq_true rfl) rfl ?_
    refine mB hT 12 rfl ?_
    refine mIf (fun hp => absurd hp h1) (fun _ => ?_)
    refine mNf (lv2 := [(5, .int 1), (4, .int ((mnM (Bm 0 0)) + ((Bm 0 0 8) * (vlM (Bm 0 0) (Bm 0 0 1))))), (3, .int (Bm 0 0 1)), (0, .ref 0), (1, .int 0), (2, .int 0)]) (st2 := []) rfl rfl ?_
    refine mB hT 17 rfl ?_
    refine hC.2 _ 0 [_, _, _] _ _ _ _ _ (m_value_0_1 _) rfl rfl (Nat.le_of_ble_eq_true rfl) rfl ?_
    refine mB hT 12 rfl ?_
    refine mIf (fun hp => absurd hp h1) (fun _ => ?_)
    refine mNf (lv2 := [(5, .int 2), (4, .int (((mnM (Bm 0 0)) + ((Bm 0 0 8) * (vlM (Bm 0 0) (Bm 0 0 1)))) + ((Bm 0 0 9) * (vlM (Bm 0 1) (Bm 0 0 1))))), (3, .int (Bm 0 0 1)), (0, .ref 0), (1, .int 0), (2, .int 0)]) (st2 := []) rfl rfl ?_
    refine mB hT 17 rfl ?_
    refine hC.2 _ 0 [_, _, _] _ _ _ _ _ (m_value_0_2 _) rfl rfl (Nat.le_of_ble_eq_true rfl) rfl ?_
    refine mB hT 12 rfl ?_
    refine mIf (fun hp => absurd hp h1) (fun _ => ?_)
    refine mNf (lv2 := [(5, .int 3), (4, .int ((((mnM (Bm 0 0)) + ((Bm 0 0 8) * (vlM (Bm 0 0) (Bm 0 0 1)))) + ((Bm 0 0 9) * (vlM (Bm 0 1) (Bm 0 0 1)))) + ((Bm 0 0 10) * (vlM (Bm 0 2) (Bm 0 0 1))))), (3, .int (Bm 0 0 1)), (0, .ref 0), (1, .int 0), (2, .int 0)]) (st2 := []) rfl rfl ?_
    refine mB hT 17 rfl ?_
    refine hC.2 _ 0 [_, _, _] _ _ _ _ _ (m_value_0_3 _) rfl rfl (Nat.le_of_ble_eq_true rfl) rfl ?_
    refine mB hT 10 rfl ?_
    exact hR _ (by decide) _ _ _ (congrArg (fun z => [Value.int z]) (if_neg h1).symm) rfl
theorem m_all_0_0 {n vs : Nat} {wo un h : Int64} {bo : Nat → Int32} {ta tr ro ot : Nat → Int64} {Bm : Nat → Nat → Nat → Int32} {bk : Nat → Nat → Int32} (hn : n ≤ 4) : KX3_allOf l D ca ad [.ref 0, .int 0, .int 0] (MW (Int32.ofNat n) (Int32.ofNat vs) wo un h bo ta tr ro ot Bm bk) (some (.int (alM n (Bm 0) 0))) (MW (Int32.ofNat n) (Int32.ofNat vs) wo un h bo ta tr ro ot Bm bk) := by
  match n, hn with
  | 0, _ => exact m_all_0_0_0
  | 1, _ => exact m_all_0_0_1
  | 2, _ => exact m_all_0_0_2
  | 3, _ => exact m_all_0_0_3
  | 4, _ => exact m_all_0_0_4
set_option maxRecDepth 20000 in
theorem m_main_0_1 {n vs : Int32} {wo un h : Int64} {bo : Nat → Int32} {ta tr ro ot : Nat → Int64} {Bm : Nat → Nat → Nat → Int32} {bk : Nat → Nat → Int32} : KX3_mainOf l D ca ad [.ref 0, .int 0, .int 1] (MW n vs wo un h bo ta tr ro ot Bm bk) (some (.int (mnM (Bm 0 1)))) (MW n vs wo un h bo ta tr ro ot Bm bk) := by
  refine PX3_mainOf (Nat.le_of_ble_eq_true rfl) ?_
  intro G hT hC hR
  refine mB hT 12 rfl ?_
  refine mIf (fun h1 => ?_) (fun h1 => ?_)
  · refine mB hT 2 rfl ?_
    exact hR _ (by decide) _ _ _ (congrArg (fun z => [Value.int z]) (if_pos h1).symm) rfl
  · refine mB hT 12 rfl ?_
    refine hC _ 0 [_, _, _] _ _ _ _ _ (m_value_0_1 _) rfl rfl (Nat.le_of_ble_eq_true rfl) rfl ?_
    refine mB hT 1 rfl ?_
    exact hR _ (by decide) _ _ _ (congrArg (fun z => [Value.int z]) (if_neg h1).symm) rfl
set_option maxRecDepth 20000 in
theorem m_all_0_1_0 {vs : Int32} {wo un h : Int64} {bo : Nat → Int32} {ta tr ro ot : Nat → Int64} {Bm : Nat → Nat → Nat → Int32} {bk : Nat → Nat → Int32} : KX3_allOf l D ca ad [.ref 0, .int 0, .int 1] (MW 0 vs wo un h bo ta tr ro ot Bm bk) (some (.int (alM 0 (Bm 0) 1))) (MW 0 vs wo un h bo ta tr ro ot Bm bk) := by
  refine PX3_allOf (Nat.le_of_ble_eq_true rfl) ?_
  intro G hT hC hR
  refine mB hT 12 rfl ?_
  refine hC.1 _ 0 [_, _] _ _ _ _ _ (m_main_0_1) rfl rfl (Nat.le_of_ble_eq_true rfl) rfl ?_
  refine mB hT 8 rfl ?_
  exact hR _ (by decide) _ _ _ (congrArg (fun z => [Value.int z]) (show _ = alM 0 _ _ by unfold alM; split <;> rfl)) rfl
set_option maxRecDepth 20000 in
theorem m_all_0_1_1 {vs : Int32} {wo un h : Int64} {bo : Nat → Int32} {ta tr ro ot : Nat → Int64} {Bm : Nat → Nat → Nat → Int32} {bk : Nat → Nat → Int32} : KX3_allOf l D ca ad [.ref 0, .int 0, .int 1] (MW 1 vs wo un h bo ta tr ro ot Bm bk) (some (.int (alM 1 (Bm 0) 1))) (MW 1 vs wo un h bo ta tr ro ot Bm bk) := by
  refine PX3_allOf (Nat.le_of_ble_eq_true rfl) ?_
  intro G hT hC hR
  refine mB hT 12 rfl ?_
  refine hC.1 _ 0 [_, _] _ _ _ _ _ (m_main_0_1) rfl rfl (Nat.le_of_ble_eq_true rfl) rfl ?_
  refine mB hT 10 rfl ?_
  refine mIf (fun h1 => ?_) (fun h1 => ?_)
  · refine mNf (lv2 := [(5, .int 0), (4, .int (mnM (Bm 0 1))), (3, .int (Bm 0 1 1)), (0, .ref 0), (1, .int 0), (2, .int 1)]) (st2 := []) rfl rfl ?_
    refine mB hT 1 rfl ?_
    exact hR _ (by decide) _ _ _ (congrArg (fun z => [Value.int z]) (if_pos h1).symm) rfl
  · refine mNf (lv2 := [(5, .int 0), (4, .int (mnM (Bm 0 1))), (3, .int (Bm 0 1 1)), (0, .ref 0), (1, .int 0), (2, .int 1)]) (st2 := []) rfl rfl ?_
    refine mB hT 17 rfl ?_
    refine hC.2 _ 0 [_, _, _] _ _ _ _ _ (m_value_0_0 _) rfl rfl (Nat.le_of_ble_eq_true rfl) rfl ?_
    refine mB hT 10 rfl ?_
    exact hR _ (by decide) _ _ _ (congrArg (fun z => [Value.int z]) (if_neg h1).symm) rfl
set_option maxRecDepth 20000 in
theorem m_all_0_1_2 {vs : Int32} {wo un h : Int64} {bo : Nat → Int32} {ta tr ro ot : Nat → Int64} {Bm : Nat → Nat → Nat → Int32} {bk : Nat → Nat → Int32} : KX3_allOf l D ca ad [.ref 0, .int 0, .int 1] (MW 2 vs wo un h bo ta tr ro ot Bm bk) (some (.int (alM 2 (Bm 0) 1))) (MW 2 vs wo un h bo ta tr ro ot Bm bk) := by
  refine PX3_allOf (Nat.le_of_ble_eq_true rfl) ?_
  intro G hT hC hR
  refine mB hT 12 rfl ?_
  refine hC.1 _ 0 [_, _] _ _ _ _ _ (m_main_0_1) rfl rfl (Nat.le_of_ble_eq_true rfl) rfl ?_
  refine mB hT 10 rfl ?_
  refine mIf (fun h1 => ?_) (fun h1 => ?_)
  · refine mNf (lv2 := [(5, .int 0), (4, .int (mnM (Bm 0 1))), (3, .int (Bm 0 1 1)), (0, .ref 0), (1, .int 0), (2, .int 1)]) (st2 := []) rfl rfl ?_
    refine mB hT 1 rfl ?_
    exact hR _ (by decide) _ _ _ (congrArg (fun z => [Value.int z]) (if_pos h1).symm) rfl
  · refine mNf (lv2 := [(5, .int 0), (4, .int (mnM (Bm 0 1))), (3, .int (Bm 0 1 1)), (0, .ref 0), (1, .int 0), (2, .int 1)]) (st2 := []) rfl rfl ?_
    refine mB hT 17 rfl ?_
    refine hC.2 _ 0 [_, _, _] _ _ _ _ _ (m_value_0_0 _) rfl rfl (Nat.le_of_ble_eq_true rfl) rfl ?_
    refine mB hT 12 rfl ?_
    refine mIf (fun hp => absurd hp h1) (fun _ => ?_)
    refine mNf (lv2 := [(5, .int 1), (4, .int ((mnM (Bm 0 1)) + ((Bm 0 1 8) * (vlM (Bm 0 0) (Bm 0 1 1))))), (3, .int (Bm 0 1 1)), (0, .ref 0), (1, .int 0), (2, .int 1)]) (st2 := []) rfl rfl ?_
    refine mB hT 17 rfl ?_
    refine hC.2 _ 0 [_, _, _] _ _ _ _ _ (m_value_0_1 _) rfl rfl (Nat.le_of_ble_eq_true rfl) rfl ?_
    refine mB hT 10 rfl ?_
    exact hR _ (by decide) _ _ _ (congrArg (fun z => [Value.int z]) (if_neg h1).symm) rfl
set_option maxRecDepth 20000 in
theorem m_all_0_1_3 {vs : Int32} {wo un h : Int64} {bo : Nat → Int32} {ta tr ro ot : Nat → Int64} {Bm : Nat → Nat → Nat → Int32} {bk : Nat → Nat → Int32} : KX3_allOf l D ca ad [.ref 0, .int 0, .int 1] (MW 3 vs wo un h bo ta tr ro ot Bm bk) (some (.int (alM 3 (Bm 0) 1))) (MW 3 vs wo un h bo ta tr ro ot Bm bk) := by
  refine PX3_allOf (Nat.le_of_ble_eq_true rfl) ?_
  intro G hT hC hR
  refine mB hT 12 rfl ?_
  refine hC.1 _ 0 [_, _] _ _ _ _ _ (m_main_0_1) rfl rfl (Nat.le_of_ble_eq_true rfl) rfl ?_
  refine mB hT 10 rfl ?_
  refine mIf (fun h1 => ?_) (fun h1 => ?_)
  · refine mNf (lv2 := [(5, .int 0), (4, .int (mnM (Bm 0 1))), (3, .int (Bm 0 1 1)), (0, .ref 0), (1, .int 0), (2, .int 1)]) (st2 := []) rfl rfl ?_
    refine mB hT 1 rfl ?_
    exact hR _ (by decide) _ _ _ (congrArg (fun z => [Value.int z]) (if_pos h1).symm) rfl
  · refine mNf (lv2 := [(5, .int 0), (4, .int (mnM (Bm 0 1))), (3, .int (Bm 0 1 1)), (0, .ref 0), (1, .int 0), (2, .int 1)]) (st2 := []) rfl rfl ?_
    refine mB hT 17 rfl ?_
    refine hC.2 _ 0 [_, _, _] _ _ _ _ _ (m_value_0_0 _) rfl rfl (Nat.le_of_ble_eq_true rfl) rfl ?_
    refine mB hT 12 rfl ?_
    refine mIf (fun hp => absurd hp h1) (fun _ => ?_)
    refine mNf (lv2 := [(5, .int 1), (4, .int ((mnM (Bm 0 1)) + ((Bm 0 1 8) * (vlM (Bm 0 0) (Bm 0 1 1))))), (3, .int (Bm 0 1 1)), (0, .ref 0), (1, .int 0), (2, .int 1)]) (st2 := []) rfl rfl ?_
    refine mB hT 17 rfl ?_
    refine hC.2 _ 0 [_, _, _] _ _ _ _ _ (m_value_0_1 _) rfl rfl (Nat.le_of_ble_eq_true rfl) rfl ?_
    refine mB hT 12 rfl ?_
    refine mIf (fun hp => absurd hp h1) (fun _ => ?_)
    refine mNf (lv2 := [(5, .int 2), (4, .int (((mnM (Bm 0 1)) + ((Bm 0 1 8) * (vlM (Bm 0 0) (Bm 0 1 1)))) + ((Bm 0 1 9) * (vlM (Bm 0 1) (Bm 0 1 1))))), (3, .int (Bm 0 1 1)), (0, .ref 0), (1, .int 0), (2, .int 1)]) (st2 := []) rfl rfl ?_
    refine mB hT 17 rfl ?_
    refine hC.2 _ 0 [_, _, _] _ _ _ _ _ (m_value_0_2 _) rfl rfl (Nat.le_of_ble_eq_true rfl) rfl ?_
    refine mB hT 10 rfl ?_
    exact hR _ (by decide) _ _ _ (congrArg (fun z => [Value.int z]) (if_neg h1).symm) rfl
set_option maxRecDepth 20000 in
theorem m_all_0_1_4 {vs : Int32} {wo un h : Int64} {bo : Nat → Int32} {ta tr ro ot : Nat → Int64} {Bm : Nat → Nat → Nat → Int32} {bk : Nat → Nat → Int32} : KX3_allOf l D ca ad [.ref 0, .int 0, .int 1] (MW 4 vs wo un h bo ta tr ro ot Bm bk) (some (.int (alM 4 (Bm 0) 1))) (MW 4 vs wo un h bo ta tr ro ot Bm bk) := by
  refine PX3_allOf (Nat.le_of_ble_eq_true rfl) ?_
  intro G hT hC hR
  refine mB hT 12 rfl ?_
  refine hC.1 _ 0 [_, _] _ _ _ _ _ (m_main_0_1) rfl rfl (Nat.le_of_ble_eq_true rfl) rfl ?_
  refine mB hT 10 rfl ?_
  refine mIf (fun h1 => ?_) (fun h1 => ?_)
  · refine mNf (lv2 := [(5, .int 0), (4, .int (mnM (Bm 0 1))), (3, .int (Bm 0 1 1)), (0, .ref 0), (1, .int 0), (2, .int 1)]) (st2 := []) rfl rfl ?_
    refine mB hT 1 rfl ?_
    exact hR _ (by decide) _ _ _ (congrArg (fun z => [Value.int z]) (if_pos h1).symm) rfl
  · refine mNf (lv2 := [(5, .int 0), (4, .int (mnM (Bm 0 1))), (3, .int (Bm 0 1 1)), (0, .ref 0), (1, .int 0), (2, .int 1)]) (st2 := []) rfl rfl ?_
    refine mB hT 17 rfl ?_
    refine hC.2 _ 0 [_, _, _] _ _ _ _ _ (m_value_0_0 _) rfl rfl (Nat.le_of_ble_eq_true rfl) rfl ?_
    refine mB hT 12 rfl ?_
    refine mIf (fun hp => absurd hp h1) (fun _ => ?_)
    refine mNf (lv2 := [(5, .int 1), (4, .int ((mnM (Bm 0 1)) + ((Bm 0 1 8) * (vlM (Bm 0 0) (Bm 0 1 1))))), (3, .int (Bm 0 1 1)), (0, .ref 0), (1, .int 0), (2, .int 1)]) (st2 := []) rfl rfl ?_
    refine mB hT 17 rfl ?_
    refine hC.2 _ 0 [_, _, _] _ _ _ _ _ (m_value_0_1 _) rfl rfl (Nat.le_of_ble_eq_true rfl) rfl ?_
    refine mB hT 12 rfl ?_
    refine mIf (fun hp => absurd hp h1) (fun _ => ?_)
    refine mNf (lv2 := [(5, .int 2), (4, .int (((mnM (Bm 0 1)) + ((Bm 0 1 8) * (vlM (Bm 0 0) (Bm 0 1 1)))) + ((Bm 0 1 9) * (vlM (Bm 0 1) (Bm 0 1 1))))), (3, .int (Bm 0 1 1)), (0, .ref 0), (1, .int 0), (2, .int 1)]) (st2 := []) rfl rfl ?_
    refine mB hT 17 rfl ?_
    refine hC.2 _ 0 [_, _, _] _ _ _ _ _ (m_value_0_2 _) rfl rfl (Nat.le_of_ble_eq_true rfl) rfl ?_
    refine mB hT 12 rfl ?_
    refine mIf (fun hp => absurd hp h1) (fun _ => ?_)
    refine mNf (lv2 := [(5, .int 3), (4, .int ((((mnM (Bm 0 1)) + ((Bm 0 1 8) * (vlM (Bm 0 0) (Bm 0 1 1)))) + ((Bm 0 1 9) * (vlM (Bm 0 1) (Bm 0 1 1)))) + ((Bm 0 1 10) * (vlM (Bm 0 2) (Bm 0 1 1))))), (3, .int (Bm 0 1 1)), (0, .ref 0), (1, .int 0), (2, .int 1)]) (st2 := []) rfl rfl ?_
    refine mB hT 17 rfl ?_
    refine hC.2 _ 0 [_, _, _] _ _ _ _ _ (m_value_0_3 _) rfl rfl (Nat.le_of_ble_eq_true rfl) rfl ?_
    refine mB hT 10 rfl ?_
    exact hR _ (by decide) _ _ _ (congrArg (fun z => [Value.int z]) (if_neg h1).symm) rfl
theorem m_all_0_1 {n vs : Nat} {wo un h : Int64} {bo : Nat → Int32} {ta tr ro ot : Nat → Int64} {Bm : Nat → Nat → Nat → Int32} {bk : Nat → Nat → Int32} (hn : n ≤ 4) : KX3_allOf l D ca ad [.ref 0, .int 0, .int 1] (MW (Int32.ofNat n) (Int32.ofNat vs) wo un h bo ta tr ro ot Bm bk) (some (.int (alM n (Bm 0) 1))) (MW (Int32.ofNat n) (Int32.ofNat vs) wo un h bo ta tr ro ot Bm bk) := by
  match n, hn with
  | 0, _ => exact m_all_0_1_0
  | 1, _ => exact m_all_0_1_1
  | 2, _ => exact m_all_0_1_2
  | 3, _ => exact m_all_0_1_3
  | 4, _ => exact m_all_0_1_4
set_option maxRecDepth 20000 in
theorem m_main_0_2 {n vs : Int32} {wo un h : Int64} {bo : Nat → Int32} {ta tr ro ot : Nat → Int64} {Bm : Nat → Nat → Nat → Int32} {bk : Nat → Nat → Int32} : KX3_mainOf l D ca ad [.ref 0, .int 0, .int 2] (MW n vs wo un h bo ta tr ro ot Bm bk) (some (.int (mnM (Bm 0 2)))) (MW n vs wo un h bo ta tr ro ot Bm bk) := by
  refine PX3_mainOf (Nat.le_of_ble_eq_true rfl) ?_
  intro G hT hC hR
  refine mB hT 12 rfl ?_
  refine mIf (fun h1 => ?_) (fun h1 => ?_)
  · refine mB hT 2 rfl ?_
    exact hR _ (by decide) _ _ _ (congrArg (fun z => [Value.int z]) (if_pos h1).symm) rfl
  · refine mB hT 12 rfl ?_
    refine hC _ 0 [_, _, _] _ _ _ _ _ (m_value_0_2 _) rfl rfl (Nat.le_of_ble_eq_true rfl) rfl ?_
    refine mB hT 1 rfl ?_
    exact hR _ (by decide) _ _ _ (congrArg (fun z => [Value.int z]) (if_neg h1).symm) rfl
set_option maxRecDepth 20000 in
theorem m_all_0_2_0 {vs : Int32} {wo un h : Int64} {bo : Nat → Int32} {ta tr ro ot : Nat → Int64} {Bm : Nat → Nat → Nat → Int32} {bk : Nat → Nat → Int32} : KX3_allOf l D ca ad [.ref 0, .int 0, .int 2] (MW 0 vs wo un h bo ta tr ro ot Bm bk) (some (.int (alM 0 (Bm 0) 2))) (MW 0 vs wo un h bo ta tr ro ot Bm bk) := by
  refine PX3_allOf (Nat.le_of_ble_eq_true rfl) ?_
  intro G hT hC hR
  refine mB hT 12 rfl ?_
  refine hC.1 _ 0 [_, _] _ _ _ _ _ (m_main_0_2) rfl rfl (Nat.le_of_ble_eq_true rfl) rfl ?_
  refine mB hT 8 rfl ?_
  exact hR _ (by decide) _ _ _ (congrArg (fun z => [Value.int z]) (show _ = alM 0 _ _ by unfold alM; split <;> rfl)) rfl
set_option maxRecDepth 20000 in
theorem m_all_0_2_1 {vs : Int32} {wo un h : Int64} {bo : Nat → Int32} {ta tr ro ot : Nat → Int64} {Bm : Nat → Nat → Nat → Int32} {bk : Nat → Nat → Int32} : KX3_allOf l D ca ad [.ref 0, .int 0, .int 2] (MW 1 vs wo un h bo ta tr ro ot Bm bk) (some (.int (alM 1 (Bm 0) 2))) (MW 1 vs wo un h bo ta tr ro ot Bm bk) := by
  refine PX3_allOf (Nat.le_of_ble_eq_true rfl) ?_
  intro G hT hC hR
  refine mB hT 12 rfl ?_
  refine hC.1 _ 0 [_, _] _ _ _ _ _ (m_main_0_2) rfl rfl (Nat.le_of_ble_eq_true rfl) rfl ?_
  refine mB hT 10 rfl ?_
  refine mIf (fun h1 => ?_) (fun h1 => ?_)
  · refine mNf (lv2 := [(5, .int 0), (4, .int (mnM (Bm 0 2))), (3, .int (Bm 0 2 1)), (0, .ref 0), (1, .int 0), (2, .int 2)]) (st2 := []) rfl rfl ?_
    refine mB hT 1 rfl ?_
    exact hR _ (by decide) _ _ _ (congrArg (fun z => [Value.int z]) (if_pos h1).symm) rfl
  · refine mNf (lv2 := [(5, .int 0), (4, .int (mnM (Bm 0 2))), (3, .int (Bm 0 2 1)), (0, .ref 0), (1, .int 0), (2, .int 2)]) (st2 := []) rfl rfl ?_
    refine mB hT 17 rfl ?_
    refine hC.2 _ 0 [_, _, _] _ _ _ _ _ (m_value_0_0 _) rfl rfl (Nat.le_of_ble_eq_true rfl) rfl ?_
    refine mB hT 10 rfl ?_
    exact hR _ (by decide) _ _ _ (congrArg (fun z => [Value.int z]) (if_neg h1).symm) rfl
set_option maxRecDepth 20000 in
theorem m_all_0_2_2 {vs : Int32} {wo un h : Int64} {bo : Nat → Int32} {ta tr ro ot : Nat → Int64} {Bm : Nat → Nat → Nat → Int32} {bk : Nat → Nat → Int32} : KX3_allOf l D ca ad [.ref 0, .int 0, .int 2] (MW 2 vs wo un h bo ta tr ro ot Bm bk) (some (.int (alM 2 (Bm 0) 2))) (MW 2 vs wo un h bo ta tr ro ot Bm bk) := by
  refine PX3_allOf (Nat.le_of_ble_eq_true rfl) ?_
  intro G hT hC hR
  refine mB hT 12 rfl ?_
  refine hC.1 _ 0 [_, _] _ _ _ _ _ (m_main_0_2) rfl rfl (Nat.le_of_ble_eq_true rfl) rfl ?_
  refine mB hT 10 rfl ?_
  refine mIf (fun h1 => ?_) (fun h1 => ?_)
  · refine mNf (lv2 := [(5, .int 0), (4, .int (mnM (Bm 0 2))), (3, .int (Bm 0 2 1)), (0, .ref 0), (1, .int 0), (2, .int 2)]) (st2 := []) rfl rfl ?_
    refine mB hT 1 rfl ?_
    exact hR _ (by decide) _ _ _ (congrArg (fun z => [Value.int z]) (if_pos h1).symm) rfl
  · refine mNf (lv2 := [(5, .int 0), (4, .int (mnM (Bm 0 2))), (3, .int (Bm 0 2 1)), (0, .ref 0), (1, .int 0), (2, .int 2)]) (st2 := []) rfl rfl ?_
    refine mB hT 17 rfl ?_
    refine hC.2 _ 0 [_, _, _] _ _ _ _ _ (m_value_0_0 _) rfl rfl (Nat.le_of_ble_eq_true rfl) rfl ?_
    refine mB hT 12 rfl ?_
    refine mIf (fun hp => absurd hp h1) (fun _ => ?_)
    refine mNf (lv2 := [(5, .int 1), (4, .int ((mnM (Bm 0 2)) + ((Bm 0 2 8) * (vlM (Bm 0 0) (Bm 0 2 1))))), (3, .int (Bm 0 2 1)), (0, .ref 0), (1, .int 0), (2, .int 2)]) (st2 := []) rfl rfl ?_
    refine mB hT 17 rfl ?_
    refine hC.2 _ 0 [_, _, _] _ _ _ _ _ (m_value_0_1 _) rfl rfl (Nat.le_of_ble_eq_true rfl) rfl ?_
    refine mB hT 10 rfl ?_
    exact hR _ (by decide) _ _ _ (congrArg (fun z => [Value.int z]) (if_neg h1).symm) rfl
set_option maxRecDepth 20000 in
theorem m_all_0_2_3 {vs : Int32} {wo un h : Int64} {bo : Nat → Int32} {ta tr ro ot : Nat → Int64} {Bm : Nat → Nat → Nat → Int32} {bk : Nat → Nat → Int32} : KX3_allOf l D ca ad [.ref 0, .int 0, .int 2] (MW 3 vs wo un h bo ta tr ro ot Bm bk) (some (.int (alM 3 (Bm 0) 2))) (MW 3 vs wo un h bo ta tr ro ot Bm bk) := by
  refine PX3_allOf (Nat.le_of_ble_eq_true rfl) ?_
  intro G hT hC hR
  refine mB hT 12 rfl ?_
  refine hC.1 _ 0 [_, _] _ _ _ _ _ (m_main_0_2) rfl rfl (Nat.le_of_ble_eq_true rfl) rfl ?_
  refine mB hT 10 rfl ?_
  refine mIf (fun h1 => ?_) (fun h1 => ?_)
  · refine mNf (lv2 := [(5, .int 0), (4, .int (mnM (Bm 0 2))), (3, .int (Bm 0 2 1)), (0, .ref 0), (1, .int 0), (2, .int 2)]) (st2 := []) rfl rfl ?_
    refine mB hT 1 rfl ?_
    exact hR _ (by decide) _ _ _ (congrArg (fun z => [Value.int z]) (if_pos h1).symm) rfl
  · refine mNf (lv2 := [(5, .int 0), (4, .int (mnM (Bm 0 2))), (3, .int (Bm 0 2 1)), (0, .ref 0), (1, .int 0), (2, .int 2)]) (st2 := []) rfl rfl ?_
    refine mB hT 17 rfl ?_
    refine hC.2 _ 0 [_, _, _] _ _ _ _ _ (m_value_0_0 _) rfl rfl (Nat.le_of_ble_eq_true rfl) rfl ?_
    refine mB hT 12 rfl ?_
    refine mIf (fun hp => absurd hp h1) (fun _ => ?_)
    refine mNf (lv2 := [(5, .int 1), (4, .int ((mnM (Bm 0 2)) + ((Bm 0 2 8) * (vlM (Bm 0 0) (Bm 0 2 1))))), (3, .int (Bm 0 2 1)), (0, .ref 0), (1, .int 0), (2, .int 2)]) (st2 := []) rfl rfl ?_
    refine mB hT 17 rfl ?_
    refine hC.2 _ 0 [_, _, _] _ _ _ _ _ (m_value_0_1 _) rfl rfl (Nat.le_of_ble_eq_true rfl) rfl ?_
    refine mB hT 12 rfl ?_
    refine mIf (fun hp => absurd hp h1) (fun _ => ?_)
    refine mNf (lv2 := [(5, .int 2), (4, .int (((mnM (Bm 0 2)) + ((Bm 0 2 8) * (vlM (Bm 0 0) (Bm 0 2 1)))) + ((Bm 0 2 9) * (vlM (Bm 0 1) (Bm 0 2 1))))), (3, .int (Bm 0 2 1)), (0, .ref 0), (1, .int 0), (2, .int 2)]) (st2 := []) rfl rfl ?_
    refine mB hT 17 rfl ?_
    refine hC.2 _ 0 [_, _, _] _ _ _ _ _ (m_value_0_2 _) rfl rfl (Nat.le_of_ble_eq_true rfl) rfl ?_
    refine mB hT 10 rfl ?_
    exact hR _ (by decide) _ _ _ (congrArg (fun z => [Value.int z]) (if_neg h1).symm) rfl
set_option maxRecDepth 20000 in
theorem m_all_0_2_4 {vs : Int32} {wo un h : Int64} {bo : Nat → Int32} {ta tr ro ot : Nat → Int64} {Bm : Nat → Nat → Nat → Int32} {bk : Nat → Nat → Int32} : KX3_allOf l D ca ad [.ref 0, .int 0, .int 2] (MW 4 vs wo un h bo ta tr ro ot Bm bk) (some (.int (alM 4 (Bm 0) 2))) (MW 4 vs wo un h bo ta tr ro ot Bm bk) := by
  refine PX3_allOf (Nat.le_of_ble_eq_true rfl) ?_
  intro G hT hC hR
  refine mB hT 12 rfl ?_
  refine hC.1 _ 0 [_, _] _ _ _ _ _ (m_main_0_2) rfl rfl (Nat.le_of_ble_eq_true rfl) rfl ?_
  refine mB hT 10 rfl ?_
  refine mIf (fun h1 => ?_) (fun h1 => ?_)
  · refine mNf (lv2 := [(5, .int 0), (4, .int (mnM (Bm 0 2))), (3, .int (Bm 0 2 1)), (0, .ref 0), (1, .int 0), (2, .int 2)]) (st2 := []) rfl rfl ?_
    refine mB hT 1 rfl ?_
    exact hR _ (by decide) _ _ _ (congrArg (fun z => [Value.int z]) (if_pos h1).symm) rfl
  · refine mNf (lv2 := [(5, .int 0), (4, .int (mnM (Bm 0 2))), (3, .int (Bm 0 2 1)), (0, .ref 0), (1, .int 0), (2, .int 2)]) (st2 := []) rfl rfl ?_
    refine mB hT 17 rfl ?_
    refine hC.2 _ 0 [_, _, _] _ _ _ _ _ (m_value_0_0 _) rfl rfl (Nat.le_of_ble_eq_true rfl) rfl ?_
    refine mB hT 12 rfl ?_
    refine mIf (fun hp => absurd hp h1) (fun _ => ?_)
    refine mNf (lv2 := [(5, .int 1), (4, .int ((mnM (Bm 0 2)) + ((Bm 0 2 8) * (vlM (Bm 0 0) (Bm 0 2 1))))), (3, .int (Bm 0 2 1)), (0, .ref 0), (1, .int 0), (2, .int 2)]) (st2 := []) rfl rfl ?_
    refine mB hT 17 rfl ?_
    refine hC.2 _ 0 [_, _, _] _ _ _ _ _ (m_value_0_1 _) rfl rfl (Nat.le_of_ble_eq_true rfl) rfl ?_
    refine mB hT 12 rfl ?_
    refine mIf (fun hp => absurd hp h1) (fun _ => ?_)
    refine mNf (lv2 := [(5, .int 2), (4, .int (((mnM (Bm 0 2)) + ((Bm 0 2 8) * (vlM (Bm 0 0) (Bm 0 2 1)))) + ((Bm 0 2 9) * (vlM (Bm 0 1) (Bm 0 2 1))))), (3, .int (Bm 0 2 1)), (0, .ref 0), (1, .int 0), (2, .int 2)]) (st2 := []) rfl rfl ?_
    refine mB hT 17 rfl ?_
    refine hC.2 _ 0 [_, _, _] _ _ _ _ _ (m_value_0_2 _) rfl rfl (Nat.le_of_ble_eq_true rfl) rfl ?_
    refine mB hT 12 rfl ?_
    refine mIf (fun hp => absurd hp h1) (fun _ => ?_)
    refine mNf (lv2 := [(5, .int 3), (4, .int ((((mnM (Bm 0 2)) + ((Bm 0 2 8) * (vlM (Bm 0 0) (Bm 0 2 1)))) + ((Bm 0 2 9) * (vlM (Bm 0 1) (Bm 0 2 1)))) + ((Bm 0 2 10) * (vlM (Bm 0 2) (Bm 0 2 1))))), (3, .int (Bm 0 2 1)), (0, .ref 0), (1, .int 0), (2, .int 2)]) (st2 := []) rfl rfl ?_
    refine mB hT 17 rfl ?_
    refine hC.2 _ 0 [_, _, _] _ _ _ _ _ (m_value_0_3 _) rfl rfl (Nat.le_of_ble_eq_true rfl) rfl ?_
    refine mB hT 10 rfl ?_
    exact hR _ (by decide) _ _ _ (congrArg (fun z => [Value.int z]) (if_neg h1).symm) rfl
theorem m_all_0_2 {n vs : Nat} {wo un h : Int64} {bo : Nat → Int32} {ta tr ro ot : Nat → Int64} {Bm : Nat → Nat → Nat → Int32} {bk : Nat → Nat → Int32} (hn : n ≤ 4) : KX3_allOf l D ca ad [.ref 0, .int 0, .int 2] (MW (Int32.ofNat n) (Int32.ofNat vs) wo un h bo ta tr ro ot Bm bk) (some (.int (alM n (Bm 0) 2))) (MW (Int32.ofNat n) (Int32.ofNat vs) wo un h bo ta tr ro ot Bm bk) := by
  match n, hn with
  | 0, _ => exact m_all_0_2_0
  | 1, _ => exact m_all_0_2_1
  | 2, _ => exact m_all_0_2_2
  | 3, _ => exact m_all_0_2_3
  | 4, _ => exact m_all_0_2_4
set_option maxRecDepth 20000 in
theorem m_main_0_3 {n vs : Int32} {wo un h : Int64} {bo : Nat → Int32} {ta tr ro ot : Nat → Int64} {Bm : Nat → Nat → Nat → Int32} {bk : Nat → Nat → Int32} : KX3_mainOf l D ca ad [.ref 0, .int 0, .int 3] (MW n vs wo un h bo ta tr ro ot Bm bk) (some (.int (mnM (Bm 0 3)))) (MW n vs wo un h bo ta tr ro ot Bm bk) := by
  refine PX3_mainOf (Nat.le_of_ble_eq_true rfl) ?_
  intro G hT hC hR
  refine mB hT 12 rfl ?_
  refine mIf (fun h1 => ?_) (fun h1 => ?_)
  · refine mB hT 2 rfl ?_
    exact hR _ (by decide) _ _ _ (congrArg (fun z => [Value.int z]) (if_pos h1).symm) rfl
  · refine mB hT 12 rfl ?_
    refine hC _ 0 [_, _, _] _ _ _ _ _ (m_value_0_3 _) rfl rfl (Nat.le_of_ble_eq_true rfl) rfl ?_
    refine mB hT 1 rfl ?_
    exact hR _ (by decide) _ _ _ (congrArg (fun z => [Value.int z]) (if_neg h1).symm) rfl
set_option maxRecDepth 20000 in
theorem m_all_0_3_0 {vs : Int32} {wo un h : Int64} {bo : Nat → Int32} {ta tr ro ot : Nat → Int64} {Bm : Nat → Nat → Nat → Int32} {bk : Nat → Nat → Int32} : KX3_allOf l D ca ad [.ref 0, .int 0, .int 3] (MW 0 vs wo un h bo ta tr ro ot Bm bk) (some (.int (alM 0 (Bm 0) 3))) (MW 0 vs wo un h bo ta tr ro ot Bm bk) := by
  refine PX3_allOf (Nat.le_of_ble_eq_true rfl) ?_
  intro G hT hC hR
  refine mB hT 12 rfl ?_
  refine hC.1 _ 0 [_, _] _ _ _ _ _ (m_main_0_3) rfl rfl (Nat.le_of_ble_eq_true rfl) rfl ?_
  refine mB hT 8 rfl ?_
  exact hR _ (by decide) _ _ _ (congrArg (fun z => [Value.int z]) (show _ = alM 0 _ _ by unfold alM; split <;> rfl)) rfl
set_option maxRecDepth 20000 in
theorem m_all_0_3_1 {vs : Int32} {wo un h : Int64} {bo : Nat → Int32} {ta tr ro ot : Nat → Int64} {Bm : Nat → Nat → Nat → Int32} {bk : Nat → Nat → Int32} : KX3_allOf l D ca ad [.ref 0, .int 0, .int 3] (MW 1 vs wo un h bo ta tr ro ot Bm bk) (some (.int (alM 1 (Bm 0) 3))) (MW 1 vs wo un h bo ta tr ro ot Bm bk) := by
  refine PX3_allOf (Nat.le_of_ble_eq_true rfl) ?_
  intro G hT hC hR
  refine mB hT 12 rfl ?_
  refine hC.1 _ 0 [_, _] _ _ _ _ _ (m_main_0_3) rfl rfl (Nat.le_of_ble_eq_true rfl) rfl ?_
  refine mB hT 10 rfl ?_
  refine mIf (fun h1 => ?_) (fun h1 => ?_)
  · refine mNf (lv2 := [(5, .int 0), (4, .int (mnM (Bm 0 3))), (3, .int (Bm 0 3 1)), (0, .ref 0), (1, .int 0), (2, .int 3)]) (st2 := []) rfl rfl ?_
    refine mB hT 1 rfl ?_
    exact hR _ (by decide) _ _ _ (congrArg (fun z => [Value.int z]) (if_pos h1).symm) rfl
  · refine mNf (lv2 := [(5, .int 0), (4, .int (mnM (Bm 0 3))), (3, .int (Bm 0 3 1)), (0, .ref 0), (1, .int 0), (2, .int 3)]) (st2 := []) rfl rfl ?_
    refine mB hT 17 rfl ?_
    refine hC.2 _ 0 [_, _, _] _ _ _ _ _ (m_value_0_0 _) rfl rfl (Nat.le_of_ble_eq_true rfl) rfl ?_
    refine mB hT 10 rfl ?_
    exact hR _ (by decide) _ _ _ (congrArg (fun z => [Value.int z]) (if_neg h1).symm) rfl
set_option maxRecDepth 20000 in
theorem m_all_0_3_2 {vs : Int32} {wo un h : Int64} {bo : Nat → Int32} {ta tr ro ot : Nat → Int64} {Bm : Nat → Nat → Nat → Int32} {bk : Nat → Nat → Int32} : KX3_allOf l D ca ad [.ref 0, .int 0, .int 3] (MW 2 vs wo un h bo ta tr ro ot Bm bk) (some (.int (alM 2 (Bm 0) 3))) (MW 2 vs wo un h bo ta tr ro ot Bm bk) := by
  refine PX3_allOf (Nat.le_of_ble_eq_true rfl) ?_
  intro G hT hC hR
  refine mB hT 12 rfl ?_
  refine hC.1 _ 0 [_, _] _ _ _ _ _ (m_main_0_3) rfl rfl (Nat.le_of_ble_eq_true rfl) rfl ?_
  refine mB hT 10 rfl ?_
  refine mIf (fun h1 => ?_) (fun h1 => ?_)
  · refine mNf (lv2 := [(5, .int 0), (4, .int (mnM (Bm 0 3))), (3, .int (Bm 0 3 1)), (0, .ref 0), (1, .int 0), (2, .int 3)]) (st2 := []) rfl rfl ?_
    refine mB hT 1 rfl ?_
    exact hR _ (by decide) _ _ _ (congrArg (fun z => [Value.int z]) (if_pos h1).symm) rfl
  · refine mNf (lv2 := [(5, .int 0), (4, .int (mnM (Bm 0 3))), (3, .int (Bm 0 3 1)), (0, .ref 0), (1, .int 0), (2, .int 3)]) (st2 := []) rfl rfl ?_
    refine mB hT 17 rfl ?_
    refine hC.2 _ 0 [_, _, _] _ _ _ _ _ (m_value_0_0 _) rfl rfl (Nat.le_of_ble_eq_true rfl) rfl ?_
    refine mB hT 12 rfl ?_
    refine mIf (fun hp => absurd hp h1) (fun _ => ?_)
    refine mNf (lv2 := [(5, .int 1), (4, .int ((mnM (Bm 0 3)) + ((Bm 0 3 8) * (vlM (Bm 0 0) (Bm 0 3 1))))), (3, .int (Bm 0 3 1)), (0, .ref 0), (1, .int 0), (2, .int 3)]) (st2 := []) rfl rfl ?_
    refine mB hT 17 rfl ?_
    refine hC.2 _ 0 [_, _, _] _ _ _ _ _ (m_value_0_1 _) rfl rfl (Nat.le_of_ble_eq_true rfl) rfl ?_
    refine mB hT 10 rfl ?_
    exact hR _ (by decide) _ _ _ (congrArg (fun z => [Value.int z]) (if_neg h1).symm) rfl
set_option maxRecDepth 20000 in
theorem m_all_0_3_3 {vs : Int32} {wo un h : Int64} {bo : Nat → Int32} {ta tr ro ot : Nat → Int64} {Bm : Nat → Nat → Nat → Int32} {bk : Nat → Nat → Int32} : KX3_allOf l D ca ad [.ref 0, .int 0, .int 3] (MW 3 vs wo un h bo ta tr ro ot Bm bk) (some (.int (alM 3 (Bm 0) 3))) (MW 3 vs wo un h bo ta tr ro ot Bm bk) := by
  refine PX3_allOf (Nat.le_of_ble_eq_true rfl) ?_
  intro G hT hC hR
  refine mB hT 12 rfl ?_
  refine hC.1 _ 0 [_, _] _ _ _ _ _ (m_main_0_3) rfl rfl (Nat.le_of_ble_eq_true rfl) rfl ?_
  refine mB hT 10 rfl ?_
  refine mIf (fun h1 => ?_) (fun h1 => ?_)
  · refine mNf (lv2 := [(5, .int 0), (4, .int (mnM (Bm 0 3))), (3, .int (Bm 0 3 1)), (0, .ref 0), (1, .int 0), (2, .int 3)]) (st2 := []) rfl rfl ?_
    refine mB hT 1 rfl ?_
    exact hR _ (by decide) _ _ _ (congrArg (fun z => [Value.int z]) (if_pos h1).symm) rfl
  · refine mNf (lv2 := [(5, .int 0), (4, .int (mnM (Bm 0 3))), (3, .int (Bm 0 3 1)), (0, .ref 0), (1, .int 0), (2, .int 3)]) (st2 := []) rfl rfl ?_
    refine mB hT 17 rfl ?_
    refine hC.2 _ 0 [_, _, _] _ _ _ _ _ (m_value_0_0 _) rfl rfl (Nat.le_of_ble_eq_true rfl) rfl ?_
    refine mB hT 12 rfl ?_
    refine mIf (fun hp => absurd hp h1) (fun _ => ?_)
    refine mNf (lv2 := [(5, .int 1), (4, .int ((mnM (Bm 0 3)) + ((Bm 0 3 8) * (vlM (Bm 0 0) (Bm 0 3 1))))), (3, .int (Bm 0 3 1)), (0, .ref 0), (1, .int 0), (2, .int 3)]) (st2 := []) rfl rfl ?_
    refine mB hT 17 rfl ?_
    refine hC.2 _ 0 [_, _, _] _ _ _ _ _ (m_value_0_1 _) rfl rfl (Nat.le_of_ble_eq_true rfl) rfl ?_
    refine mB hT 12 rfl ?_
    refine mIf (fun hp => absurd hp h1) (fun _ => ?_)
    refine mNf (lv2 := [(5, .int 2), (4, .int (((mnM (Bm 0 3)) + ((Bm 0 3 8) * (vlM (Bm 0 0) (Bm 0 3 1)))) + ((Bm 0 3 9) * (vlM (Bm 0 1) (Bm 0 3 1))))), (3, .int (Bm 0 3 1)), (0, .ref 0), (1, .int 0), (2, .int 3)]) (st2 := []) rfl rfl ?_
    refine mB hT 17 rfl ?_
    refine hC.2 _ 0 [_, _, _] _ _ _ _ _ (m_value_0_2 _) rfl rfl (Nat.le_of_ble_eq_true rfl) rfl ?_
    refine mB hT 10 rfl ?_
    exact hR _ (by decide) _ _ _ (congrArg (fun z => [Value.int z]) (if_neg h1).symm) rfl
set_option maxRecDepth 20000 in
theorem m_all_0_3_4 {vs : Int32} {wo un h : Int64} {bo : Nat → Int32} {ta tr ro ot : Nat → Int64} {Bm : Nat → Nat → Nat → Int32} {bk : Nat → Nat → Int32} : KX3_allOf l D ca ad [.ref 0, .int 0, .int 3] (MW 4 vs wo un h bo ta tr ro ot Bm bk) (some (.int (alM 4 (Bm 0) 3))) (MW 4 vs wo un h bo ta tr ro ot Bm bk) := by
  refine PX3_allOf (Nat.le_of_ble_eq_true rfl) ?_
  intro G hT hC hR
  refine mB hT 12 rfl ?_
  refine hC.1 _ 0 [_, _] _ _ _ _ _ (m_main_0_3) rfl rfl (Nat.le_of_ble_eq_true rfl) rfl ?_
  refine mB hT 10 rfl ?_
  refine mIf (fun h1 => ?_) (fun h1 => ?_)
  · refine mNf (lv2 := [(5, .int 0), (4, .int (mnM (Bm 0 3))), (3, .int (Bm 0 3 1)), (0, .ref 0), (1, .int 0), (2, .int 3)]) (st2 := []) rfl rfl ?_
    refine mB hT 1 rfl ?_
    exact hR _ (by decide) _ _ _ (congrArg (fun z => [Value.int z]) (if_pos h1).symm) rfl
  · refine mNf (lv2 := [(5, .int 0), (4, .int (mnM (Bm 0 3))), (3, .int (Bm 0 3 1)), (0, .ref 0), (1, .int 0), (2, .int 3)]) (st2 := []) rfl rfl ?_
    refine mB hT 17 rfl ?_
    refine hC.2 _ 0 [_, _, _] _ _ _ _ _ (m_value_0_0 _) rfl rfl (Nat.le_of_ble_eq_true rfl) rfl ?_
    refine mB hT 12 rfl ?_
    refine mIf (fun hp => absurd hp h1) (fun _ => ?_)
    refine mNf (lv2 := [(5, .int 1), (4, .int ((mnM (Bm 0 3)) + ((Bm 0 3 8) * (vlM (Bm 0 0) (Bm 0 3 1))))), (3, .int (Bm 0 3 1)), (0, .ref 0), (1, .int 0), (2, .int 3)]) (st2 := []) rfl rfl ?_
    refine mB hT 17 rfl ?_
    refine hC.2 _ 0 [_, _, _] _ _ _ _ _ (m_value_0_1 _) rfl rfl (Nat.le_of_ble_eq_true rfl) rfl ?_
    refine mB hT 12 rfl ?_
    refine mIf (fun hp => absurd hp h1) (fun _ => ?_)
    refine mNf (lv2 := [(5, .int 2), (4, .int (((mnM (Bm 0 3)) + ((Bm 0 3 8) * (vlM (Bm 0 0) (Bm 0 3 1)))) + ((Bm 0 3 9) * (vlM (Bm 0 1) (Bm 0 3 1))))), (3, .int (Bm 0 3 1)), (0, .ref 0), (1, .int 0), (2, .int 3)]) (st2 := []) rfl rfl ?_
    refine mB hT 17 rfl ?_
    refine hC.2 _ 0 [_, _, _] _ _ _ _ _ (m_value_0_2 _) rfl rfl (Nat.le_of_ble_eq_true rfl) rfl ?_
    refine mB hT 12 rfl ?_
    refine mIf (fun hp => absurd hp h1) (fun _ => ?_)
    refine mNf (lv2 := [(5, .int 3), (4, .int ((((mnM (Bm 0 3)) + ((Bm 0 3 8) * (vlM (Bm 0 0) (Bm 0 3 1)))) + ((Bm 0 3 9) * (vlM (Bm 0 1) (Bm 0 3 1)))) + ((Bm 0 3 10) * (vlM (Bm 0 2) (Bm 0 3 1))))), (3, .int (Bm 0 3 1)), (0, .ref 0), (1, .int 0), (2, .int 3)]) (st2 := []) rfl rfl ?_
    refine mB hT 17 rfl ?_
    refine hC.2 _ 0 [_, _, _] _ _ _ _ _ (m_value_0_3 _) rfl rfl (Nat.le_of_ble_eq_true rfl) rfl ?_
    refine mB hT 10 rfl ?_
    exact hR _ (by decide) _ _ _ (congrArg (fun z => [Value.int z]) (if_neg h1).symm) rfl
theorem m_all_0_3 {n vs : Nat} {wo un h : Int64} {bo : Nat → Int32} {ta tr ro ot : Nat → Int64} {Bm : Nat → Nat → Nat → Int32} {bk : Nat → Nat → Int32} (hn : n ≤ 4) : KX3_allOf l D ca ad [.ref 0, .int 0, .int 3] (MW (Int32.ofNat n) (Int32.ofNat vs) wo un h bo ta tr ro ot Bm bk) (some (.int (alM n (Bm 0) 3))) (MW (Int32.ofNat n) (Int32.ofNat vs) wo un h bo ta tr ro ot Bm bk) := by
  match n, hn with
  | 0, _ => exact m_all_0_3_0
  | 1, _ => exact m_all_0_3_1
  | 2, _ => exact m_all_0_3_2
  | 3, _ => exact m_all_0_3_3
  | 4, _ => exact m_all_0_3_4
set_option maxRecDepth 20000 in
theorem m_main_1_0 {n vs : Int32} {wo un h : Int64} {bo : Nat → Int32} {ta tr ro ot : Nat → Int64} {Bm : Nat → Nat → Nat → Int32} {bk : Nat → Nat → Int32} : KX3_mainOf l D ca ad [.ref 0, .int 1, .int 0] (MW n vs wo un h bo ta tr ro ot Bm bk) (some (.int (mnM (Bm 1 0)))) (MW n vs wo un h bo ta tr ro ot Bm bk) := by
  refine PX3_mainOf (Nat.le_of_ble_eq_true rfl) ?_
  intro G hT hC hR
  refine mB hT 12 rfl ?_
  refine mIf (fun h1 => ?_) (fun h1 => ?_)
  · refine mB hT 2 rfl ?_
    exact hR _ (by decide) _ _ _ (congrArg (fun z => [Value.int z]) (if_pos h1).symm) rfl
  · refine mB hT 12 rfl ?_
    refine hC _ 0 [_, _, _] _ _ _ _ _ (m_value_1_0 _) rfl rfl (Nat.le_of_ble_eq_true rfl) rfl ?_
    refine mB hT 1 rfl ?_
    exact hR _ (by decide) _ _ _ (congrArg (fun z => [Value.int z]) (if_neg h1).symm) rfl
set_option maxRecDepth 20000 in
theorem m_all_1_0_0 {vs : Int32} {wo un h : Int64} {bo : Nat → Int32} {ta tr ro ot : Nat → Int64} {Bm : Nat → Nat → Nat → Int32} {bk : Nat → Nat → Int32} : KX3_allOf l D ca ad [.ref 0, .int 1, .int 0] (MW 0 vs wo un h bo ta tr ro ot Bm bk) (some (.int (alM 0 (Bm 1) 0))) (MW 0 vs wo un h bo ta tr ro ot Bm bk) := by
  refine PX3_allOf (Nat.le_of_ble_eq_true rfl) ?_
  intro G hT hC hR
  refine mB hT 12 rfl ?_
  refine hC.1 _ 0 [_, _] _ _ _ _ _ (m_main_1_0) rfl rfl (Nat.le_of_ble_eq_true rfl) rfl ?_
  refine mB hT 8 rfl ?_
  exact hR _ (by decide) _ _ _ (congrArg (fun z => [Value.int z]) (show _ = alM 0 _ _ by unfold alM; split <;> rfl)) rfl
set_option maxRecDepth 20000 in
theorem m_all_1_0_1 {vs : Int32} {wo un h : Int64} {bo : Nat → Int32} {ta tr ro ot : Nat → Int64} {Bm : Nat → Nat → Nat → Int32} {bk : Nat → Nat → Int32} : KX3_allOf l D ca ad [.ref 0, .int 1, .int 0] (MW 1 vs wo un h bo ta tr ro ot Bm bk) (some (.int (alM 1 (Bm 1) 0))) (MW 1 vs wo un h bo ta tr ro ot Bm bk) := by
  refine PX3_allOf (Nat.le_of_ble_eq_true rfl) ?_
  intro G hT hC hR
  refine mB hT 12 rfl ?_
  refine hC.1 _ 0 [_, _] _ _ _ _ _ (m_main_1_0) rfl rfl (Nat.le_of_ble_eq_true rfl) rfl ?_
  refine mB hT 10 rfl ?_
  refine mIf (fun h1 => ?_) (fun h1 => ?_)
  · refine mNf (lv2 := [(5, .int 0), (4, .int (mnM (Bm 1 0))), (3, .int (Bm 1 0 1)), (0, .ref 0), (1, .int 1), (2, .int 0)]) (st2 := []) rfl rfl ?_
    refine mB hT 1 rfl ?_
    exact hR _ (by decide) _ _ _ (congrArg (fun z => [Value.int z]) (if_pos h1).symm) rfl
  · refine mNf (lv2 := [(5, .int 0), (4, .int (mnM (Bm 1 0))), (3, .int (Bm 1 0 1)), (0, .ref 0), (1, .int 1), (2, .int 0)]) (st2 := []) rfl rfl ?_
    refine mB hT 17 rfl ?_
    refine hC.2 _ 0 [_, _, _] _ _ _ _ _ (m_value_1_0 _) rfl rfl (Nat.le_of_ble_eq_true rfl) rfl ?_
    refine mB hT 10 rfl ?_
    exact hR _ (by decide) _ _ _ (congrArg (fun z => [Value.int z]) (if_neg h1).symm) rfl
set_option maxRecDepth 20000 in
theorem m_all_1_0_2 {vs : Int32} {wo un h : Int64} {bo : Nat → Int32} {ta tr ro ot : Nat → Int64} {Bm : Nat → Nat → Nat → Int32} {bk : Nat → Nat → Int32} : KX3_allOf l D ca ad [.ref 0, .int 1, .int 0] (MW 2 vs wo un h bo ta tr ro ot Bm bk) (some (.int (alM 2 (Bm 1) 0))) (MW 2 vs wo un h bo ta tr ro ot Bm bk) := by
  refine PX3_allOf (Nat.le_of_ble_eq_true rfl) ?_
  intro G hT hC hR
  refine mB hT 12 rfl ?_
  refine hC.1 _ 0 [_, _] _ _ _ _ _ (m_main_1_0) rfl rfl (Nat.le_of_ble_eq_true rfl) rfl ?_
  refine mB hT 10 rfl ?_
  refine mIf (fun h1 => ?_) (fun h1 => ?_)
  · refine mNf (lv2 := [(5, .int 0), (4, .int (mnM (Bm 1 0))), (3, .int (Bm 1 0 1)), (0, .ref 0), (1, .int 1), (2, .int 0)]) (st2 := []) rfl rfl ?_
    refine mB hT 1 rfl ?_
    exact hR _ (by decide) _ _ _ (congrArg (fun z => [Value.int z]) (if_pos h1).symm) rfl
  · refine mNf (lv2 := [(5, .int 0), (4, .int (mnM (Bm 1 0))), (3, .int (Bm 1 0 1)), (0, .ref 0), (1, .int 1), (2, .int 0)]) (st2 := []) rfl rfl ?_
    refine mB hT 17 rfl ?_
    refine hC.2 _ 0 [_, _, _] _ _ _ _ _ (m_value_1_0 _) rfl rfl (Nat.le_of_ble_eq_true rfl) rfl ?_
    refine mB hT 12 rfl ?_
    refine mIf (fun hp => absurd hp h1) (fun _ => ?_)
    refine mNf (lv2 := [(5, .int 1), (4, .int ((mnM (Bm 1 0)) + ((Bm 1 0 8) * (vlM (Bm 1 0) (Bm 1 0 1))))), (3, .int (Bm 1 0 1)), (0, .ref 0), (1, .int 1), (2, .int 0)]) (st2 := []) rfl rfl ?_
    refine mB hT 17 rfl ?_
    refine hC.2 _ 0 [_, _, _] _ _ _ _ _ (m_value_1_1 _) rfl rfl (Nat.le_of_ble_eq_true rfl) rfl ?_
    refine mB hT 10 rfl ?_
    exact hR _ (by decide) _ _ _ (congrArg (fun z => [Value.int z]) (if_neg h1).symm) rfl
set_option maxRecDepth 20000 in
theorem m_all_1_0_3 {vs : Int32} {wo un h : Int64} {bo : Nat → Int32} {ta tr ro ot : Nat → Int64} {Bm : Nat → Nat → Nat → Int32} {bk : Nat → Nat → Int32} : KX3_allOf l D ca ad [.ref 0, .int 1, .int 0] (MW 3 vs wo un h bo ta tr ro ot Bm bk) (some (.int (alM 3 (Bm 1) 0))) (MW 3 vs wo un h bo ta tr ro ot Bm bk) := by
  refine PX3_allOf (Nat.le_of_ble_eq_true rfl) ?_
  intro G hT hC hR
  refine mB hT 12 rfl ?_
  refine hC.1 _ 0 [_, _] _ _ _ _ _ (m_main_1_0) rfl rfl (Nat.le_of_ble_eq_true rfl) rfl ?_
  refine mB hT 10 rfl ?_
  refine mIf (fun h1 => ?_) (fun h1 => ?_)
  · refine mNf (lv2 := [(5, .int 0), (4, .int (mnM (Bm 1 0))), (3, .int (Bm 1 0 1)), (0, .ref 0), (1, .int 1), (2, .int 0)]) (st2 := []) rfl rfl ?_
    refine mB hT 1 rfl ?_
    exact hR _ (by decide) _ _ _ (congrArg (fun z => [Value.int z]) (if_pos h1).symm) rfl
  · refine mNf (lv2 := [(5, .int 0), (4, .int (mnM (Bm 1 0))), (3, .int (Bm 1 0 1)), (0, .ref 0), (1, .int 1), (2, .int 0)]) (st2 := []) rfl rfl ?_
    refine mB hT 17 rfl ?_
    refine hC.2 _ 0 [_, _, _] _ _ _ _ _ (m_value_1_0 _) rfl rfl (Nat.le_of_ble_eq_true rfl) rfl ?_
    refine mB hT 12 rfl ?_
    refine mIf (fun hp => absurd hp h1) (fun _ => ?_)
    refine mNf (lv2 := [(5, .int 1), (4, .int ((mnM (Bm 1 0)) + ((Bm 1 0 8) * (vlM (Bm 1 0) (Bm 1 0 1))))), (3, .int (Bm 1 0 1)), (0, .ref 0), (1, .int 1), (2, .int 0)]) (st2 := []) rfl rfl ?_
    refine mB hT 17 rfl ?_
    refine hC.2 _ 0 [_, _, _] _ _ _ _ _ (m_value_1_1 _) rfl rfl (Nat.le_of_ble_eq_true rfl) rfl ?_
    refine mB hT 12 rfl ?_
    refine mIf (fun hp => absurd hp h1) (fun _ => ?_)
    refine mNf (lv2 := [(5, .int 2), (4, .int (((mnM (Bm 1 0)) + ((Bm 1 0 8) * (vlM (Bm 1 0) (Bm 1 0 1)))) + ((Bm 1 0 9) * (vlM (Bm 1 1) (Bm 1 0 1))))), (3, .int (Bm 1 0 1)), (0, .ref 0), (1, .int 1), (2, .int 0)]) (st2 := []) rfl rfl ?_
    refine mB hT 17 rfl ?_
    refine hC.2 _ 0 [_, _, _] _ _ _ _ _ (m_value_1_2 _) rfl rfl (Nat.le_of_ble_eq_true rfl) rfl ?_
    refine mB hT 10 rfl ?_
    exact hR _ (by decide) _ _ _ (congrArg (fun z => [Value.int z]) (if_neg h1).symm) rfl
set_option maxRecDepth 20000 in
theorem m_all_1_0_4 {vs : Int32} {wo un h : Int64} {bo : Nat → Int32} {ta tr ro ot : Nat → Int64} {Bm : Nat → Nat → Nat → Int32} {bk : Nat → Nat → Int32} : KX3_allOf l D ca ad [.ref 0, .int 1, .int 0] (MW 4 vs wo un h bo ta tr ro ot Bm bk) (some (.int (alM 4 (Bm 1) 0))) (MW 4 vs wo un h bo ta tr ro ot Bm bk) := by
  refine PX3_allOf (Nat.le_of_ble_eq_true rfl) ?_
  intro G hT hC hR
  refine mB hT 12 rfl ?_
  refine hC.1 _ 0 [_, _] _ _ _ _ _ (m_main_1_0) rfl rfl (Nat.le_of_ble_eq_true rfl) rfl ?_
  refine mB hT 10 rfl ?_
  refine mIf (fun h1 => ?_) (fun h1 => ?_)
  · refine mNf (lv2 := [(5, .int 0), (4, .int (mnM (Bm 1 0))), (3, .int (Bm 1 0 1)), (0, .ref 0), (1, .int 1), (2, .int 0)]) (st2 := []) rfl rfl ?_
    refine mB hT 1 rfl ?_
    exact hR _ (by decide) _ _ _ (congrArg (fun z => [Value.int z]) (if_pos h1).symm) rfl
  · refine mNf (lv2 := [(5, .int 0), (4, .int (mnM (Bm 1 0))), (3, .int (Bm 1 0 1)), (0, .ref 0), (1, .int 1), (2, .int 0)]) (st2 := []) rfl rfl ?_
    refine mB hT 17 rfl ?_
    refine hC.2 _ 0 [_, _, _] _ _ _ _ _ (m_value_1_0 _) rfl rfl (Nat.le_of_ble_eq_true rfl) rfl ?_
    refine mB hT 12 rfl ?_
    refine mIf (fun hp => absurd hp h1) (fun _ => ?_)
    refine mNf (lv2 := [(5, .int 1), (4, .int ((mnM (Bm 1 0)) + ((Bm 1 0 8) * (vlM (Bm 1 0) (Bm 1 0 1))))), (3, .int (Bm 1 0 1)), (0, .ref 0), (1, .int 1), (2, .int 0)]) (st2 := []) rfl rfl ?_
    refine mB hT 17 rfl ?_
    refine hC.2 _ 0 [_, _, _] _ _ _ _ _ (m_value_1_1 _) rfl rfl (Nat.le_of_ble_eq_true rfl) rfl ?_
    refine mB hT 12 rfl ?_
    refine mIf (fun hp => absurd hp h1) (fun _ => ?_)
    refine mNf (lv2 := [(5, .int 2), (4, .int (((mnM (Bm 1 0)) + ((Bm 1 0 8) * (vlM (Bm 1 0) (Bm 1 0 1)))) + ((Bm 1 0 9) * (vlM (Bm 1 1) (Bm 1 0 1))))), (3, .int (Bm 1 0 1)), (0, .ref 0), (1, .int 1), (2, .int 0)]) (st2 := []) rfl rfl ?_
    refine mB hT 17 rfl ?_
    refine hC.2 _ 0 [_, _, _] _ _ _ _ _ (m_value_1_2 _) rfl rfl (Nat.le_of_ble_eq_true rfl) rfl ?_
    refine mB hT 12 rfl ?_
    refine mIf (fun hp => absurd hp h1) (fun _ => ?_)
    refine mNf (lv2 := [(5, .int 3), (4, .int ((((mnM (Bm 1 0)) + ((Bm 1 0 8) * (vlM (Bm 1 0) (Bm 1 0 1)))) + ((Bm 1 0 9) * (vlM (Bm 1 1) (Bm 1 0 1)))) + ((Bm 1 0 10) * (vlM (Bm 1 2) (Bm 1 0 1))))), (3, .int (Bm 1 0 1)), (0, .ref 0), (1, .int 1), (2, .int 0)]) (st2 := []) rfl rfl ?_
    refine mB hT 17 rfl ?_
    refine hC.2 _ 0 [_, _, _] _ _ _ _ _ (m_value_1_3 _) rfl rfl (Nat.le_of_ble_eq_true rfl) rfl ?_
    refine mB hT 10 rfl ?_
    exact hR _ (by decide) _ _ _ (congrArg (fun z => [Value.int z]) (if_neg h1).symm) rfl
theorem m_all_1_0 {n vs : Nat} {wo un h : Int64} {bo : Nat → Int32} {ta tr ro ot : Nat → Int64} {Bm : Nat → Nat → Nat → Int32} {bk : Nat → Nat → Int32} (hn : n ≤ 4) : KX3_allOf l D ca ad [.ref 0, .int 1, .int 0] (MW (Int32.ofNat n) (Int32.ofNat vs) wo un h bo ta tr ro ot Bm bk) (some (.int (alM n (Bm 1) 0))) (MW (Int32.ofNat n) (Int32.ofNat vs) wo un h bo ta tr ro ot Bm bk) := by
  match n, hn with
  | 0, _ => exact m_all_1_0_0
  | 1, _ => exact m_all_1_0_1
  | 2, _ => exact m_all_1_0_2
  | 3, _ => exact m_all_1_0_3
  | 4, _ => exact m_all_1_0_4
set_option maxRecDepth 20000 in
theorem m_main_1_1 {n vs : Int32} {wo un h : Int64} {bo : Nat → Int32} {ta tr ro ot : Nat → Int64} {Bm : Nat → Nat → Nat → Int32} {bk : Nat → Nat → Int32} : KX3_mainOf l D ca ad [.ref 0, .int 1, .int 1] (MW n vs wo un h bo ta tr ro ot Bm bk) (some (.int (mnM (Bm 1 1)))) (MW n vs wo un h bo ta tr ro ot Bm bk) := by
  refine PX3_mainOf (Nat.le_of_ble_eq_true rfl) ?_
  intro G hT hC hR
  refine mB hT 12 rfl ?_
  refine mIf (fun h1 => ?_) (fun h1 => ?_)
  · refine mB hT 2 rfl ?_
    exact hR _ (by decide) _ _ _ (congrArg (fun z => [Value.int z]) (if_pos h1).symm) rfl
  · refine mB hT 12 rfl ?_
    refine hC _ 0 [_, _, _] _ _ _ _ _ (m_value_1_1 _) rfl rfl (Nat.le_of_ble_eq_true rfl) rfl ?_
    refine mB hT 1 rfl ?_
    exact hR _ (by decide) _ _ _ (congrArg (fun z => [Value.int z]) (if_neg h1).symm) rfl
set_option maxRecDepth 20000 in
theorem m_all_1_1_0 {vs : Int32} {wo un h : Int64} {bo : Nat → Int32} {ta tr ro ot : Nat → Int64} {Bm : Nat → Nat → Nat → Int32} {bk : Nat → Nat → Int32} : KX3_allOf l D ca ad [.ref 0, .int 1, .int 1] (MW 0 vs wo un h bo ta tr ro ot Bm bk) (some (.int (alM 0 (Bm 1) 1))) (MW 0 vs wo un h bo ta tr ro ot Bm bk) := by
  refine PX3_allOf (Nat.le_of_ble_eq_true rfl) ?_
  intro G hT hC hR
  refine mB hT 12 rfl ?_
  refine hC.1 _ 0 [_, _] _ _ _ _ _ (m_main_1_1) rfl rfl (Nat.le_of_ble_eq_true rfl) rfl ?_
  refine mB hT 8 rfl ?_
  exact hR _ (by decide) _ _ _ (congrArg (fun z => [Value.int z]) (show _ = alM 0 _ _ by unfold alM; split <;> rfl)) rfl
set_option maxRecDepth 20000 in
theorem m_all_1_1_1 {vs : Int32} {wo un h : Int64} {bo : Nat → Int32} {ta tr ro ot : Nat → Int64} {Bm : Nat → Nat → Nat → Int32} {bk : Nat → Nat → Int32} : KX3_allOf l D ca ad [.ref 0, .int 1, .int 1] (MW 1 vs wo un h bo ta tr ro ot Bm bk) (some (.int (alM 1 (Bm 1) 1))) (MW 1 vs wo un h bo ta tr ro ot Bm bk) := by
  refine PX3_allOf (Nat.le_of_ble_eq_true rfl) ?_
  intro G hT hC hR
  refine mB hT 12 rfl ?_
  refine hC.1 _ 0 [_, _] _ _ _ _ _ (m_main_1_1) rfl rfl (Nat.le_of_ble_eq_true rfl) rfl ?_
  refine mB hT 10 rfl ?_
  refine mIf (fun h1 => ?_) (fun h1 => ?_)
  · refine mNf (lv2 := [(5, .int 0), (4, .int (mnM (Bm 1 1))), (3, .int (Bm 1 1 1)), (0, .ref 0), (1, .int 1), (2, .int 1)]) (st2 := []) rfl rfl ?_
    refine mB hT 1 rfl ?_
    exact hR _ (by decide) _ _ _ (congrArg (fun z => [Value.int z]) (if_pos h1).symm) rfl
  · refine mNf (lv2 := [(5, .int 0), (4, .int (mnM (Bm 1 1))), (3, .int (Bm 1 1 1)), (0, .ref 0), (1, .int 1), (2, .int 1)]) (st2 := []) rfl rfl ?_
    refine mB hT 17 rfl ?_
    refine hC.2 _ 0 [_, _, _] _ _ _ _ _ (m_value_1_0 _) rfl rfl (Nat.le_of_ble_eq_true rfl) rfl ?_
    refine mB hT 10 rfl ?_
    exact hR _ (by decide) _ _ _ (congrArg (fun z => [Value.int z]) (if_neg h1).symm) rfl
set_option maxRecDepth 20000 in
theorem m_all_1_1_2 {vs : Int32} {wo un h : Int64} {bo : Nat → Int32} {ta tr ro ot : Nat → Int64} {Bm : Nat → Nat → Nat → Int32} {bk : Nat → Nat → Int32} : KX3_allOf l D ca ad [.ref 0, .int 1, .int 1] (MW 2 vs wo un h bo ta tr ro ot Bm bk) (some (.int (alM 2 (Bm 1) 1))) (MW 2 vs wo un h bo ta tr ro ot Bm bk) := by
  refine PX3_allOf (Nat.le_of_ble_eq_true rfl) ?_
  intro G hT hC hR
  refine mB hT 12 rfl ?_
  refine hC.1 _ 0 [_, _] _ _ _ _ _ (m_main_1_1) rfl rfl (Nat.le_of_ble_eq_true rfl) rfl ?_
  refine mB hT 10 rfl ?_
  refine mIf (fun h1 => ?_) (fun h1 => ?_)
  · refine mNf (lv2 := [(5, .int 0), (4, .int (mnM (Bm 1 1))), (3, .int (Bm 1 1 1)), (0, .ref 0), (1, .int 1), (2, .int 1)]) (st2 := []) rfl rfl ?_
    refine mB hT 1 rfl ?_
    exact hR _ (by decide) _ _ _ (congrArg (fun z => [Value.int z]) (if_pos h1).symm) rfl
  · refine mNf (lv2 := [(5, .int 0), (4, .int (mnM (Bm 1 1))), (3, .int (Bm 1 1 1)), (0, .ref 0), (1, .int 1), (2, .int 1)]) (st2 := []) rfl rfl ?_
    refine mB hT 17 rfl ?_
    refine hC.2 _ 0 [_, _, _] _ _ _ _ _ (m_value_1_0 _) rfl rfl (Nat.le_of_ble_eq_true rfl) rfl ?_
    refine mB hT 12 rfl ?_
    refine mIf (fun hp => absurd hp h1) (fun _ => ?_)
    refine mNf (lv2 := [(5, .int 1), (4, .int ((mnM (Bm 1 1)) + ((Bm 1 1 8) * (vlM (Bm 1 0) (Bm 1 1 1))))), (3, .int (Bm 1 1 1)), (0, .ref 0), (1, .int 1), (2, .int 1)]) (st2 := []) rfl rfl ?_
    refine mB hT 17 rfl ?_
    refine hC.2 _ 0 [_, _, _] _ _ _ _ _ (m_value_1_1 _) rfl rfl (Nat.le_of_ble_eq_true rfl) rfl ?_
    refine mB hT 10 rfl ?_
    exact hR _ (by decide) _ _ _ (congrArg (fun z => [Value.int z]) (if_neg h1).symm) rfl
set_option maxRecDepth 20000 in
theorem m_all_1_1_3 {vs : Int32} {wo un h : Int64} {bo : Nat → Int32} {ta tr ro ot : Nat → Int64} {Bm : Nat → Nat → Nat → Int32} {bk : Nat → Nat → Int32} : KX3_allOf l D ca ad [.ref 0, .int 1, .int 1] (MW 3 vs wo un h bo ta tr ro ot Bm bk) (some (.int (alM 3 (Bm 1) 1))) (MW 3 vs wo un h bo ta tr ro ot Bm bk) := by
  refine PX3_allOf (Nat.le_of_ble_eq_true rfl) ?_
  intro G hT hC hR
  refine mB hT 12 rfl ?_
  refine hC.1 _ 0 [_, _] _ _ _ _ _ (m_main_1_1) rfl rfl (Nat.le_of_ble_eq_true rfl) rfl ?_
  refine mB hT 10 rfl ?_
  refine mIf (fun h1 => ?_) (fun h1 => ?_)
  · refine mNf (lv2 := [(5, .int 0), (4, .int (mnM (Bm 1 1))), (3, .int (Bm 1 1 1)), (0, .ref 0), (1, .int 1), (2, .int 1)]) (st2 := []) rfl rfl ?_
    refine mB hT 1 rfl ?_
    exact hR _ (by decide) _ _ _ (congrArg (fun z => [Value.int z]) (if_pos h1).symm) rfl
  · refine mNf (lv2 := [(5, .int 0), (4, .int (mnM (Bm 1 1))), (3, .int (Bm 1 1 1)), (0, .ref 0), (1, .int 1), (2, .int 1)]) (st2 := []) rfl rfl ?_
    refine mB hT 17 rfl ?_
    refine hC.2 _ 0 [_, _, _] _ _ _ _ _ (m_value_1_0 _) rfl rfl (Nat.le_of_ble_eq_true rfl) rfl ?_
    refine mB hT 12 rfl ?_
    refine mIf (fun hp => absurd hp h1) (fun _ => ?_)
    refine mNf (lv2 := [(5, .int 1), (4, .int ((mnM (Bm 1 1)) + ((Bm 1 1 8) * (vlM (Bm 1 0) (Bm 1 1 1))))), (3, .int (Bm 1 1 1)), (0, .ref 0), (1, .int 1), (2, .int 1)]) (st2 := []) rfl rfl ?_
    refine mB hT 17 rfl ?_
    refine hC.2 _ 0 [_, _, _] _ _ _ _ _ (m_value_1_1 _) rfl rfl (Nat.le_of_ble_eq_true rfl) rfl ?_
    refine mB hT 12 rfl ?_
    refine mIf (fun hp => absurd hp h1) (fun _ => ?_)
    refine mNf (lv2 := [(5, .int 2), (4, .int (((mnM (Bm 1 1)) + ((Bm 1 1 8) * (vlM (Bm 1 0) (Bm 1 1 1)))) + ((Bm 1 1 9) * (vlM (Bm 1 1) (Bm 1 1 1))))), (3, .int (Bm 1 1 1)), (0, .ref 0), (1, .int 1), (2, .int 1)]) (st2 := []) rfl rfl ?_
    refine mB hT 17 rfl ?_
    refine hC.2 _ 0 [_, _, _] _ _ _ _ _ (m_value_1_2 _) rfl rfl (Nat.le_of_ble_eq_true rfl) rfl ?_
    refine mB hT 10 rfl ?_
    exact hR _ (by decide) _ _ _ (congrArg (fun z => [Value.int z]) (if_neg h1).symm) rfl
set_option maxRecDepth 20000 in
theorem m_all_1_1_4 {vs : Int32} {wo un h : Int64} {bo : Nat → Int32} {ta tr ro ot : Nat → Int64} {Bm : Nat → Nat → Nat → Int32} {bk : Nat → Nat → Int32} : KX3_allOf l D ca ad [.ref 0, .int 1, .int 1] (MW 4 vs wo un h bo ta tr ro ot Bm bk) (some (.int (alM 4 (Bm 1) 1))) (MW 4 vs wo un h bo ta tr ro ot Bm bk) := by
  refine PX3_allOf (Nat.le_of_ble_eq_true rfl) ?_
  intro G hT hC hR
  refine mB hT 12 rfl ?_
  refine hC.1 _ 0 [_, _] _ _ _ _ _ (m_main_1_1) rfl rfl (Nat.le_of_ble_eq_true rfl) rfl ?_
  refine mB hT 10 rfl ?_
  refine mIf (fun h1 => ?_) (fun h1 => ?_)
  · refine mNf (lv2 := [(5, .int 0), (4, .int (mnM (Bm 1 1))), (3, .int (Bm 1 1 1)), (0, .ref 0), (1, .int 1), (2, .int 1)]) (st2 := []) rfl rfl ?_
    refine mB hT 1 rfl ?_
    exact hR _ (by decide) _ _ _ (congrArg (fun z => [Value.int z]) (if_pos h1).symm) rfl
  · refine mNf (lv2 := [(5, .int 0), (4, .int (mnM (Bm 1 1))), (3, .int (Bm 1 1 1)), (0, .ref 0), (1, .int 1), (2, .int 1)]) (st2 := []) rfl rfl ?_
    refine mB hT 17 rfl ?_
    refine hC.2 _ 0 [_, _, _] _ _ _ _ _ (m_value_1_0 _) rfl rfl (Nat.le_of_ble_eq_true rfl) rfl ?_
    refine mB hT 12 rfl ?_
    refine mIf (fun hp => absurd hp h1) (fun _ => ?_)
    refine mNf (lv2 := [(5, .int 1), (4, .int ((mnM (Bm 1 1)) + ((Bm 1 1 8) * (vlM (Bm 1 0) (Bm 1 1 1))))), (3, .int (Bm 1 1 1)), (0, .ref 0), (1, .int 1), (2, .int 1)]) (st2 := []) rfl rfl ?_
    refine mB hT 17 rfl ?_
    refine hC.2 _ 0 [_, _, _] _ _ _ _ _ (m_value_1_1 _) rfl rfl (Nat.le_of_ble_eq_true rfl) rfl ?_
    refine mB hT 12 rfl ?_
    refine mIf (fun hp => absurd hp h1) (fun _ => ?_)
    refine mNf (lv2 := [(5, .int 2), (4, .int (((mnM (Bm 1 1)) + ((Bm 1 1 8) * (vlM (Bm 1 0) (Bm 1 1 1)))) + ((Bm 1 1 9) * (vlM (Bm 1 1) (Bm 1 1 1))))), (3, .int (Bm 1 1 1)), (0, .ref 0), (1, .int 1), (2, .int 1)]) (st2 := []) rfl rfl ?_
    refine mB hT 17 rfl ?_
    refine hC.2 _ 0 [_, _, _] _ _ _ _ _ (m_value_1_2 _) rfl rfl (Nat.le_of_ble_eq_true rfl) rfl ?_
    refine mB hT 12 rfl ?_
    refine mIf (fun hp => absurd hp h1) (fun _ => ?_)
    refine mNf (lv2 := [(5, .int 3), (4, .int ((((mnM (Bm 1 1)) + ((Bm 1 1 8) * (vlM (Bm 1 0) (Bm 1 1 1)))) + ((Bm 1 1 9) * (vlM (Bm 1 1) (Bm 1 1 1)))) + ((Bm 1 1 10) * (vlM (Bm 1 2) (Bm 1 1 1))))), (3, .int (Bm 1 1 1)), (0, .ref 0), (1, .int 1), (2, .int 1)]) (st2 := []) rfl rfl ?_
    refine mB hT 17 rfl ?_
    refine hC.2 _ 0 [_, _, _] _ _ _ _ _ (m_value_1_3 _) rfl rfl (Nat.le_of_ble_eq_true rfl) rfl ?_
    refine mB hT 10 rfl ?_
    exact hR _ (by decide) _ _ _ (congrArg (fun z => [Value.int z]) (if_neg h1).symm) rfl
theorem m_all_1_1 {n vs : Nat} {wo un h : Int64} {bo : Nat → Int32} {ta tr ro ot : Nat → Int64} {Bm : Nat → Nat → Nat → Int32} {bk : Nat → Nat → Int32} (hn : n ≤ 4) : KX3_allOf l D ca ad [.ref 0, .int 1, .int 1] (MW (Int32.ofNat n) (Int32.ofNat vs) wo un h bo ta tr ro ot Bm bk) (some (.int (alM n (Bm 1) 1))) (MW (Int32.ofNat n) (Int32.ofNat vs) wo un h bo ta tr ro ot Bm bk) := by
  match n, hn with
  | 0, _ => exact m_all_1_1_0
  | 1, _ => exact m_all_1_1_1
  | 2, _ => exact m_all_1_1_2
  | 3, _ => exact m_all_1_1_3
  | 4, _ => exact m_all_1_1_4
set_option maxRecDepth 20000 in
theorem m_main_1_2 {n vs : Int32} {wo un h : Int64} {bo : Nat → Int32} {ta tr ro ot : Nat → Int64} {Bm : Nat → Nat → Nat → Int32} {bk : Nat → Nat → Int32} : KX3_mainOf l D ca ad [.ref 0, .int 1, .int 2] (MW n vs wo un h bo ta tr ro ot Bm bk) (some (.int (mnM (Bm 1 2)))) (MW n vs wo un h bo ta tr ro ot Bm bk) := by
  refine PX3_mainOf (Nat.le_of_ble_eq_true rfl) ?_
  intro G hT hC hR
  refine mB hT 12 rfl ?_
  refine mIf (fun h1 => ?_) (fun h1 => ?_)
  · refine mB hT 2 rfl ?_
    exact hR _ (by decide) _ _ _ (congrArg (fun z => [Value.int z]) (if_pos h1).symm) rfl
  · refine mB hT 12 rfl ?_
    refine hC _ 0 [_, _, _] _ _ _ _ _ (m_value_1_2 _) rfl rfl (Nat.le_of_ble_eq_true rfl) rfl ?_
    refine mB hT 1 rfl ?_
    exact hR _ (by decide) _ _ _ (congrArg (fun z => [Value.int z]) (if_neg h1).symm) rfl
set_option maxRecDepth 20000 in
theorem m_all_1_2_0 {vs : Int32} {wo un h : Int64} {bo : Nat → Int32} {ta tr ro ot : Nat → Int64} {Bm : Nat → Nat → Nat → Int32} {bk : Nat → Nat → Int32} : KX3_allOf l D ca ad [.ref 0, .int 1, .int 2] (MW 0 vs wo un h bo ta tr ro ot Bm bk) (some (.int (alM 0 (Bm 1) 2))) (MW 0 vs wo un h bo ta tr ro ot Bm bk) := by
  refine PX3_allOf (Nat.le_of_ble_eq_true rfl) ?_
  intro G hT hC hR
  refine mB hT 12 rfl ?_
  refine hC.1 _ 0 [_, _] _ _ _ _ _ (m_main_1_2) rfl rfl (Nat.le_of_ble_eq_true rfl) rfl ?_
  refine mB hT 8 rfl ?_
  exact hR _ (by decide) _ _ _ (congrArg (fun z => [Value.int z]) (show _ = alM 0 _ _ by unfold alM; split <;> rfl)) rfl
set_option maxRecDepth 20000 in
theorem m_all_1_2_1 {vs : Int32} {wo un h : Int64} {bo : Nat → Int32} {ta tr ro ot : Nat → Int64} {Bm : Nat → Nat → Nat → Int32} {bk : Nat → Nat → Int32} : KX3_allOf l D ca ad [.ref 0, .int 1, .int 2] (MW 1 vs wo un h bo ta tr ro ot Bm bk) (some (.int (alM 1 (Bm 1) 2))) (MW 1 vs wo un h bo ta tr ro ot Bm bk) := by
  refine PX3_allOf (Nat.le_of_ble_eq_true rfl) ?_
  intro G hT hC hR
  refine mB hT 12 rfl ?_
  refine hC.1 _ 0 [_, _] _ _ _ _ _ (m_main_1_2) rfl rfl (Nat.le_of_ble_eq_true rfl) rfl ?_
  refine mB hT 10 rfl ?_
  refine mIf (fun h1 => ?_) (fun h1 => ?_)
  · refine mNf (lv2 := [(5, .int 0), (4, .int (mnM (Bm 1 2))), (3, .int (Bm 1 2 1)), (0, .ref 0), (1, .int 1), (2, .int 2)]) (st2 := []) rfl rfl ?_
    refine mB hT 1 rfl ?_
    exact hR _ (by decide) _ _ _ (congrArg (fun z => [Value.int z]) (if_pos h1).symm) rfl
  · refine mNf (lv2 := [(5, .int 0), (4, .int (mnM (Bm 1 2))), (3, .int (Bm 1 2 1)), (0, .ref 0), (1, .int 1), (2, .int 2)]) (st2 := []) rfl rfl ?_
    refine mB hT 17 rfl ?_
    refine hC.2 _ 0 [_, _, _] _ _ _ _ _ (m_value_1_0 _) rfl rfl (Nat.le_of_ble_eq_true rfl) rfl ?_
    refine mB hT 10 rfl ?_
    exact hR _ (by decide) _ _ _ (congrArg (fun z => [Value.int z]) (if_neg h1).symm) rfl
set_option maxRecDepth 20000 in
theorem m_all_1_2_2 {vs : Int32} {wo un h : Int64} {bo : Nat → Int32} {ta tr ro ot : Nat → Int64} {Bm : Nat → Nat → Nat → Int32} {bk : Nat → Nat → Int32} : KX3_allOf l D ca ad [.ref 0, .int 1, .int 2] (MW 2 vs wo un h bo ta tr ro ot Bm bk) (some (.int (alM 2 (Bm 1) 2))) (MW 2 vs wo un h bo ta tr ro ot Bm bk) := by
  refine PX3_allOf (Nat.le_of_ble_eq_true rfl) ?_
  intro G hT hC hR
  refine mB hT 12 rfl ?_
  refine hC.1 _ 0 [_, _] _ _ _ _ _ (m_main_1_2) rfl rfl (Nat.le_of_ble_eq_true rfl) rfl ?_
  refine mB hT 10 rfl ?_
  refine mIf (fun h1 => ?_) (fun h1 => ?_)
  · refine mNf (lv2 := [(5, .int 0), (4, .int (mnM (Bm 1 2))), (3, .int (Bm 1 2 1)), (0, .ref 0), (1, .int 1), (2, .int 2)]) (st2 := []) rfl rfl ?_
    refine mB hT 1 rfl ?_
    exact hR _ (by decide) _ _ _ (congrArg (fun z => [Value.int z]) (if_pos h1).symm) rfl
  · refine mNf (lv2 := [(5, .int 0), (4, .int (mnM (Bm 1 2))), (3, .int (Bm 1 2 1)), (0, .ref 0), (1, .int 1), (2, .int 2)]) (st2 := []) rfl rfl ?_
    refine mB hT 17 rfl ?_
    refine hC.2 _ 0 [_, _, _] _ _ _ _ _ (m_value_1_0 _) rfl rfl (Nat.le_of_ble_eq_true rfl) rfl ?_
    refine mB hT 12 rfl ?_
    refine mIf (fun hp => absurd hp h1) (fun _ => ?_)
    refine mNf (lv2 := [(5, .int 1), (4, .int ((mnM (Bm 1 2)) + ((Bm 1 2 8) * (vlM (Bm 1 0) (Bm 1 2 1))))), (3, .int (Bm 1 2 1)), (0, .ref 0), (1, .int 1), (2, .int 2)]) (st2 := []) rfl rfl ?_
    refine mB hT 17 rfl ?_
    refine hC.2 _ 0 [_, _, _] _ _ _ _ _ (m_value_1_1 _) rfl rfl (Nat.le_of_ble_eq_true rfl) rfl ?_
    refine mB hT 10 rfl ?_
    exact hR _ (by decide) _ _ _ (congrArg (fun z => [Value.int z]) (if_neg h1).symm) rfl
set_option maxRecDepth 20000 in
theorem m_all_1_2_3 {vs : Int32} {wo un h : Int64} {bo : Nat → Int32} {ta tr ro ot : Nat → Int64} {Bm : Nat → Nat → Nat → Int32} {bk : Nat → Nat → Int32} : KX3_allOf l D ca ad [.ref 0, .int 1, .int 2] (MW 3 vs wo un h bo ta tr ro ot Bm bk) (some (.int (alM 3 (Bm 1) 2))) (MW 3 vs wo un h bo ta tr ro ot Bm bk) := by
  refine PX3_allOf (Nat.le_of_ble_eq_true rfl) ?_
  intro G hT hC hR
  refine mB hT 12 rfl ?_
  refine hC.1 _ 0 [_, _] _ _ _ _ _ (m_main_1_2) rfl rfl (Nat.le_of_ble_eq_true rfl) rfl ?_
  refine mB hT 10 rfl ?_
  refine mIf (fun h1 => ?_) (fun h1 => ?_)
  · refine mNf (lv2 := [(5, .int 0), (4, .int (mnM (Bm 1 2))), (3, .int (Bm 1 2 1)), (0, .ref 0), (1, .int 1), (2, .int 2)]) (st2 := []) rfl rfl ?_
    refine mB hT 1 rfl ?_
    exact hR _ (by decide) _ _ _ (congrArg (fun z => [Value.int z]) (if_pos h1).symm) rfl
  · refine mNf (lv2 := [(5, .int 0), (4, .int (mnM (Bm 1 2))), (3, .int (Bm 1 2 1)), (0, .ref 0), (1, .int 1), (2, .int 2)]) (st2 := []) rfl rfl ?_
    refine mB hT 17 rfl ?_
    refine hC.2 _ 0 [_, _, _] _ _ _ _ _ (m_value_1_0 _) rfl rfl (Nat.le_of_ble_eq_true rfl) rfl ?_
    refine mB hT 12 rfl ?_
    refine mIf (fun hp => absurd hp h1) (fun _ => ?_)
    refine mNf (lv2 := [(5, .int 1), (4, .int ((mnM (Bm 1 2)) + ((Bm 1 2 8) * (vlM (Bm 1 0) (Bm 1 2 1))))), (3, .int (Bm 1 2 1)), (0, .ref 0), (1, .int 1), (2, .int 2)]) (st2 := []) rfl rfl ?_
    refine mB hT 17 rfl ?_
    refine hC.2 _ 0 [_, _, _] _ _ _ _ _ (m_value_1_1 _) rfl rfl (Nat.le_of_ble_eq_true rfl) rfl ?_
    refine mB hT 12 rfl ?_
    refine mIf (fun hp => absurd hp h1) (fun _ => ?_)
    refine mNf (lv2 := [(5, .int 2), (4, .int (((mnM (Bm 1 2)) + ((Bm 1 2 8) * (vlM (Bm 1 0) (Bm 1 2 1)))) + ((Bm 1 2 9) * (vlM (Bm 1 1) (Bm 1 2 1))))), (3, .int (Bm 1 2 1)), (0, .ref 0), (1, .int 1), (2, .int 2)]) (st2 := []) rfl rfl ?_
    refine mB hT 17 rfl ?_
    refine hC.2 _ 0 [_, _, _] _ _ _ _ _ (m_value_1_2 _) rfl rfl (Nat.le_of_ble_eq_true rfl) rfl ?_
    refine mB hT 10 rfl ?_
    exact hR _ (by decide) _ _ _ (congrArg (fun z => [Value.int z]) (if_neg h1).symm) rfl
set_option maxRecDepth 20000 in
theorem m_all_1_2_4 {vs : Int32} {wo un h : Int64} {bo : Nat → Int32} {ta tr ro ot : Nat → Int64} {Bm : Nat → Nat → Nat → Int32} {bk : Nat → Nat → Int32} : KX3_allOf l D ca ad [.ref 0, .int 1, .int 2] (MW 4 vs wo un h bo ta tr ro ot Bm bk) (some (.int (alM 4 (Bm 1) 2))) (MW 4 vs wo un h bo ta tr ro ot Bm bk) := by
  refine PX3_allOf (Nat.le_of_ble_eq_true rfl) ?_
  intro G hT hC hR
  refine mB hT 12 rfl ?_
  refine hC.1 _ 0 [_, _] _ _ _ _ _ (m_main_1_2) rfl rfl (Nat.le_of_ble_eq_true rfl) rfl ?_
  refine mB hT 10 rfl ?_
  refine mIf (fun h1 => ?_) (fun h1 => ?_)
  · refine mNf (lv2 := [(5, .int 0), (4, .int (mnM (Bm 1 2))), (3, .int (Bm 1 2 1)), (0, .ref 0), (1, .int 1), (2, .int 2)]) (st2 := []) rfl rfl ?_
    refine mB hT 1 rfl ?_
    exact hR _ (by decide) _ _ _ (congrArg (fun z => [Value.int z]) (if_pos h1).symm) rfl
  · refine mNf (lv2 := [(5, .int 0), (4, .int (mnM (Bm 1 2))), (3, .int (Bm 1 2 1)), (0, .ref 0), (1, .int 1), (2, .int 2)]) (st2 := []) rfl rfl ?_
    refine mB hT 17 rfl ?_
    refine hC.2 _ 0 [_, _, _] _ _ _ _ _ (m_value_1_0 _) rfl rfl (Nat.le_of_ble_eq_true rfl) rfl ?_
    refine mB hT 12 rfl ?_
    refine mIf (fun hp => absurd hp h1) (fun _ => ?_)
    refine mNf (lv2 := [(5, .int 1), (4, .int ((mnM (Bm 1 2)) + ((Bm 1 2 8) * (vlM (Bm 1 0) (Bm 1 2 1))))), (3, .int (Bm 1 2 1)), (0, .ref 0), (1, .int 1), (2, .int 2)]) (st2 := []) rfl rfl ?_
    refine mB hT 17 rfl ?_
    refine hC.2 _ 0 [_, _, _] _ _ _ _ _ (m_value_1_1 _) rfl rfl (Nat.le_of_ble_eq_true rfl) rfl ?_
    refine mB hT 12 rfl ?_
    refine mIf (fun hp => absurd hp h1) (fun _ => ?_)
    refine mNf (lv2 := [(5, .int 2), (4, .int (((mnM (Bm 1 2)) + ((Bm 1 2 8) * (vlM (Bm 1 0) (Bm 1 2 1)))) + ((Bm 1 2 9) * (vlM (Bm 1 1) (Bm 1 2 1))))), (3, .int (Bm 1 2 1)), (0, .ref 0), (1, .int 1), (2, .int 2)]) (st2 := []) rfl rfl ?_
    refine mB hT 17 rfl ?_
    refine hC.2 _ 0 [_, _, _] _ _ _ _ _ (m_value_1_2 _) rfl rfl (Nat.le_of_ble_eq_true rfl) rfl ?_
    refine mB hT 12 rfl ?_
    refine mIf (fun hp => absurd hp h1) (fun _ => ?_)
    refine mNf (lv2 := [(5, .int 3), (4, .int ((((mnM (Bm 1 2)) + ((Bm 1 2 8) * (vlM (Bm 1 0) (Bm 1 2 1)))) + ((Bm 1 2 9) * (vlM (Bm 1 1) (Bm 1 2 1)))) + ((Bm 1 2 10) * (vlM (Bm 1 2) (Bm 1 2 1))))), (3, .int (Bm 1 2 1)), (0, .ref 0), (1, .int 1), (2, .int 2)]) (st2 := []) rfl rfl ?_
    refine mB hT 17 rfl ?_
    refine hC.2 _ 0 [_, _, _] _ _ _ _ _ (m_value_1_3 _) rfl rfl (Nat.le_of_ble_eq_true rfl) rfl ?_
    refine mB hT 10 rfl ?_
    exact hR _ (by decide) _ _ _ (congrArg (fun z => [Value.int z]) (if_neg h1).symm) rfl
theorem m_all_1_2 {n vs : Nat} {wo un h : Int64} {bo : Nat → Int32} {ta tr ro ot : Nat → Int64} {Bm : Nat → Nat → Nat → Int32} {bk : Nat → Nat → Int32} (hn : n ≤ 4) : KX3_allOf l D ca ad [.ref 0, .int 1, .int 2] (MW (Int32.ofNat n) (Int32.ofNat vs) wo un h bo ta tr ro ot Bm bk) (some (.int (alM n (Bm 1) 2))) (MW (Int32.ofNat n) (Int32.ofNat vs) wo un h bo ta tr ro ot Bm bk) := by
  match n, hn with
  | 0, _ => exact m_all_1_2_0
  | 1, _ => exact m_all_1_2_1
  | 2, _ => exact m_all_1_2_2
  | 3, _ => exact m_all_1_2_3
  | 4, _ => exact m_all_1_2_4
set_option maxRecDepth 20000 in
theorem m_main_1_3 {n vs : Int32} {wo un h : Int64} {bo : Nat → Int32} {ta tr ro ot : Nat → Int64} {Bm : Nat → Nat → Nat → Int32} {bk : Nat → Nat → Int32} : KX3_mainOf l D ca ad [.ref 0, .int 1, .int 3] (MW n vs wo un h bo ta tr ro ot Bm bk) (some (.int (mnM (Bm 1 3)))) (MW n vs wo un h bo ta tr ro ot Bm bk) := by
  refine PX3_mainOf (Nat.le_of_ble_eq_true rfl) ?_
  intro G hT hC hR
  refine mB hT 12 rfl ?_
  refine mIf (fun h1 => ?_) (fun h1 => ?_)
  · refine mB hT 2 rfl ?_
    exact hR _ (by decide) _ _ _ (congrArg (fun z => [Value.int z]) (if_pos h1).symm) rfl
  · refine mB hT 12 rfl ?_
    refine hC _ 0 [_, _, _] _ _ _ _ _ (m_value_1_3 _) rfl rfl (Nat.le_of_ble_eq_true rfl) rfl ?_
    refine mB hT 1 rfl ?_
    exact hR _ (by decide) _ _ _ (congrArg (fun z => [Value.int z]) (if_neg h1).symm) rfl
set_option maxRecDepth 20000 in
theorem m_all_1_3_0 {vs : Int32} {wo un h : Int64} {bo : Nat → Int32} {ta tr ro ot : Nat → Int64} {Bm : Nat → Nat → Nat → Int32} {bk : Nat → Nat → Int32} : KX3_allOf l D ca ad [.ref 0, .int 1, .int 3] (MW 0 vs wo un h bo ta tr ro ot Bm bk) (some (.int (alM 0 (Bm 1) 3))) (MW 0 vs wo un h bo ta tr ro ot Bm bk) := by
  refine PX3_allOf (Nat.le_of_ble_eq_true rfl) ?_
  intro G hT hC hR
  refine mB hT 12 rfl ?_
  refine hC.1 _ 0 [_, _] _ _ _ _ _ (m_main_1_3) rfl rfl (Nat.le_of_ble_eq_true rfl) rfl ?_
  refine mB hT 8 rfl ?_
  exact hR _ (by decide) _ _ _ (congrArg (fun z => [Value.int z]) (show _ = alM 0 _ _ by unfold alM; split <;> rfl)) rfl
set_option maxRecDepth 20000 in
theorem m_all_1_3_1 {vs : Int32} {wo un h : Int64} {bo : Nat → Int32} {ta tr ro ot : Nat → Int64} {Bm : Nat → Nat → Nat → Int32} {bk : Nat → Nat → Int32} : KX3_allOf l D ca ad [.ref 0, .int 1, .int 3] (MW 1 vs wo un h bo ta tr ro ot Bm bk) (some (.int (alM 1 (Bm 1) 3))) (MW 1 vs wo un h bo ta tr ro ot Bm bk) := by
  refine PX3_allOf (Nat.le_of_ble_eq_true rfl) ?_
  intro G hT hC hR
  refine mB hT 12 rfl ?_
  refine hC.1 _ 0 [_, _] _ _ _ _ _ (m_main_1_3) rfl rfl (Nat.le_of_ble_eq_true rfl) rfl ?_
  refine mB hT 10 rfl ?_
  refine mIf (fun h1 => ?_) (fun h1 => ?_)
  · refine mNf (lv2 := [(5, .int 0), (4, .int (mnM (Bm 1 3))), (3, .int (Bm 1 3 1)), (0, .ref 0), (1, .int 1), (2, .int 3)]) (st2 := []) rfl rfl ?_
    refine mB hT 1 rfl ?_
    exact hR _ (by decide) _ _ _ (congrArg (fun z => [Value.int z]) (if_pos h1).symm) rfl
  · refine mNf (lv2 := [(5, .int 0), (4, .int (mnM (Bm 1 3))), (3, .int (Bm 1 3 1)), (0, .ref 0), (1, .int 1), (2, .int 3)]) (st2 := []) rfl rfl ?_
    refine mB hT 17 rfl ?_
    refine hC.2 _ 0 [_, _, _] _ _ _ _ _ (m_value_1_0 _) rfl rfl (Nat.le_of_ble_eq_true rfl) rfl ?_
    refine mB hT 10 rfl ?_
    exact hR _ (by decide) _ _ _ (congrArg (fun z => [Value.int z]) (if_neg h1).symm) rfl
set_option maxRecDepth 20000 in
theorem m_all_1_3_2 {vs : Int32} {wo un h : Int64} {bo : Nat → Int32} {ta tr ro ot : Nat → Int64} {Bm : Nat → Nat → Nat → Int32} {bk : Nat → Nat → Int32} : KX3_allOf l D ca ad [.ref 0, .int 1, .int 3] (MW 2 vs wo un h bo ta tr ro ot Bm bk) (some (.int (alM 2 (Bm 1) 3))) (MW 2 vs wo un h bo ta tr ro ot Bm bk) := by
  refine PX3_allOf (Nat.le_of_ble_eq_true rfl) ?_
  intro G hT hC hR
  refine mB hT 12 rfl ?_
  refine hC.1 _ 0 [_, _] _ _ _ _ _ (m_main_1_3) rfl rfl (Nat.le_of_ble_eq_true rfl) rfl ?_
  refine mB hT 10 rfl ?_
  refine mIf (fun h1 => ?_) (fun h1 => ?_)
  · refine mNf (lv2 := [(5, .int 0), (4, .int (mnM (Bm 1 3))), (3, .int (Bm 1 3 1)), (0, .ref 0), (1, .int 1), (2, .int 3)]) (st2 := []) rfl rfl ?_
    refine mB hT 1 rfl ?_
    exact hR _ (by decide) _ _ _ (congrArg (fun z => [Value.int z]) (if_pos h1).symm) rfl
  · refine mNf (lv2 := [(5, .int 0), (4, .int (mnM (Bm 1 3))), (3, .int (Bm 1 3 1)), (0, .ref 0), (1, .int 1), (2, .int 3)]) (st2 := []) rfl rfl ?_
    refine mB hT 17 rfl ?_
    refine hC.2 _ 0 [_, _, _] _ _ _ _ _ (m_value_1_0 _) rfl rfl (Nat.le_of_ble_eq_true rfl) rfl ?_
    refine mB hT 12 rfl ?_
    refine mIf (fun hp => absurd hp h1) (fun _ => ?_)
    refine mNf (lv2 := [(5, .int 1), (4, .int ((mnM (Bm 1 3)) + ((Bm 1 3 8) * (vlM (Bm 1 0) (Bm 1 3 1))))), (3, .int (Bm 1 3 1)), (0, .ref 0), (1, .int 1), (2, .int 3)]) (st2 := []) rfl rfl ?_
    refine mB hT 17 rfl ?_
    refine hC.2 _ 0 [_, _, _] _ _ _ _ _ (m_value_1_1 _) rfl rfl (Nat.le_of_ble_eq_true rfl) rfl ?_
    refine mB hT 10 rfl ?_
    exact hR _ (by decide) _ _ _ (congrArg (fun z => [Value.int z]) (if_neg h1).symm) rfl
set_option maxRecDepth 20000 in
theorem m_all_1_3_3 {vs : Int32} {wo un h : Int64} {bo : Nat → Int32} {ta tr ro ot : Nat → Int64} {Bm : Nat → Nat → Nat → Int32} {bk : Nat → Nat → Int32} : KX3_allOf l D ca ad [.ref 0, .int 1, .int 3] (MW 3 vs wo un h bo ta tr ro ot Bm bk) (some (.int (alM 3 (Bm 1) 3))) (MW 3 vs wo un h bo ta tr ro ot Bm bk) := by
  refine PX3_allOf (Nat.le_of_ble_eq_true rfl) ?_
  intro G hT hC hR
  refine mB hT 12 rfl ?_
  refine hC.1 _ 0 [_, _] _ _ _ _ _ (m_main_1_3) rfl rfl (Nat.le_of_ble_eq_true rfl) rfl ?_
  refine mB hT 10 rfl ?_
  refine mIf (fun h1 => ?_) (fun h1 => ?_)
  · refine mNf (lv2 := [(5, .int 0), (4, .int (mnM (Bm 1 3))), (3, .int (Bm 1 3 1)), (0, .ref 0), (1, .int 1), (2, .int 3)]) (st2 := []) rfl rfl ?_
    refine mB hT 1 rfl ?_
    exact hR _ (by decide) _ _ _ (congrArg (fun z => [Value.int z]) (if_pos h1).symm) rfl
  · refine mNf (lv2 := [(5, .int 0), (4, .int (mnM (Bm 1 3))), (3, .int (Bm 1 3 1)), (0, .ref 0), (1, .int 1), (2, .int 3)]) (st2 := []) rfl rfl ?_
    refine mB hT 17 rfl ?_
    refine hC.2 _ 0 [_, _, _] _ _ _ _ _ (m_value_1_0 _) rfl rfl (Nat.le_of_ble_eq_true rfl) rfl ?_
    refine mB hT 12 rfl ?_
    refine mIf (fun hp => absurd hp h1) (fun _ => ?_)
    refine mNf (lv2 := [(5, .int 1), (4, .int ((mnM (Bm 1 3)) + ((Bm 1 3 8) * (vlM (Bm 1 0) (Bm 1 3 1))))), (3, .int (Bm 1 3 1)), (0, .ref 0), (1, .int 1), (2, .int 3)]) (st2 := []) rfl rfl ?_
    refine mB hT 17 rfl ?_
    refine hC.2 _ 0 [_, _, _] _ _ _ _ _ (m_value_1_1 _) rfl rfl (Nat.le_of_ble_eq_true rfl) rfl ?_
    refine mB hT 12 rfl ?_
    refine mIf (fun hp => absurd hp h1) (fun _ => ?_)
    refine mNf (lv2 := [(5, .int 2), (4, .int (((mnM (Bm 1 3)) + ((Bm 1 3 8) * (vlM (Bm 1 0) (Bm 1 3 1)))) + ((Bm 1 3 9) * (vlM (Bm 1 1) (Bm 1 3 1))))), (3, .int (Bm 1 3 1)), (0, .ref 0), (1, .int 1), (2, .int 3)]) (st2 := []) rfl rfl ?_
    refine mB hT 17 rfl ?_
    refine hC.2 _ 0 [_, _, _] _ _ _ _ _ (m_value_1_2 _) rfl rfl (Nat.le_of_ble_eq_true rfl) rfl ?_
    refine mB hT 10 rfl ?_
    exact hR _ (by decide) _ _ _ (congrArg (fun z => [Value.int z]) (if_neg h1).symm) rfl
set_option maxRecDepth 20000 in
theorem m_all_1_3_4 {vs : Int32} {wo un h : Int64} {bo : Nat → Int32} {ta tr ro ot : Nat → Int64} {Bm : Nat → Nat → Nat → Int32} {bk : Nat → Nat → Int32} : KX3_allOf l D ca ad [.ref 0, .int 1, .int 3] (MW 4 vs wo un h bo ta tr ro ot Bm bk) (some (.int (alM 4 (Bm 1) 3))) (MW 4 vs wo un h bo ta tr ro ot Bm bk) := by
  refine PX3_allOf (Nat.le_of_ble_eq_true rfl) ?_
  intro G hT hC hR
  refine mB hT 12 rfl ?_
  refine hC.1 _ 0 [_, _] _ _ _ _ _ (m_main_1_3) rfl rfl (Nat.le_of_ble_eq_true rfl) rfl ?_
  refine mB hT 10 rfl ?_
  refine mIf (fun h1 => ?_) (fun h1 => ?_)
  · refine mNf (lv2 := [(5, .int 0), (4, .int (mnM (Bm 1 3))), (3, .int (Bm 1 3 1)), (0, .ref 0), (1, .int 1), (2, .int 3)]) (st2 := []) rfl rfl ?_
    refine mB hT 1 rfl ?_
    exact hR _ (by decide) _ _ _ (congrArg (fun z => [Value.int z]) (if_pos h1).symm) rfl
  · refine mNf (lv2 := [(5, .int 0), (4, .int (mnM (Bm 1 3))), (3, .int (Bm 1 3 1)), (0, .ref 0), (1, .int 1), (2, .int 3)]) (st2 := []) rfl rfl ?_
    refine mB hT 17 rfl ?_
    refine hC.2 _ 0 [_, _, _] _ _ _ _ _ (m_value_1_0 _) rfl rfl (Nat.le_of_ble_eq_true rfl) rfl ?_
    refine mB hT 12 rfl ?_
    refine mIf (fun hp => absurd hp h1) (fun _ => ?_)
    refine mNf (lv2 := [(5, .int 1), (4, .int ((mnM (Bm 1 3)) + ((Bm 1 3 8) * (vlM (Bm 1 0) (Bm 1 3 1))))), (3, .int (Bm 1 3 1)), (0, .ref 0), (1, .int 1), (2, .int 3)]) (st2 := []) rfl rfl ?_
    refine mB hT 17 rfl ?_
    refine hC.2 _ 0 [_, _, _] _ _ _ _ _ (m_value_1_1 _) rfl rfl (Nat.le_of_ble_eq_true rfl) rfl ?_
    refine mB hT 12 rfl ?_
    refine mIf (fun hp => absurd hp h1) (fun _ => ?_)
    refine mNf (lv2 := [(5, .int 2), (4, .int (((mnM (Bm 1 3)) + ((Bm 1 3 8) * (vlM (Bm 1 0) (Bm 1 3 1)))) + ((Bm 1 3 9) * (vlM (Bm 1 1) (Bm 1 3 1))))), (3, .int (Bm 1 3 1)), (0, .ref 0), (1, .int 1), (2, .int 3)]) (st2 := []) rfl rfl ?_
    refine mB hT 17 rfl ?_
    refine hC.2 _ 0 [_, _, _] _ _ _ _ _ (m_value_1_2 _) rfl rfl (Nat.le_of_ble_eq_true rfl) rfl ?_
    refine mB hT 12 rfl ?_
    refine mIf (fun hp => absurd hp h1) (fun _ => ?_)
    refine mNf (lv2 := [(5, .int 3), (4, .int ((((mnM (Bm 1 3)) + ((Bm 1 3 8) * (vlM (Bm 1 0) (Bm 1 3 1)))) + ((Bm 1 3 9) * (vlM (Bm 1 1) (Bm 1 3 1)))) + ((Bm 1 3 10) * (vlM (Bm 1 2) (Bm 1 3 1))))), (3, .int (Bm 1 3 1)), (0, .ref 0), (1, .int 1), (2, .int 3)]) (st2 := []) rfl rfl ?_
    refine mB hT 17 rfl ?_
    refine hC.2 _ 0 [_, _, _] _ _ _ _ _ (m_value_1_3 _) rfl rfl (Nat.le_of_ble_eq_true rfl) rfl ?_
    refine mB hT 10 rfl ?_
    exact hR _ (by decide) _ _ _ (congrArg (fun z => [Value.int z]) (if_neg h1).symm) rfl
theorem m_all_1_3 {n vs : Nat} {wo un h : Int64} {bo : Nat → Int32} {ta tr ro ot : Nat → Int64} {Bm : Nat → Nat → Nat → Int32} {bk : Nat → Nat → Int32} (hn : n ≤ 4) : KX3_allOf l D ca ad [.ref 0, .int 1, .int 3] (MW (Int32.ofNat n) (Int32.ofNat vs) wo un h bo ta tr ro ot Bm bk) (some (.int (alM n (Bm 1) 3))) (MW (Int32.ofNat n) (Int32.ofNat vs) wo un h bo ta tr ro ot Bm bk) := by
  match n, hn with
  | 0, _ => exact m_all_1_3_0
  | 1, _ => exact m_all_1_3_1
  | 2, _ => exact m_all_1_3_2
  | 3, _ => exact m_all_1_3_3
  | 4, _ => exact m_all_1_3_4
set_option maxRecDepth 20000 in
theorem m_main_2_0 {n vs : Int32} {wo un h : Int64} {bo : Nat → Int32} {ta tr ro ot : Nat → Int64} {Bm : Nat → Nat → Nat → Int32} {bk : Nat → Nat → Int32} : KX3_mainOf l D ca ad [.ref 0, .int 2, .int 0] (MW n vs wo un h bo ta tr ro ot Bm bk) (some (.int (mnM (Bm 2 0)))) (MW n vs wo un h bo ta tr ro ot Bm bk) := by
  refine PX3_mainOf (Nat.le_of_ble_eq_true rfl) ?_
  intro G hT hC hR
  refine mB hT 12 rfl ?_
  refine mIf (fun h1 => ?_) (fun h1 => ?_)
  · refine mB hT 2 rfl ?_
    exact hR _ (by decide) _ _ _ (congrArg (fun z => [Value.int z]) (if_pos h1).symm) rfl
  · refine mB hT 12 rfl ?_
    refine hC _ 0 [_, _, _] _ _ _ _ _ (m_value_2_0 _) rfl rfl (Nat.le_of_ble_eq_true rfl) rfl ?_
    refine mB hT 1 rfl ?_
    exact hR _ (by decide) _ _ _ (congrArg (fun z => [Value.int z]) (if_neg h1).symm) rfl
set_option maxRecDepth 20000 in
theorem m_all_2_0_0 {vs : Int32} {wo un h : Int64} {bo : Nat → Int32} {ta tr ro ot : Nat → Int64} {Bm : Nat → Nat → Nat → Int32} {bk : Nat → Nat → Int32} : KX3_allOf l D ca ad [.ref 0, .int 2, .int 0] (MW 0 vs wo un h bo ta tr ro ot Bm bk) (some (.int (alM 0 (Bm 2) 0))) (MW 0 vs wo un h bo ta tr ro ot Bm bk) := by
  refine PX3_allOf (Nat.le_of_ble_eq_true rfl) ?_
  intro G hT hC hR
  refine mB hT 12 rfl ?_
  refine hC.1 _ 0 [_, _] _ _ _ _ _ (m_main_2_0) rfl rfl (Nat.le_of_ble_eq_true rfl) rfl ?_
  refine mB hT 8 rfl ?_
  exact hR _ (by decide) _ _ _ (congrArg (fun z => [Value.int z]) (show _ = alM 0 _ _ by unfold alM; split <;> rfl)) rfl
set_option maxRecDepth 20000 in
theorem m_all_2_0_1 {vs : Int32} {wo un h : Int64} {bo : Nat → Int32} {ta tr ro ot : Nat → Int64} {Bm : Nat → Nat → Nat → Int32} {bk : Nat → Nat → Int32} : KX3_allOf l D ca ad [.ref 0, .int 2, .int 0] (MW 1 vs wo un h bo ta tr ro ot Bm bk) (some (.int (alM 1 (Bm 2) 0))) (MW 1 vs wo un h bo ta tr ro ot Bm bk) := by
  refine PX3_allOf (Nat.le_of_ble_eq_true rfl) ?_
  intro G hT hC hR
  refine mB hT 12 rfl ?_
  refine hC.1 _ 0 [_, _] _ _ _ _ _ (m_main_2_0) rfl rfl (Nat.le_of_ble_eq_true rfl) rfl ?_
  refine mB hT 10 rfl ?_
  refine mIf (fun h1 => ?_) (fun h1 => ?_)
  · refine mNf (lv2 := [(5, .int 0), (4, .int (mnM (Bm 2 0))), (3, .int (Bm 2 0 1)), (0, .ref 0), (1, .int 2), (2, .int 0)]) (st2 := []) rfl rfl ?_
    refine mB hT 1 rfl ?_
    exact hR _ (by decide) _ _ _ (congrArg (fun z => [Value.int z]) (if_pos h1).symm) rfl
  · refine mNf (lv2 := [(5, .int 0), (4, .int (mnM (Bm 2 0))), (3, .int (Bm 2 0 1)), (0, .ref 0), (1, .int 2), (2, .int 0)]) (st2 := []) rfl rfl ?_
    refine mB hT 17 rfl ?_
    refine hC.2 _ 0 [_, _, _] _ _ _ _ _ (m_value_2_0 _) rfl rfl (Nat.le_of_ble_eq_true rfl) rfl ?_
    refine mB hT 10 rfl ?_
    exact hR _ (by decide) _ _ _ (congrArg (fun z => [Value.int z]) (if_neg h1).symm) rfl
set_option maxRecDepth 20000 in
theorem m_all_2_0_2 {vs : Int32} {wo un h : Int64} {bo : Nat → Int32} {ta tr ro ot : Nat → Int64} {Bm : Nat → Nat → Nat → Int32} {bk : Nat → Nat → Int32} : KX3_allOf l D ca ad [.ref 0, .int 2, .int 0] (MW 2 vs wo un h bo ta tr ro ot Bm bk) (some (.int (alM 2 (Bm 2) 0))) (MW 2 vs wo un h bo ta tr ro ot Bm bk) := by
  refine PX3_allOf (Nat.le_of_ble_eq_true rfl) ?_
  intro G hT hC hR
  refine mB hT 12 rfl ?_
  refine hC.1 _ 0 [_, _] _ _ _ _ _ (m_main_2_0) rfl rfl (Nat.le_of_ble_eq_true rfl) rfl ?_
  refine mB hT 10 rfl ?_
  refine mIf (fun h1 => ?_) (fun h1 => ?_)
  · refine mNf (lv2 := [(5, .int 0), (4, .int (mnM (Bm 2 0))), (3, .int (Bm 2 0 1)), (0, .ref 0), (1, .int 2), (2, .int 0)]) (st2 := []) rfl rfl ?_
    refine mB hT 1 rfl ?_
    exact hR _ (by decide) _ _ _ (congrArg (fun z => [Value.int z]) (if_pos h1).symm) rfl
  · refine mNf (lv2 := [(5, .int 0), (4, .int (mnM (Bm 2 0))), (3, .int (Bm 2 0 1)), (0, .ref 0), (1, .int 2), (2, .int 0)]) (st2 := []) rfl rfl ?_
    refine mB hT 17 rfl ?_
    refine hC.2 _ 0 [_, _, _] _ _ _ _ _ (m_value_2_0 _) rfl rfl (Nat.le_of_ble_eq_true rfl) rfl ?_
    refine mB hT 12 rfl ?_
    refine mIf (fun hp => absurd hp h1) (fun _ => ?_)
    refine mNf (lv2 := [(5, .int 1), (4, .int ((mnM (Bm 2 0)) + ((Bm 2 0 8) * (vlM (Bm 2 0) (Bm 2 0 1))))), (3, .int (Bm 2 0 1)), (0, .ref 0), (1, .int 2), (2, .int 0)]) (st2 := []) rfl rfl ?_
    refine mB hT 17 rfl ?_
    refine hC.2 _ 0 [_, _, _] _ _ _ _ _ (m_value_2_1 _) rfl rfl (Nat.le_of_ble_eq_true rfl) rfl ?_
    refine mB hT 10 rfl ?_
    exact hR _ (by decide) _ _ _ (congrArg (fun z => [Value.int z]) (if_neg h1).symm) rfl
set_option maxRecDepth 20000 in
theorem m_all_2_0_3 {vs : Int32} {wo un h : Int64} {bo : Nat → Int32} {ta tr ro ot : Nat → Int64} {Bm : Nat → Nat → Nat → Int32} {bk : Nat → Nat → Int32} : KX3_allOf l D ca ad [.ref 0, .int 2, .int 0] (MW 3 vs wo un h bo ta tr ro ot Bm bk) (some (.int (alM 3 (Bm 2) 0))) (MW 3 vs wo un h bo ta tr ro ot Bm bk) := by
  refine PX3_allOf (Nat.le_of_ble_eq_true rfl) ?_
  intro G hT hC hR
  refine mB hT 12 rfl ?_
  refine hC.1 _ 0 [_, _] _ _ _ _ _ (m_main_2_0) rfl rfl (Nat.le_of_ble_eq_true rfl) rfl ?_
  refine mB hT 10 rfl ?_
  refine mIf (fun h1 => ?_) (fun h1 => ?_)
  · refine mNf (lv2 := [(5, .int 0), (4, .int (mnM (Bm 2 0))), (3, .int (Bm 2 0 1)), (0, .ref 0), (1, .int 2), (2, .int 0)]) (st2 := []) rfl rfl ?_
    refine mB hT 1 rfl ?_
    exact hR _ (by decide) _ _ _ (congrArg (fun z => [Value.int z]) (if_pos h1).symm) rfl
  · refine mNf (lv2 := [(5, .int 0), (4, .int (mnM (Bm 2 0))), (3, .int (Bm 2 0 1)), (0, .ref 0), (1, .int 2), (2, .int 0)]) (st2 := []) rfl rfl ?_
    refine mB hT 17 rfl ?_
    refine hC.2 _ 0 [_, _, _] _ _ _ _ _ (m_value_2_0 _) rfl rfl (Nat.le_of_ble_eq_true rfl) rfl ?_
    refine mB hT 12 rfl ?_
    refine mIf (fun hp => absurd hp h1) (fun _ => ?_)
    refine mNf (lv2 := [(5, .int 1), (4, .int ((mnM (Bm 2 0)) + ((Bm 2 0 8) * (vlM (Bm 2 0) (Bm 2 0 1))))), (3, .int (Bm 2 0 1)), (0, .ref 0), (1, .int 2), (2, .int 0)]) (st2 := []) rfl rfl ?_
    refine mB hT 17 rfl ?_
    refine hC.2 _ 0 [_, _, _] _ _ _ _ _ (m_value_2_1 _) rfl rfl (Nat.le_of_ble_eq_true rfl) rfl ?_
    refine mB hT 12 rfl ?_
    refine mIf (fun hp => absurd hp h1) (fun _ => ?_)
    refine mNf (lv2 := [(5, .int 2), (4, .int (((mnM (Bm 2 0)) + ((Bm 2 0 8) * (vlM (Bm 2 0) (Bm 2 0 1)))) + ((Bm 2 0 9) * (vlM (Bm 2 1) (Bm 2 0 1))))), (3, .int (Bm 2 0 1)), (0, .ref 0), (1, .int 2), (2, .int 0)]) (st2 := []) rfl rfl ?_
    refine mB hT 17 rfl ?_
    refine hC.2 _ 0 [_, _, _] _ _ _ _ _ (m_value_2_2 _) rfl rfl (Nat.le_of_ble_eq_true rfl) rfl ?_
    refine mB hT 10 rfl ?_
    exact hR _ (by decide) _ _ _ (congrArg (fun z => [Value.int z]) (if_neg h1).symm) rfl
set_option maxRecDepth 20000 in
theorem m_all_2_0_4 {vs : Int32} {wo un h : Int64} {bo : Nat → Int32} {ta tr ro ot : Nat → Int64} {Bm : Nat → Nat → Nat → Int32} {bk : Nat → Nat → Int32} : KX3_allOf l D ca ad [.ref 0, .int 2, .int 0] (MW 4 vs wo un h bo ta tr ro ot Bm bk) (some (.int (alM 4 (Bm 2) 0))) (MW 4 vs wo un h bo ta tr ro ot Bm bk) := by
  refine PX3_allOf (Nat.le_of_ble_eq_true rfl) ?_
  intro G hT hC hR
  refine mB hT 12 rfl ?_
  refine hC.1 _ 0 [_, _] _ _ _ _ _ (m_main_2_0) rfl rfl (Nat.le_of_ble_eq_true rfl) rfl ?_
  refine mB hT 10 rfl ?_
  refine mIf (fun h1 => ?_) (fun h1 => ?_)
  · refine mNf (lv2 := [(5, .int 0), (4, .int (mnM (Bm 2 0))), (3, .int (Bm 2 0 1)), (0, .ref 0), (1, .int 2), (2, .int 0)]) (st2 := []) rfl rfl ?_
    refine mB hT 1 rfl ?_
    exact hR _ (by decide) _ _ _ (congrArg (fun z => [Value.int z]) (if_pos h1).symm) rfl
  · refine mNf (lv2 := [(5, .int 0), (4, .int (mnM (Bm 2 0))), (3, .int (Bm 2 0 1)), (0, .ref 0), (1, .int 2), (2, .int 0)]) (st2 := []) rfl rfl ?_
    refine mB hT 17 rfl ?_
    refine hC.2 _ 0 [_, _, _] _ _ _ _ _ (m_value_2_0 _) rfl rfl (Nat.le_of_ble_eq_true rfl) rfl ?_
    refine mB hT 12 rfl ?_
    refine mIf (fun hp => absurd hp h1) (fun _ => ?_)
    refine mNf (lv2 := [(5, .int 1), (4, .int ((mnM (Bm 2 0)) + ((Bm 2 0 8) * (vlM (Bm 2 0) (Bm 2 0 1))))), (3, .int (Bm 2 0 1)), (0, .ref 0), (1, .int 2), (2, .int 0)]) (st2 := []) rfl rfl ?_
    refine mB hT 17 rfl ?_
    refine hC.2 _ 0 [_, _, _] _ _ _ _ _ (m_value_2_1 _) rfl rfl (Nat.le_of_ble_eq_true rfl) rfl ?_
    refine mB hT 12 rfl ?_
    refine mIf (fun hp => absurd hp h1) (fun _ => ?_)
    refine mNf (lv2 := [(5, .int 2), (4, .int (((mnM (Bm 2 0)) + ((Bm 2 0 8) * (vlM (Bm 2 0) (Bm 2 0 1)))) + ((Bm 2 0 9) * (vlM (Bm 2 1) (Bm 2 0 1))))), (3, .int (Bm 2 0 1)), (0, .ref 0), (1, .int 2), (2, .int 0)]) (st2 := []) rfl rfl ?_
    refine mB hT 17 rfl ?_
    refine hC.2 _ 0 [_, _, _] _ _ _ _ _ (m_value_2_2 _) rfl rfl (Nat.le_of_ble_eq_true rfl) rfl ?_
    refine mB hT 12 rfl ?_
    refine mIf (fun hp => absurd hp h1) (fun _ => ?_)
    refine mNf (lv2 := [(5, .int 3), (4, .int ((((mnM (Bm 2 0)) + ((Bm 2 0 8) * (vlM (Bm 2 0) (Bm 2 0 1)))) + ((Bm 2 0 9) * (vlM (Bm 2 1) (Bm 2 0 1)))) + ((Bm 2 0 10) * (vlM (Bm 2 2) (Bm 2 0 1))))), (3, .int (Bm 2 0 1)), (0, .ref 0), (1, .int 2), (2, .int 0)]) (st2 := []) rfl rfl ?_
    refine mB hT 17 rfl ?_
    refine hC.2 _ 0 [_, _, _] _ _ _ _ _ (m_value_2_3 _) rfl rfl (Nat.le_of_ble_eq_true rfl) rfl ?_
    refine mB hT 10 rfl ?_
    exact hR _ (by decide) _ _ _ (congrArg (fun z => [Value.int z]) (if_neg h1).symm) rfl
theorem m_all_2_0 {n vs : Nat} {wo un h : Int64} {bo : Nat → Int32} {ta tr ro ot : Nat → Int64} {Bm : Nat → Nat → Nat → Int32} {bk : Nat → Nat → Int32} (hn : n ≤ 4) : KX3_allOf l D ca ad [.ref 0, .int 2, .int 0] (MW (Int32.ofNat n) (Int32.ofNat vs) wo un h bo ta tr ro ot Bm bk) (some (.int (alM n (Bm 2) 0))) (MW (Int32.ofNat n) (Int32.ofNat vs) wo un h bo ta tr ro ot Bm bk) := by
  match n, hn with
  | 0, _ => exact m_all_2_0_0
  | 1, _ => exact m_all_2_0_1
  | 2, _ => exact m_all_2_0_2
  | 3, _ => exact m_all_2_0_3
  | 4, _ => exact m_all_2_0_4
set_option maxRecDepth 20000 in
theorem m_main_2_1 {n vs : Int32} {wo un h : Int64} {bo : Nat → Int32} {ta tr ro ot : Nat → Int64} {Bm : Nat → Nat → Nat → Int32} {bk : Nat → Nat → Int32} : KX3_mainOf l D ca ad [.ref 0, .int 2, .int 1] (MW n vs wo un h bo ta tr ro ot Bm bk) (some (.int (mnM (Bm 2 1)))) (MW n vs wo un h bo ta tr ro ot Bm bk) := by
  refine PX3_mainOf (Nat.le_of_ble_eq_true rfl) ?_
  intro G hT hC hR
  refine mB hT 12 rfl ?_
  refine mIf (fun h1 => ?_) (fun h1 => ?_)
  · refine mB hT 2 rfl ?_
    exact hR _ (by decide) _ _ _ (congrArg (fun z => [Value.int z]) (if_pos h1).symm) rfl
  · refine mB hT 12 rfl ?_
    refine hC _ 0 [_, _, _] _ _ _ _ _ (m_value_2_1 _) rfl rfl (Nat.le_of_ble_eq_true rfl) rfl ?_
    refine mB hT 1 rfl ?_
    exact hR _ (by decide) _ _ _ (congrArg (fun z => [Value.int z]) (if_neg h1).symm) rfl
set_option maxRecDepth 20000 in
theorem m_all_2_1_0 {vs : Int32} {wo un h : Int64} {bo : Nat → Int32} {ta tr ro ot : Nat → Int64} {Bm : Nat → Nat → Nat → Int32} {bk : Nat → Nat → Int32} : KX3_allOf l D ca ad [.ref 0, .int 2, .int 1] (MW 0 vs wo un h bo ta tr ro ot Bm bk) (some (.int (alM 0 (Bm 2) 1))) (MW 0 vs wo un h bo ta tr ro ot Bm bk) := by
  refine PX3_allOf (Nat.le_of_ble_eq_true rfl) ?_
  intro G hT hC hR
  refine mB hT 12 rfl ?_
  refine hC.1 _ 0 [_, _] _ _ _ _ _ (m_main_2_1) rfl rfl (Nat.le_of_ble_eq_true rfl) rfl ?_
  refine mB hT 8 rfl ?_
  exact hR _ (by decide) _ _ _ (congrArg (fun z => [Value.int z]) (show _ = alM 0 _ _ by unfold alM; split <;> rfl)) rfl
set_option maxRecDepth 20000 in
theorem m_all_2_1_1 {vs : Int32} {wo un h : Int64} {bo : Nat → Int32} {ta tr ro ot : Nat → Int64} {Bm : Nat → Nat → Nat → Int32} {bk : Nat → Nat → Int32} : KX3_allOf l D ca ad [.ref 0, .int 2, .int 1] (MW 1 vs wo un h bo ta tr ro ot Bm bk) (some (.int (alM 1 (Bm 2) 1))) (MW 1 vs wo un h bo ta tr ro ot Bm bk) := by
  refine PX3_allOf (Nat.le_of_ble_eq_true rfl) ?_
  intro G hT hC hR
  refine mB hT 12 rfl ?_
  refine hC.1 _ 0 [_, _] _ _ _ _ _ (m_main_2_1) rfl rfl (Nat.le_of_ble_eq_true rfl) rfl ?_
  refine mB hT 10 rfl ?_
  refine mIf (fun h1 => ?_) (fun h1 => ?_)
  · refine mNf (lv2 := [(5, .int 0), (4, .int (mnM (Bm 2 1))), (3, .int (Bm 2 1 1)), (0, .ref 0), (1, .int 2), (2, .int 1)]) (st2 := []) rfl rfl ?_
    refine mB hT 1 rfl ?_
    exact hR _ (by decide) _ _ _ (congrArg (fun z => [Value.int z]) (if_pos h1).symm) rfl
  · refine mNf (lv2 := [(5, .int 0), (4, .int (mnM (Bm 2 1))), (3, .int (Bm 2 1 1)), (0, .ref 0), (1, .int 2), (2, .int 1)]) (st2 := []) rfl rfl ?_
    refine mB hT 17 rfl ?_
    refine hC.2 _ 0 [_, _, _] _ _ _ _ _ (m_value_2_0 _) rfl rfl (Nat.le_of_ble_eq_true rfl) rfl ?_
    refine mB hT 10 rfl ?_
    exact hR _ (by decide) _ _ _ (congrArg (fun z => [Value.int z]) (if_neg h1).symm) rfl
set_option maxRecDepth 20000 in
theorem m_all_2_1_2 {vs : Int32} {wo un h : Int64} {bo : Nat → Int32} {ta tr ro ot : Nat → Int64} {Bm : Nat → Nat → Nat → Int32} {bk : Nat → Nat → Int32} : KX3_allOf l D ca ad [.ref 0, .int 2, .int 1] (MW 2 vs wo un h bo ta tr ro ot Bm bk) (some (.int (alM 2 (Bm 2) 1))) (MW 2 vs wo un h bo ta tr ro ot Bm bk) := by
  refine PX3_allOf (Nat.le_of_ble_eq_true rfl) ?_
  intro G hT hC hR
  refine mB hT 12 rfl ?_
  refine hC.1 _ 0 [_, _] _ _ _ _ _ (m_main_2_1) rfl rfl (Nat.le_of_ble_eq_true rfl) rfl ?_
  refine mB hT 10 rfl ?_
  refine mIf (fun h1 => ?_) (fun h1 => ?_)
  · refine mNf (lv2 := [(5, .int 0), (4, .int (mnM (Bm 2 1))), (3, .int (Bm 2 1 1)), (0, .ref 0), (1, .int 2), (2, .int 1)]) (st2 := []) rfl rfl ?_
    refine mB hT 1 rfl ?_
    exact hR _ (by decide) _ _ _ (congrArg (fun z => [Value.int z]) (if_pos h1).symm) rfl
  · refine mNf (lv2 := [(5, .int 0), (4, .int (mnM (Bm 2 1))), (3, .int (Bm 2 1 1)), (0, .ref 0), (1, .int 2), (2, .int 1)]) (st2 := []) rfl rfl ?_
    refine mB hT 17 rfl ?_
    refine hC.2 _ 0 [_, _, _] _ _ _ _ _ (m_value_2_0 _) rfl rfl (Nat.le_of_ble_eq_true rfl) rfl ?_
    refine mB hT 12 rfl ?_
    refine mIf (fun hp => absurd hp h1) (fun _ => ?_)
    refine mNf (lv2 := [(5, .int 1), (4, .int ((mnM (Bm 2 1)) + ((Bm 2 1 8) * (vlM (Bm 2 0) (Bm 2 1 1))))), (3, .int (Bm 2 1 1)), (0, .ref 0), (1, .int 2), (2, .int 1)]) (st2 := []) rfl rfl ?_
    refine mB hT 17 rfl ?_
    refine hC.2 _ 0 [_, _, _] _ _ _ _ _ (m_value_2_1 _) rfl rfl (Nat.le_of_ble_eq_true rfl) rfl ?_
    refine mB hT 10 rfl ?_
    exact hR _ (by decide) _ _ _ (congrArg (fun z => [Value.int z]) (if_neg h1).symm) rfl
set_option maxRecDepth 20000 in
theorem m_all_2_1_3 {vs : Int32} {wo un h : Int64} {bo : Nat → Int32} {ta tr ro ot : Nat → Int64} {Bm : Nat → Nat → Nat → Int32} {bk : Nat → Nat → Int32} : KX3_allOf l D ca ad [.ref 0, .int 2, .int 1] (MW 3 vs wo un h bo ta tr ro ot Bm bk) (some (.int (alM 3 (Bm 2) 1))) (MW 3 vs wo un h bo ta tr ro ot Bm bk) := by
  refine PX3_allOf (Nat.le_of_ble_eq_true rfl) ?_
  intro G hT hC hR
  refine mB hT 12 rfl ?_
  refine hC.1 _ 0 [_, _] _ _ _ _ _ (m_main_2_1) rfl rfl (Nat.le_of_ble_eq_true rfl) rfl ?_
  refine mB hT 10 rfl ?_
  refine mIf (fun h1 => ?_) (fun h1 => ?_)
  · refine mNf (lv2 := [(5, .int 0), (4, .int (mnM (Bm 2 1))), (3, .int (Bm 2 1 1)), (0, .ref 0), (1, .int 2), (2, .int 1)]) (st2 := []) rfl rfl ?_
    refine mB hT 1 rfl ?_
    exact hR _ (by decide) _ _ _ (congrArg (fun z => [Value.int z]) (if_pos h1).symm) rfl
  · refine mNf (lv2 := [(5, .int 0), (4, .int (mnM (Bm 2 1))), (3, .int (Bm 2 1 1)), (0, .ref 0), (1, .int 2), (2, .int 1)]) (st2 := []) rfl rfl ?_
    refine mB hT 17 rfl ?_
    refine hC.2 _ 0 [_, _, _] _ _ _ _ _ (m_value_2_0 _) rfl rfl (Nat.le_of_ble_eq_true rfl) rfl ?_
    refine mB hT 12 rfl ?_
    refine mIf (fun hp => absurd hp h1) (fun _ => ?_)
    refine mNf (lv2 := [(5, .int 1), (4, .int ((mnM (Bm 2 1)) + ((Bm 2 1 8) * (vlM (Bm 2 0) (Bm 2 1 1))))), (3, .int (Bm 2 1 1)), (0, .ref 0), (1, .int 2), (2, .int 1)]) (st2 := []) rfl rfl ?_
    refine mB hT 17 rfl ?_
    refine hC.2 _ 0 [_, _, _] _ _ _ _ _ (m_value_2_1 _) rfl rfl (Nat.le_of_ble_eq_true rfl) rfl ?_
    refine mB hT 12 rfl ?_
    refine mIf (fun hp => absurd hp h1) (fun _ => ?_)
    refine mNf (lv2 := [(5, .int 2), (4, .int (((mnM (Bm 2 1)) + ((Bm 2 1 8) * (vlM (Bm 2 0) (Bm 2 1 1)))) + ((Bm 2 1 9) * (vlM (Bm 2 1) (Bm 2 1 1))))), (3, .int (Bm 2 1 1)), (0, .ref 0), (1, .int 2), (2, .int 1)]) (st2 := []) rfl rfl ?_
    refine mB hT 17 rfl ?_
    refine hC.2 _ 0 [_, _, _] _ _ _ _ _ (m_value_2_2 _) rfl rfl (Nat.le_of_ble_eq_true rfl) rfl ?_
    refine mB hT 10 rfl ?_
    exact hR _ (by decide) _ _ _ (congrArg (fun z => [Value.int z]) (if_neg h1).symm) rfl
set_option maxRecDepth 20000 in
theorem m_all_2_1_4 {vs : Int32} {wo un h : Int64} {bo : Nat → Int32} {ta tr ro ot : Nat → Int64} {Bm : Nat → Nat → Nat → Int32} {bk : Nat → Nat → Int32} : KX3_allOf l D ca ad [.ref 0, .int 2, .int 1] (MW 4 vs wo un h bo ta tr ro ot Bm bk) (some (.int (alM 4 (Bm 2) 1))) (MW 4 vs wo un h bo ta tr ro ot Bm bk) := by
  refine PX3_allOf (Nat.le_of_ble_eq_true rfl) ?_
  intro G hT hC hR
  refine mB hT 12 rfl ?_
  refine hC.1 _ 0 [_, _] _ _ _ _ _ (m_main_2_1) rfl rfl (Nat.le_of_ble_eq_true rfl) rfl ?_
  refine mB hT 10 rfl ?_
  refine mIf (fun h1 => ?_) (fun h1 => ?_)
  · refine mNf (lv2 := [(5, .int 0), (4, .int (mnM (Bm 2 1))), (3, .int (Bm 2 1 1)), (0, .ref 0), (1, .int 2), (2, .int 1)]) (st2 := []) rfl rfl ?_
    refine mB hT 1 rfl ?_
    exact hR _ (by decide) _ _ _ (congrArg (fun z => [Value.int z]) (if_pos h1).symm) rfl
  · refine mNf (lv2 := [(5, .int 0), (4, .int (mnM (Bm 2 1))), (3, .int (Bm 2 1 1)), (0, .ref 0), (1, .int 2), (2, .int 1)]) (st2 := []) rfl rfl ?_
    refine mB hT 17 rfl ?_
    refine hC.2 _ 0 [_, _, _] _ _ _ _ _ (m_value_2_0 _) rfl rfl (Nat.le_of_ble_eq_true rfl) rfl ?_
    refine mB hT 12 rfl ?_
    refine mIf (fun hp => absurd hp h1) (fun _ => ?_)
    refine mNf (lv2 := [(5, .int 1), (4, .int ((mnM (Bm 2 1)) + ((Bm 2 1 8) * (vlM (Bm 2 0) (Bm 2 1 1))))), (3, .int (Bm 2 1 1)), (0, .ref 0), (1, .int 2), (2, .int 1)]) (st2 := []) rfl rfl ?_
    refine mB hT 17 rfl ?_
    refine hC.2 _ 0 [_, _, _] _ _ _ _ _ (m_value_2_1 _) rfl rfl (Nat.le_of_ble_eq_true rfl) rfl ?_
    refine mB hT 12 rfl ?_
    refine mIf (fun hp => absurd hp h1) (fun _ => ?_)
    refine mNf (lv2 := [(5, .int 2), (4, .int (((mnM (Bm 2 1)) + ((Bm 2 1 8) * (vlM (Bm 2 0) (Bm 2 1 1)))) + ((Bm 2 1 9) * (vlM (Bm 2 1) (Bm 2 1 1))))), (3, .int (Bm 2 1 1)), (0, .ref 0), (1, .int 2), (2, .int 1)]) (st2 := []) rfl rfl ?_
    refine mB hT 17 rfl ?_
    refine hC.2 _ 0 [_, _, _] _ _ _ _ _ (m_value_2_2 _) rfl rfl (Nat.le_of_ble_eq_true rfl) rfl ?_
    refine mB hT 12 rfl ?_
    refine mIf (fun hp => absurd hp h1) (fun _ => ?_)
    refine mNf (lv2 := [(5, .int 3), (4, .int ((((mnM (Bm 2 1)) + ((Bm 2 1 8) * (vlM (Bm 2 0) (Bm 2 1 1)))) + ((Bm 2 1 9) * (vlM (Bm 2 1) (Bm 2 1 1)))) + ((Bm 2 1 10) * (vlM (Bm 2 2) (Bm 2 1 1))))), (3, .int (Bm 2 1 1)), (0, .ref 0), (1, .int 2), (2, .int 1)]) (st2 := []) rfl rfl ?_
    refine mB hT 17 rfl ?_
    refine hC.2 _ 0 [_, _, _] _ _ _ _ _ (m_value_2_3 _) rfl rfl (Nat.le_of_ble_eq_true rfl) rfl ?_
    refine mB hT 10 rfl ?_
    exact hR _ (by decide) _ _ _ (congrArg (fun z => [Value.int z]) (if_neg h1).symm) rfl
theorem m_all_2_1 {n vs : Nat} {wo un h : Int64} {bo : Nat → Int32} {ta tr ro ot : Nat → Int64} {Bm : Nat → Nat → Nat → Int32} {bk : Nat → Nat → Int32} (hn : n ≤ 4) : KX3_allOf l D ca ad [.ref 0, .int 2, .int 1] (MW (Int32.ofNat n) (Int32.ofNat vs) wo un h bo ta tr ro ot Bm bk) (some (.int (alM n (Bm 2) 1))) (MW (Int32.ofNat n) (Int32.ofNat vs) wo un h bo ta tr ro ot Bm bk) := by
  match n, hn with
  | 0, _ => exact m_all_2_1_0
  | 1, _ => exact m_all_2_1_1
  | 2, _ => exact m_all_2_1_2
  | 3, _ => exact m_all_2_1_3
  | 4, _ => exact m_all_2_1_4
set_option maxRecDepth 20000 in
theorem m_main_2_2 {n vs : Int32} {wo un h : Int64} {bo : Nat → Int32} {ta tr ro ot : Nat → Int64} {Bm : Nat → Nat → Nat → Int32} {bk : Nat → Nat → Int32} : KX3_mainOf l D ca ad [.ref 0, .int 2, .int 2] (MW n vs wo un h bo ta tr ro ot Bm bk) (some (.int (mnM (Bm 2 2)))) (MW n vs wo un h bo ta tr ro ot Bm bk) := by
  refine PX3_mainOf (Nat.le_of_ble_eq_true rfl) ?_
  intro G hT hC hR
  refine mB hT 12 rfl ?_
  refine mIf (fun h1 => ?_) (fun h1 => ?_)
  · refine mB hT 2 rfl ?_
    exact hR _ (by decide) _ _ _ (congrArg (fun z => [Value.int z]) (if_pos h1).symm) rfl
  · refine mB hT 12 rfl ?_
    refine hC _ 0 [_, _, _] _ _ _ _ _ (m_value_2_2 _) rfl rfl (Nat.le_of_ble_eq_true rfl) rfl ?_
    refine mB hT 1 rfl ?_
    exact hR _ (by decide) _ _ _ (congrArg (fun z => [Value.int z]) (if_neg h1).symm) rfl
set_option maxRecDepth 20000 in
theorem m_all_2_2_0 {vs : Int32} {wo un h : Int64} {bo : Nat → Int32} {ta tr ro ot : Nat → Int64} {Bm : Nat → Nat → Nat → Int32} {bk : Nat → Nat → Int32} : KX3_allOf l D ca ad [.ref 0, .int 2, .int 2] (MW 0 vs wo un h bo ta tr ro ot Bm bk) (some (.int (alM 0 (Bm 2) 2))) (MW 0 vs wo un h bo ta tr ro ot Bm bk) := by
  refine PX3_allOf (Nat.le_of_ble_eq_true rfl) ?_
  intro G hT hC hR
  refine mB hT 12 rfl ?_
  refine hC.1 _ 0 [_, _] _ _ _ _ _ (m_main_2_2) rfl rfl (Nat.le_of_ble_eq_true rfl) rfl ?_
  refine mB hT 8 rfl ?_
  exact hR _ (by decide) _ _ _ (congrArg (fun z => [Value.int z]) (show _ = alM 0 _ _ by unfold alM; split <;> rfl)) rfl
set_option maxRecDepth 20000 in
theorem m_all_2_2_1 {vs : Int32} {wo un h : Int64} {bo : Nat → Int32} {ta tr ro ot : Nat → Int64} {Bm : Nat → Nat → Nat → Int32} {bk : Nat → Nat → Int32} : KX3_allOf l D ca ad [.ref 0, .int 2, .int 2] (MW 1 vs wo un h bo ta tr ro ot Bm bk) (some (.int (alM 1 (Bm 2) 2))) (MW 1 vs wo un h bo ta tr ro ot Bm bk) := by
  refine PX3_allOf (Nat.le_of_ble_eq_true rfl) ?_
  intro G hT hC hR
  refine mB hT 12 rfl ?_
  refine hC.1 _ 0 [_, _] _ _ _ _ _ (m_main_2_2) rfl rfl (Nat.le_of_ble_eq_true rfl) rfl ?_
  refine mB hT 10 rfl ?_
  refine mIf (fun h1 => ?_) (fun h1 => ?_)
  · refine mNf (lv2 := [(5, .int 0), (4, .int (mnM (Bm 2 2))), (3, .int (Bm 2 2 1)), (0, .ref 0), (1, .int 2), (2, .int 2)]) (st2 := []) rfl rfl ?_
    refine mB hT 1 rfl ?_
    exact hR _ (by decide) _ _ _ (congrArg (fun z => [Value.int z]) (if_pos h1).symm) rfl
  · refine mNf (lv2 := [(5, .int 0), (4, .int (mnM (Bm 2 2))), (3, .int (Bm 2 2 1)), (0, .ref 0), (1, .int 2), (2, .int 2)]) (st2 := []) rfl rfl ?_
    refine mB hT 17 rfl ?_
    refine hC.2 _ 0 [_, _, _] _ _ _ _ _ (m_value_2_0 _) rfl rfl (Nat.le_of_ble_eq_true rfl) rfl ?_
    refine mB hT 10 rfl ?_
    exact hR _ (by decide) _ _ _ (congrArg (fun z => [Value.int z]) (if_neg h1).symm) rfl
set_option maxRecDepth 20000 in
theorem m_all_2_2_2 {vs : Int32} {wo un h : Int64} {bo : Nat → Int32} {ta tr ro ot : Nat → Int64} {Bm : Nat → Nat → Nat → Int32} {bk : Nat → Nat → Int32} : KX3_allOf l D ca ad [.ref 0, .int 2, .int 2] (MW 2 vs wo un h bo ta tr ro ot Bm bk) (some (.int (alM 2 (Bm 2) 2))) (MW 2 vs wo un h bo ta tr ro ot Bm bk) := by
  refine PX3_allOf (Nat.le_of_ble_eq_true rfl) ?_
  intro G hT hC hR
  refine mB hT 12 rfl ?_
  refine hC.1 _ 0 [_, _] _ _ _ _ _ (m_main_2_2) rfl rfl (Nat.le_of_ble_eq_true rfl) rfl ?_
  refine mB hT 10 rfl ?_
  refine mIf (fun h1 => ?_) (fun h1 => ?_)
  · refine mNf (lv2 := [(5, .int 0), (4, .int (mnM (Bm 2 2))), (3, .int (Bm 2 2 1)), (0, .ref 0), (1, .int 2), (2, .int 2)]) (st2 := []) rfl rfl ?_
    refine mB hT 1 rfl ?_
    exact hR _ (by decide) _ _ _ (congrArg (fun z => [Value.int z]) (if_pos h1).symm) rfl
  · refine mNf (lv2 := [(5, .int 0), (4, .int (mnM (Bm 2 2))), (3, .int (Bm 2 2 1)), (0, .ref 0), (1, .int 2), (2, .int 2)]) (st2 := []) rfl rfl ?_
    refine mB hT 17 rfl ?_
    refine hC.2 _ 0 [_, _, _] _ _ _ _ _ (m_value_2_0 _) rfl rfl (Nat.le_of_ble_eq_true rfl) rfl ?_
    refine mB hT 12 rfl ?_
    refine mIf (fun hp => absurd hp h1) (fun _ => ?_)
    refine mNf (lv2 := [(5, .int 1), (4, .int ((mnM (Bm 2 2)) + ((Bm 2 2 8) * (vlM (Bm 2 0) (Bm 2 2 1))))), (3, .int (Bm 2 2 1)), (0, .ref 0), (1, .int 2), (2, .int 2)]) (st2 := []) rfl rfl ?_
    refine mB hT 17 rfl ?_
    refine hC.2 _ 0 [_, _, _] _ _ _ _ _ (m_value_2_1 _) rfl rfl (Nat.le_of_ble_eq_true rfl) rfl ?_
    refine mB hT 10 rfl ?_
    exact hR _ (by decide) _ _ _ (congrArg (fun z => [Value.int z]) (if_neg h1).symm) rfl
set_option maxRecDepth 20000 in
theorem m_all_2_2_3 {vs : Int32} {wo un h : Int64} {bo : Nat → Int32} {ta tr ro ot : Nat → Int64} {Bm : Nat → Nat → Nat → Int32} {bk : Nat → Nat → Int32} : KX3_allOf l D ca ad [.ref 0, .int 2, .int 2] (MW 3 vs wo un h bo ta tr ro ot Bm bk) (some (.int (alM 3 (Bm 2) 2))) (MW 3 vs wo un h bo ta tr ro ot Bm bk) := by
  refine PX3_allOf (Nat.le_of_ble_eq_true rfl) ?_
  intro G hT hC hR
  refine mB hT 12 rfl ?_
  refine hC.1 _ 0 [_, _] _ _ _ _ _ (m_main_2_2) rfl rfl (Nat.le_of_ble_eq_true rfl) rfl ?_
  refine mB hT 10 rfl ?_
  refine mIf (fun h1 => ?_) (fun h1 => ?_)
  · refine mNf (lv2 := [(5, .int 0), (4, .int (mnM (Bm 2 2))), (3, .int (Bm 2 2 1)), (0, .ref 0), (1, .int 2), (2, .int 2)]) (st2 := []) rfl rfl ?_
    refine mB hT 1 rfl ?_
    exact hR _ (by decide) _ _ _ (congrArg (fun z => [Value.int z]) (if_pos h1).symm) rfl
  · refine mNf (lv2 := [(5, .int 0), (4, .int (mnM (Bm 2 2))), (3, .int (Bm 2 2 1)), (0, .ref 0), (1, .int 2), (2, .int 2)]) (st2 := []) rfl rfl ?_
    refine mB hT 17 rfl ?_
    refine hC.2 _ 0 [_, _, _] _ _ _ _ _ (m_value_2_0 _) rfl rfl (Nat.le_of_ble_eq_true rfl) rfl ?_
    refine mB hT 12 rfl ?_
    refine mIf (fun hp => absurd hp h1) (fun _ => ?_)
    refine mNf (lv2 := [(5, .int 1), (4, .int ((mnM (Bm 2 2)) + ((Bm 2 2 8) * (vlM (Bm 2 0) (Bm 2 2 1))))), (3, .int (Bm 2 2 1)), (0, .ref 0), (1, .int 2), (2, .int 2)]) (st2 := []) rfl rfl ?_
    refine mB hT 17 rfl ?_
    refine hC.2 _ 0 [_, _, _] _ _ _ _ _ (m_value_2_1 _) rfl rfl (Nat.le_of_ble_eq_true rfl) rfl ?_
    refine mB hT 12 rfl ?_
    refine mIf (fun hp => absurd hp h1) (fun _ => ?_)
    refine mNf (lv2 := [(5, .int 2), (4, .int (((mnM (Bm 2 2)) + ((Bm 2 2 8) * (vlM (Bm 2 0) (Bm 2 2 1)))) + ((Bm 2 2 9) * (vlM (Bm 2 1) (Bm 2 2 1))))), (3, .int (Bm 2 2 1)), (0, .ref 0), (1, .int 2), (2, .int 2)]) (st2 := []) rfl rfl ?_
    refine mB hT 17 rfl ?_
    refine hC.2 _ 0 [_, _, _] _ _ _ _ _ (m_value_2_2 _) rfl rfl (Nat.le_of_ble_eq_true rfl) rfl ?_
    refine mB hT 10 rfl ?_
    exact hR _ (by decide) _ _ _ (congrArg (fun z => [Value.int z]) (if_neg h1).symm) rfl
set_option maxRecDepth 20000 in
theorem m_all_2_2_4 {vs : Int32} {wo un h : Int64} {bo : Nat → Int32} {ta tr ro ot : Nat → Int64} {Bm : Nat → Nat → Nat → Int32} {bk : Nat → Nat → Int32} : KX3_allOf l D ca ad [.ref 0, .int 2, .int 2] (MW 4 vs wo un h bo ta tr ro ot Bm bk) (some (.int (alM 4 (Bm 2) 2))) (MW 4 vs wo un h bo ta tr ro ot Bm bk) := by
  refine PX3_allOf (Nat.le_of_ble_eq_true rfl) ?_
  intro G hT hC hR
  refine mB hT 12 rfl ?_
  refine hC.1 _ 0 [_, _] _ _ _ _ _ (m_main_2_2) rfl rfl (Nat.le_of_ble_eq_true rfl) rfl ?_
  refine mB hT 10 rfl ?_
  refine mIf (fun h1 => ?_) (fun h1 => ?_)
  · refine mNf (lv2 := [(5, .int 0), (4, .int (mnM (Bm 2 2))), (3, .int (Bm 2 2 1)), (0, .ref 0), (1, .int 2), (2, .int 2)]) (st2 := []) rfl rfl ?_
    refine mB hT 1 rfl ?_
    exact hR _ (by decide) _ _ _ (congrArg (fun z => [Value.int z]) (if_pos h1).symm) rfl
  · refine mNf (lv2 := [(5, .int 0), (4, .int (mnM (Bm 2 2))), (3, .int (Bm 2 2 1)), (0, .ref 0), (1, .int 2), (2, .int 2)]) (st2 := []) rfl rfl ?_
    refine mB hT 17 rfl ?_
    refine hC.2 _ 0 [_, _, _] _ _ _ _ _ (m_value_2_0 _) rfl rfl (Nat.le_of_ble_eq_true rfl) rfl ?_
    refine mB hT 12 rfl ?_
    refine mIf (fun hp => absurd hp h1) (fun _ => ?_)
    refine mNf (lv2 := [(5, .int 1), (4, .int ((mnM (Bm 2 2)) + ((Bm 2 2 8) * (vlM (Bm 2 0) (Bm 2 2 1))))), (3, .int (Bm 2 2 1)), (0, .ref 0), (1, .int 2), (2, .int 2)]) (st2 := []) rfl rfl ?_
    refine mB hT 17 rfl ?_
    refine hC.2 _ 0 [_, _, _] _ _ _ _ _ (m_value_2_1 _) rfl rfl (Nat.le_of_ble_eq_true rfl) rfl ?_
    refine mB hT 12 rfl ?_
    refine mIf (fun hp => absurd hp h1) (fun _ => ?_)
    refine mNf (lv2 := [(5, .int 2), (4, .int (((mnM (Bm 2 2)) + ((Bm 2 2 8) * (vlM (Bm 2 0) (Bm 2 2 1)))) + ((Bm 2 2 9) * (vlM (Bm 2 1) (Bm 2 2 1))))), (3, .int (Bm 2 2 1)), (0, .ref 0), (1, .int 2), (2, .int 2)]) (st2 := []) rfl rfl ?_
    refine mB hT 17 rfl ?_
    refine hC.2 _ 0 [_, _, _] _ _ _ _ _ (m_value_2_2 _) rfl rfl (Nat.le_of_ble_eq_true rfl) rfl ?_
    refine mB hT 12 rfl ?_
    refine mIf (fun hp => absurd hp h1) (fun _ => ?_)
    refine mNf (lv2 := [(5, .int 3), (4, .int ((((mnM (Bm 2 2)) + ((Bm 2 2 8) * (vlM (Bm 2 0) (Bm 2 2 1)))) + ((Bm 2 2 9) * (vlM (Bm 2 1) (Bm 2 2 1)))) + ((Bm 2 2 10) * (vlM (Bm 2 2) (Bm 2 2 1))))), (3, .int (Bm 2 2 1)), (0, .ref 0), (1, .int 2), (2, .int 2)]) (st2 := []) rfl rfl ?_
    refine mB hT 17 rfl ?_
    refine hC.2 _ 0 [_, _, _] _ _ _ _ _ (m_value_2_3 _) rfl rfl (Nat.le_of_ble_eq_true rfl) rfl ?_
    refine mB hT 10 rfl ?_
    exact hR _ (by decide) _ _ _ (congrArg (fun z => [Value.int z]) (if_neg h1).symm) rfl
theorem m_all_2_2 {n vs : Nat} {wo un h : Int64} {bo : Nat → Int32} {ta tr ro ot : Nat → Int64} {Bm : Nat → Nat → Nat → Int32} {bk : Nat → Nat → Int32} (hn : n ≤ 4) : KX3_allOf l D ca ad [.ref 0, .int 2, .int 2] (MW (Int32.ofNat n) (Int32.ofNat vs) wo un h bo ta tr ro ot Bm bk) (some (.int (alM n (Bm 2) 2))) (MW (Int32.ofNat n) (Int32.ofNat vs) wo un h bo ta tr ro ot Bm bk) := by
  match n, hn with
  | 0, _ => exact m_all_2_2_0
  | 1, _ => exact m_all_2_2_1
  | 2, _ => exact m_all_2_2_2
  | 3, _ => exact m_all_2_2_3
  | 4, _ => exact m_all_2_2_4
set_option maxRecDepth 20000 in
theorem m_main_2_3 {n vs : Int32} {wo un h : Int64} {bo : Nat → Int32} {ta tr ro ot : Nat → Int64} {Bm : Nat → Nat → Nat → Int32} {bk : Nat → Nat → Int32} : KX3_mainOf l D ca ad [.ref 0, .int 2, .int 3] (MW n vs wo un h bo ta tr ro ot Bm bk) (some (.int (mnM (Bm 2 3)))) (MW n vs wo un h bo ta tr ro ot Bm bk) := by
  refine PX3_mainOf (Nat.le_of_ble_eq_true rfl) ?_
  intro G hT hC hR
  refine mB hT 12 rfl ?_
  refine mIf (fun h1 => ?_) (fun h1 => ?_)
  · refine mB hT 2 rfl ?_
    exact hR _ (by decide) _ _ _ (congrArg (fun z => [Value.int z]) (if_pos h1).symm) rfl
  · refine mB hT 12 rfl ?_
    refine hC _ 0 [_, _, _] _ _ _ _ _ (m_value_2_3 _) rfl rfl (Nat.le_of_ble_eq_true rfl) rfl ?_
    refine mB hT 1 rfl ?_
    exact hR _ (by decide) _ _ _ (congrArg (fun z => [Value.int z]) (if_neg h1).symm) rfl
set_option maxRecDepth 20000 in
theorem m_all_2_3_0 {vs : Int32} {wo un h : Int64} {bo : Nat → Int32} {ta tr ro ot : Nat → Int64} {Bm : Nat → Nat → Nat → Int32} {bk : Nat → Nat → Int32} : KX3_allOf l D ca ad [.ref 0, .int 2, .int 3] (MW 0 vs wo un h bo ta tr ro ot Bm bk) (some (.int (alM 0 (Bm 2) 3))) (MW 0 vs wo un h bo ta tr ro ot Bm bk) := by
  refine PX3_allOf (Nat.le_of_ble_eq_true rfl) ?_
  intro G hT hC hR
  refine mB hT 12 rfl ?_
  refine hC.1 _ 0 [_, _] _ _ _ _ _ (m_main_2_3) rfl rfl (Nat.le_of_ble_eq_true rfl) rfl ?_
  refine mB hT 8 rfl ?_
  exact hR _ (by decide) _ _ _ (congrArg (fun z => [Value.int z]) (show _ = alM 0 _ _ by unfold alM; split <;> rfl)) rfl
set_option maxRecDepth 20000 in
theorem m_all_2_3_1 {vs : Int32} {wo un h : Int64} {bo : Nat → Int32} {ta tr ro ot : Nat → Int64} {Bm : Nat → Nat → Nat → Int32} {bk : Nat → Nat → Int32} : KX3_allOf l D ca ad [.ref 0, .int 2, .int 3] (MW 1 vs wo un h bo ta tr ro ot Bm bk) (some (.int (alM 1 (Bm 2) 3))) (MW 1 vs wo un h bo ta tr ro ot Bm bk) := by
  refine PX3_allOf (Nat.le_of_ble_eq_true rfl) ?_
  intro G hT hC hR
  refine mB hT 12 rfl ?_
  refine hC.1 _ 0 [_, _] _ _ _ _ _ (m_main_2_3) rfl rfl (Nat.le_of_ble_eq_true rfl) rfl ?_
  refine mB hT 10 rfl ?_
  refine mIf (fun h1 => ?_) (fun h1 => ?_)
  · refine mNf (lv2 := [(5, .int 0), (4, .int (mnM (Bm 2 3))), (3, .int (Bm 2 3 1)), (0, .ref 0), (1, .int 2), (2, .int 3)]) (st2 := []) rfl rfl ?_
    refine mB hT 1 rfl ?_
    exact hR _ (by decide) _ _ _ (congrArg (fun z => [Value.int z]) (if_pos h1).symm) rfl
  · refine mNf (lv2 := [(5, .int 0), (4, .int (mnM (Bm 2 3))), (3, .int (Bm 2 3 1)), (0, .ref 0), (1, .int 2), (2, .int 3)]) (st2 := []) rfl rfl ?_
    refine mB hT 17 rfl ?_
    refine hC.2 _ 0 [_, _, _] _ _ _ _ _ (m_value_2_0 _) rfl rfl (Nat.le_of_ble_eq_true rfl) rfl ?_
    refine mB hT 10 rfl ?_
    exact hR _ (by decide) _ _ _ (congrArg (fun z => [Value.int z]) (if_neg h1).symm) rfl
set_option maxRecDepth 20000 in
theorem m_all_2_3_2 {vs : Int32} {wo un h : Int64} {bo : Nat → Int32} {ta tr ro ot : Nat → Int64} {Bm : Nat → Nat → Nat → Int32} {bk : Nat → Nat → Int32} : KX3_allOf l D ca ad [.ref 0, .int 2, .int 3] (MW 2 vs wo un h bo ta tr ro ot Bm bk) (some (.int (alM 2 (Bm 2) 3))) (MW 2 vs wo un h bo ta tr ro ot Bm bk) := by
  refine PX3_allOf (Nat.le_of_ble_eq_true rfl) ?_
  intro G hT hC hR
  refine mB hT 12 rfl ?_
  refine hC.1 _ 0 [_, _] _ _ _ _ _ (m_main_2_3) rfl rfl (Nat.le_of_ble_eq_true rfl) rfl ?_
  refine mB hT 10 rfl ?_
  refine mIf (fun h1 => ?_) (fun h1 => ?_)
  · refine mNf (lv2 := [(5, .int 0), (4, .int (mnM (Bm 2 3))), (3, .int (Bm 2 3 1)), (0, .ref 0), (1, .int 2), (2, .int 3)]) (st2 := []) rfl rfl ?_
    refine mB hT 1 rfl ?_
    exact hR _ (by decide) _ _ _ (congrArg (fun z => [Value.int z]) (if_pos h1).symm) rfl
  · refine mNf (lv2 := [(5, .int 0), (4, .int (mnM (Bm 2 3))), (3, .int (Bm 2 3 1)), (0, .ref 0), (1, .int 2), (2, .int 3)]) (st2 := []) rfl rfl ?_
    refine mB hT 17 rfl ?_
    refine hC.2 _ 0 [_, _, _] _ _ _ _ _ (m_value_2_0 _) rfl rfl (Nat.le_of_ble_eq_true rfl) rfl ?_
    refine mB hT 12 rfl ?_
    refine mIf (fun hp => absurd hp h1) (fun _ => ?_)
    refine mNf (lv2 := [(5, .int 1), (4, .int ((mnM (Bm 2 3)) + ((Bm 2 3 8) * (vlM (Bm 2 0) (Bm 2 3 1))))), (3, .int (Bm 2 3 1)), (0, .ref 0), (1, .int 2), (2, .int 3)]) (st2 := []) rfl rfl ?_
    refine mB hT 17 rfl ?_
    refine hC.2 _ 0 [_, _, _] _ _ _ _ _ (m_value_2_1 _) rfl rfl (Nat.le_of_ble_eq_true rfl) rfl ?_
    refine mB hT 10 rfl ?_
    exact hR _ (by decide) _ _ _ (congrArg (fun z => [Value.int z]) (if_neg h1).symm) rfl
set_option maxRecDepth 20000 in
theorem m_all_2_3_3 {vs : Int32} {wo un h : Int64} {bo : Nat → Int32} {ta tr ro ot : Nat → Int64} {Bm : Nat → Nat → Nat → Int32} {bk : Nat → Nat → Int32} : KX3_allOf l D ca ad [.ref 0, .int 2, .int 3] (MW 3 vs wo un h bo ta tr ro ot Bm bk) (some (.int (alM 3 (Bm 2) 3))) (MW 3 vs wo un h bo ta tr ro ot Bm bk) := by
  refine PX3_allOf (Nat.le_of_ble_eq_true rfl) ?_
  intro G hT hC hR
  refine mB hT 12 rfl ?_
  refine hC.1 _ 0 [_, _] _ _ _ _ _ (m_main_2_3) rfl rfl (Nat.le_of_ble_eq_true rfl) rfl ?_
  refine mB hT 10 rfl ?_
  refine mIf (fun h1 => ?_) (fun h1 => ?_)
  · refine mNf (lv2 := [(5, .int 0), (4, .int (mnM (Bm 2 3))), (3, .int (Bm 2 3 1)), (0, .ref 0), (1, .int 2), (2, .int 3)]) (st2 := []) rfl rfl ?_
    refine mB hT 1 rfl ?_
    exact hR _ (by decide) _ _ _ (congrArg (fun z => [Value.int z]) (if_pos h1).symm) rfl
  · refine mNf (lv2 := [(5, .int 0), (4, .int (mnM (Bm 2 3))), (3, .int (Bm 2 3 1)), (0, .ref 0), (1, .int 2), (2, .int 3)]) (st2 := []) rfl rfl ?_
    refine mB hT 17 rfl ?_
    refine hC.2 _ 0 [_, _, _] _ _ _ _ _ (m_value_2_0 _) rfl rfl (Nat.le_of_ble_eq_true rfl) rfl ?_
    refine mB hT 12 rfl ?_
    refine mIf (fun hp => absurd hp h1) (fun _ => ?_)
    refine mNf (lv2 := [(5, .int 1), (4, .int ((mnM (Bm 2 3)) + ((Bm 2 3 8) * (vlM (Bm 2 0) (Bm 2 3 1))))), (3, .int (Bm 2 3 1)), (0, .ref 0), (1, .int 2), (2, .int 3)]) (st2 := []) rfl rfl ?_
    refine mB hT 17 rfl ?_
    refine hC.2 _ 0 [_, _, _] _ _ _ _ _ (m_value_2_1 _) rfl rfl (Nat.le_of_ble_eq_true rfl) rfl ?_
    refine mB hT 12 rfl ?_
    refine mIf (fun hp => absurd hp h1) (fun _ => ?_)
    refine mNf (lv2 := [(5, .int 2), (4, .int (((mnM (Bm 2 3)) + ((Bm 2 3 8) * (vlM (Bm 2 0) (Bm 2 3 1)))) + ((Bm 2 3 9) * (vlM (Bm 2 1) (Bm 2 3 1))))), (3, .int (Bm 2 3 1)), (0, .ref 0), (1, .int 2), (2, .int 3)]) (st2 := []) rfl rfl ?_
    refine mB hT 17 rfl ?_
    refine hC.2 _ 0 [_, _, _] _ _ _ _ _ (m_value_2_2 _) rfl rfl (Nat.le_of_ble_eq_true rfl) rfl ?_
    refine mB hT 10 rfl ?_
    exact hR _ (by decide) _ _ _ (congrArg (fun z => [Value.int z]) (if_neg h1).symm) rfl
set_option maxRecDepth 20000 in
theorem m_all_2_3_4 {vs : Int32} {wo un h : Int64} {bo : Nat → Int32} {ta tr ro ot : Nat → Int64} {Bm : Nat → Nat → Nat → Int32} {bk : Nat → Nat → Int32} : KX3_allOf l D ca ad [.ref 0, .int 2, .int 3] (MW 4 vs wo un h bo ta tr ro ot Bm bk) (some (.int (alM 4 (Bm 2) 3))) (MW 4 vs wo un h bo ta tr ro ot Bm bk) := by
  refine PX3_allOf (Nat.le_of_ble_eq_true rfl) ?_
  intro G hT hC hR
  refine mB hT 12 rfl ?_
  refine hC.1 _ 0 [_, _] _ _ _ _ _ (m_main_2_3) rfl rfl (Nat.le_of_ble_eq_true rfl) rfl ?_
  refine mB hT 10 rfl ?_
  refine mIf (fun h1 => ?_) (fun h1 => ?_)
  · refine mNf (lv2 := [(5, .int 0), (4, .int (mnM (Bm 2 3))), (3, .int (Bm 2 3 1)), (0, .ref 0), (1, .int 2), (2, .int 3)]) (st2 := []) rfl rfl ?_
    refine mB hT 1 rfl ?_
    exact hR _ (by decide) _ _ _ (congrArg (fun z => [Value.int z]) (if_pos h1).symm) rfl
  · refine mNf (lv2 := [(5, .int 0), (4, .int (mnM (Bm 2 3))), (3, .int (Bm 2 3 1)), (0, .ref 0), (1, .int 2), (2, .int 3)]) (st2 := []) rfl rfl ?_
    refine mB hT 17 rfl ?_
    refine hC.2 _ 0 [_, _, _] _ _ _ _ _ (m_value_2_0 _) rfl rfl (Nat.le_of_ble_eq_true rfl) rfl ?_
    refine mB hT 12 rfl ?_
    refine mIf (fun hp => absurd hp h1) (fun _ => ?_)
    refine mNf (lv2 := [(5, .int 1), (4, .int ((mnM (Bm 2 3)) + ((Bm 2 3 8) * (vlM (Bm 2 0) (Bm 2 3 1))))), (3, .int (Bm 2 3 1)), (0, .ref 0), (1, .int 2), (2, .int 3)]) (st2 := []) rfl rfl ?_
    refine mB hT 17 rfl ?_
    refine hC.2 _ 0 [_, _, _] _ _ _ _ _ (m_value_2_1 _) rfl rfl (Nat.le_of_ble_eq_true rfl) rfl ?_
    refine mB hT 12 rfl ?_
    refine mIf (fun hp => absurd hp h1) (fun _ => ?_)
    refine mNf (lv2 := [(5, .int 2), (4, .int (((mnM (Bm 2 3)) + ((Bm 2 3 8) * (vlM (Bm 2 0) (Bm 2 3 1)))) + ((Bm 2 3 9) * (vlM (Bm 2 1) (Bm 2 3 1))))), (3, .int (Bm 2 3 1)), (0, .ref 0), (1, .int 2), (2, .int 3)]) (st2 := []) rfl rfl ?_
    refine mB hT 17 rfl ?_
    refine hC.2 _ 0 [_, _, _] _ _ _ _ _ (m_value_2_2 _) rfl rfl (Nat.le_of_ble_eq_true rfl) rfl ?_
    refine mB hT 12 rfl ?_
    refine mIf (fun hp => absurd hp h1) (fun _ => ?_)
    refine mNf (lv2 := [(5, .int 3), (4, .int ((((mnM (Bm 2 3)) + ((Bm 2 3 8) * (vlM (Bm 2 0) (Bm 2 3 1)))) + ((Bm 2 3 9) * (vlM (Bm 2 1) (Bm 2 3 1)))) + ((Bm 2 3 10) * (vlM (Bm 2 2) (Bm 2 3 1))))), (3, .int (Bm 2 3 1)), (0, .ref 0), (1, .int 2), (2, .int 3)]) (st2 := []) rfl rfl ?_
    refine mB hT 17 rfl ?_
    refine hC.2 _ 0 [_, _, _] _ _ _ _ _ (m_value_2_3 _) rfl rfl (Nat.le_of_ble_eq_true rfl) rfl ?_
    refine mB hT 10 rfl ?_
    exact hR _ (by decide) _ _ _ (congrArg (fun z => [Value.int z]) (if_neg h1).symm) rfl
theorem m_all_2_3 {n vs : Nat} {wo un h : Int64} {bo : Nat → Int32} {ta tr ro ot : Nat → Int64} {Bm : Nat → Nat → Nat → Int32} {bk : Nat → Nat → Int32} (hn : n ≤ 4) : KX3_allOf l D ca ad [.ref 0, .int 2, .int 3] (MW (Int32.ofNat n) (Int32.ofNat vs) wo un h bo ta tr ro ot Bm bk) (some (.int (alM n (Bm 2) 3))) (MW (Int32.ofNat n) (Int32.ofNat vs) wo un h bo ta tr ro ot Bm bk) := by
  match n, hn with
  | 0, _ => exact m_all_2_3_0
  | 1, _ => exact m_all_2_3_1
  | 2, _ => exact m_all_2_3_2
  | 3, _ => exact m_all_2_3_3
  | 4, _ => exact m_all_2_3_4
set_option maxRecDepth 20000 in
theorem m_main_3_0 {n vs : Int32} {wo un h : Int64} {bo : Nat → Int32} {ta tr ro ot : Nat → Int64} {Bm : Nat → Nat → Nat → Int32} {bk : Nat → Nat → Int32} : KX3_mainOf l D ca ad [.ref 0, .int 3, .int 0] (MW n vs wo un h bo ta tr ro ot Bm bk) (some (.int (mnM (Bm 3 0)))) (MW n vs wo un h bo ta tr ro ot Bm bk) := by
  refine PX3_mainOf (Nat.le_of_ble_eq_true rfl) ?_
  intro G hT hC hR
  refine mB hT 12 rfl ?_
  refine mIf (fun h1 => ?_) (fun h1 => ?_)
  · refine mB hT 2 rfl ?_
    exact hR _ (by decide) _ _ _ (congrArg (fun z => [Value.int z]) (if_pos h1).symm) rfl
  · refine mB hT 12 rfl ?_
    refine hC _ 0 [_, _, _] _ _ _ _ _ (m_value_3_0 _) rfl rfl (Nat.le_of_ble_eq_true rfl) rfl ?_
    refine mB hT 1 rfl ?_
    exact hR _ (by decide) _ _ _ (congrArg (fun z => [Value.int z]) (if_neg h1).symm) rfl
set_option maxRecDepth 20000 in
theorem m_all_3_0_0 {vs : Int32} {wo un h : Int64} {bo : Nat → Int32} {ta tr ro ot : Nat → Int64} {Bm : Nat → Nat → Nat → Int32} {bk : Nat → Nat → Int32} : KX3_allOf l D ca ad [.ref 0, .int 3, .int 0] (MW 0 vs wo un h bo ta tr ro ot Bm bk) (some (.int (alM 0 (Bm 3) 0))) (MW 0 vs wo un h bo ta tr ro ot Bm bk) := by
  refine PX3_allOf (Nat.le_of_ble_eq_true rfl) ?_
  intro G hT hC hR
  refine mB hT 12 rfl ?_
  refine hC.1 _ 0 [_, _] _ _ _ _ _ (m_main_3_0) rfl rfl (Nat.le_of_ble_eq_true rfl) rfl ?_
  refine mB hT 8 rfl ?_
  exact hR _ (by decide) _ _ _ (congrArg (fun z => [Value.int z]) (show _ = alM 0 _ _ by unfold alM; split <;> rfl)) rfl
set_option maxRecDepth 20000 in
theorem m_all_3_0_1 {vs : Int32} {wo un h : Int64} {bo : Nat → Int32} {ta tr ro ot : Nat → Int64} {Bm : Nat → Nat → Nat → Int32} {bk : Nat → Nat → Int32} : KX3_allOf l D ca ad [.ref 0, .int 3, .int 0] (MW 1 vs wo un h bo ta tr ro ot Bm bk) (some (.int (alM 1 (Bm 3) 0))) (MW 1 vs wo un h bo ta tr ro ot Bm bk) := by
  refine PX3_allOf (Nat.le_of_ble_eq_true rfl) ?_
  intro G hT hC hR
  refine mB hT 12 rfl ?_
  refine hC.1 _ 0 [_, _] _ _ _ _ _ (m_main_3_0) rfl rfl (Nat.le_of_ble_eq_true rfl) rfl ?_
  refine mB hT 10 rfl ?_
  refine mIf (fun h1 => ?_) (fun h1 => ?_)
  · refine mNf (lv2 := [(5, .int 0), (4, .int (mnM (Bm 3 0))), (3, .int (Bm 3 0 1)), (0, .ref 0), (1, .int 3), (2, .int 0)]) (st2 := []) rfl rfl ?_
    refine mB hT 1 rfl ?_
    exact hR _ (by decide) _ _ _ (congrArg (fun z => [Value.int z]) (if_pos h1).symm) rfl
  · refine mNf (lv2 := [(5, .int 0), (4, .int (mnM (Bm 3 0))), (3, .int (Bm 3 0 1)), (0, .ref 0), (1, .int 3), (2, .int 0)]) (st2 := []) rfl rfl ?_
    refine mB hT 17 rfl ?_
    refine hC.2 _ 0 [_, _, _] _ _ _ _ _ (m_value_3_0 _) rfl rfl (Nat.le_of_ble_eq_true rfl) rfl ?_
    refine mB hT 10 rfl ?_
    exact hR _ (by decide) _ _ _ (congrArg (fun z => [Value.int z]) (if_neg h1).symm) rfl
set_option maxRecDepth 20000 in
theorem m_all_3_0_2 {vs : Int32} {wo un h : Int64} {bo : Nat → Int32} {ta tr ro ot : Nat → Int64} {Bm : Nat → Nat → Nat → Int32} {bk : Nat → Nat → Int32} : KX3_allOf l D ca ad [.ref 0, .int 3, .int 0] (MW 2 vs wo un h bo ta tr ro ot Bm bk) (some (.int (alM 2 (Bm 3) 0))) (MW 2 vs wo un h bo ta tr ro ot Bm bk) := by
  refine PX3_allOf (Nat.le_of_ble_eq_true rfl) ?_
  intro G hT hC hR
  refine mB hT 12 rfl ?_
  refine hC.1 _ 0 [_, _] _ _ _ _ _ (m_main_3_0) rfl rfl (Nat.le_of_ble_eq_true rfl) rfl ?_
  refine mB hT 10 rfl ?_
  refine mIf (fun h1 => ?_) (fun h1 => ?_)
  · refine mNf (lv2 := [(5, .int 0), (4, .int (mnM (Bm 3 0))), (3, .int (Bm 3 0 1)), (0, .ref 0), (1, .int 3), (2, .int 0)]) (st2 := []) rfl rfl ?_
    refine mB hT 1 rfl ?_
    exact hR _ (by decide) _ _ _ (congrArg (fun z => [Value.int z]) (if_pos h1).symm) rfl
  · refine mNf (lv2 := [(5, .int 0), (4, .int (mnM (Bm 3 0))), (3, .int (Bm 3 0 1)), (0, .ref 0), (1, .int 3), (2, .int 0)]) (st2 := []) rfl rfl ?_
    refine mB hT 17 rfl ?_
    refine hC.2 _ 0 [_, _, _] _ _ _ _ _ (m_value_3_0 _) rfl rfl (Nat.le_of_ble_eq_true rfl) rfl ?_
    refine mB hT 12 rfl ?_
    refine mIf (fun hp => absurd hp h1) (fun _ => ?_)
    refine mNf (lv2 := [(5, .int 1), (4, .int ((mnM (Bm 3 0)) + ((Bm 3 0 8) * (vlM (Bm 3 0) (Bm 3 0 1))))), (3, .int (Bm 3 0 1)), (0, .ref 0), (1, .int 3), (2, .int 0)]) (st2 := []) rfl rfl ?_
    refine mB hT 17 rfl ?_
    refine hC.2 _ 0 [_, _, _] _ _ _ _ _ (m_value_3_1 _) rfl rfl (Nat.le_of_ble_eq_true rfl) rfl ?_
    refine mB hT 10 rfl ?_
    exact hR _ (by decide) _ _ _ (congrArg (fun z => [Value.int z]) (if_neg h1).symm) rfl
set_option maxRecDepth 20000 in
theorem m_all_3_0_3 {vs : Int32} {wo un h : Int64} {bo : Nat → Int32} {ta tr ro ot : Nat → Int64} {Bm : Nat → Nat → Nat → Int32} {bk : Nat → Nat → Int32} : KX3_allOf l D ca ad [.ref 0, .int 3, .int 0] (MW 3 vs wo un h bo ta tr ro ot Bm bk) (some (.int (alM 3 (Bm 3) 0))) (MW 3 vs wo un h bo ta tr ro ot Bm bk) := by
  refine PX3_allOf (Nat.le_of_ble_eq_true rfl) ?_
  intro G hT hC hR
  refine mB hT 12 rfl ?_
  refine hC.1 _ 0 [_, _] _ _ _ _ _ (m_main_3_0) rfl rfl (Nat.le_of_ble_eq_true rfl) rfl ?_
  refine mB hT 10 rfl ?_
  refine mIf (fun h1 => ?_) (fun h1 => ?_)
  · refine mNf (lv2 := [(5, .int 0), (4, .int (mnM (Bm 3 0))), (3, .int (Bm 3 0 1)), (0, .ref 0), (1, .int 3), (2, .int 0)]) (st2 := []) rfl rfl ?_
    refine mB hT 1 rfl ?_
    exact hR _ (by decide) _ _ _ (congrArg (fun z => [Value.int z]) (if_pos h1).symm) rfl
  · refine mNf (lv2 := [(5, .int 0), (4, .int (mnM (Bm 3 0))), (3, .int (Bm 3 0 1)), (0, .ref 0), (1, .int 3), (2, .int 0)]) (st2 := []) rfl rfl ?_
    refine mB hT 17 rfl ?_
    refine hC.2 _ 0 [_, _, _] _ _ _ _ _ (m_value_3_0 _) rfl rfl (Nat.le_of_ble_eq_true rfl) rfl ?_
    refine mB hT 12 rfl ?_
    refine mIf (fun hp => absurd hp h1) (fun _ => ?_)
    refine mNf (lv2 := [(5, .int 1), (4, .int ((mnM (Bm 3 0)) + ((Bm 3 0 8) * (vlM (Bm 3 0) (Bm 3 0 1))))), (3, .int (Bm 3 0 1)), (0, .ref 0), (1, .int 3), (2, .int 0)]) (st2 := []) rfl rfl ?_
    refine mB hT 17 rfl ?_
    refine hC.2 _ 0 [_, _, _] _ _ _ _ _ (m_value_3_1 _) rfl rfl (Nat.le_of_ble_eq_true rfl) rfl ?_
    refine mB hT 12 rfl ?_
    refine mIf (fun hp => absurd hp h1) (fun _ => ?_)
    refine mNf (lv2 := [(5, .int 2), (4, .int (((mnM (Bm 3 0)) + ((Bm 3 0 8) * (vlM (Bm 3 0) (Bm 3 0 1)))) + ((Bm 3 0 9) * (vlM (Bm 3 1) (Bm 3 0 1))))), (3, .int (Bm 3 0 1)), (0, .ref 0), (1, .int 3), (2, .int 0)]) (st2 := []) rfl rfl ?_
    refine mB hT 17 rfl ?_
    refine hC.2 _ 0 [_, _, _] _ _ _ _ _ (m_value_3_2 _) rfl rfl (Nat.le_of_ble_eq_true rfl) rfl ?_
    refine mB hT 10 rfl ?_
    exact hR _ (by decide) _ _ _ (congrArg (fun z => [Value.int z]) (if_neg h1).symm) rfl
set_option maxRecDepth 20000 in
theorem m_all_3_0_4 {vs : Int32} {wo un h : Int64} {bo : Nat → Int32} {ta tr ro ot : Nat → Int64} {Bm : Nat → Nat → Nat → Int32} {bk : Nat → Nat → Int32} : KX3_allOf l D ca ad [.ref 0, .int 3, .int 0] (MW 4 vs wo un h bo ta tr ro ot Bm bk) (some (.int (alM 4 (Bm 3) 0))) (MW 4 vs wo un h bo ta tr ro ot Bm bk) := by
  refine PX3_allOf (Nat.le_of_ble_eq_true rfl) ?_
  intro G hT hC hR
  refine mB hT 12 rfl ?_
  refine hC.1 _ 0 [_, _] _ _ _ _ _ (m_main_3_0) rfl rfl (Nat.le_of_ble_eq_true rfl) rfl ?_
  refine mB hT 10 rfl ?_
  refine mIf (fun h1 => ?_) (fun h1 => ?_)
  · refine mNf (lv2 := [(5, .int 0), (4, .int (mnM (Bm 3 0))), (3, .int (Bm 3 0 1)), (0, .ref 0), (1, .int 3), (2, .int 0)]) (st2 := []) rfl rfl ?_
    refine mB hT 1 rfl ?_
    exact hR _ (by decide) _ _ _ (congrArg (fun z => [Value.int z]) (if_pos h1).symm) rfl
  · refine mNf (lv2 := [(5, .int 0), (4, .int (mnM (Bm 3 0))), (3, .int (Bm 3 0 1)), (0, .ref 0), (1, .int 3), (2, .int 0)]) (st2 := []) rfl rfl ?_
    refine mB hT 17 rfl ?_
    refine hC.2 _ 0 [_, _, _] _ _ _ _ _ (m_value_3_0 _) rfl rfl (Nat.le_of_ble_eq_true rfl) rfl ?_
    refine mB hT 12 rfl ?_
    refine mIf (fun hp => absurd hp h1) (fun _ => ?_)
    refine mNf (lv2 := [(5, .int 1), (4, .int ((mnM (Bm 3 0)) + ((Bm 3 0 8) * (vlM (Bm 3 0) (Bm 3 0 1))))), (3, .int (Bm 3 0 1)), (0, .ref 0), (1, .int 3), (2, .int 0)]) (st2 := []) rfl rfl ?_
    refine mB hT 17 rfl ?_
    refine hC.2 _ 0 [_, _, _] _ _ _ _ _ (m_value_3_1 _) rfl rfl (Nat.le_of_ble_eq_true rfl) rfl ?_
    refine mB hT 12 rfl ?_
    refine mIf (fun hp => absurd hp h1) (fun _ => ?_)
    refine mNf (lv2 := [(5, .int 2), (4, .int (((mnM (Bm 3 0)) + ((Bm 3 0 8) * (vlM (Bm 3 0) (Bm 3 0 1)))) + ((Bm 3 0 9) * (vlM (Bm 3 1) (Bm 3 0 1))))), (3, .int (Bm 3 0 1)), (0, .ref 0), (1, .int 3), (2, .int 0)]) (st2 := []) rfl rfl ?_
    refine mB hT 17 rfl ?_
    refine hC.2 _ 0 [_, _, _] _ _ _ _ _ (m_value_3_2 _) rfl rfl (Nat.le_of_ble_eq_true rfl) rfl ?_
    refine mB hT 12 rfl ?_
    refine mIf (fun hp => absurd hp h1) (fun _ => ?_)
    refine mNf (lv2 := [(5, .int 3), (4, .int ((((mnM (Bm 3 0)) + ((Bm 3 0 8) * (vlM (Bm 3 0) (Bm 3 0 1)))) + ((Bm 3 0 9) * (vlM (Bm 3 1) (Bm 3 0 1)))) + ((Bm 3 0 10) * (vlM (Bm 3 2) (Bm 3 0 1))))), (3, .int (Bm 3 0 1)), (0, .ref 0), (1, .int 3), (2, .int 0)]) (st2 := []) rfl rfl ?_
    refine mB hT 17 rfl ?_
    refine hC.2 _ 0 [_, _, _] _ _ _ _ _ (m_value_3_3 _) rfl rfl (Nat.le_of_ble_eq_true rfl) rfl ?_
    refine mB hT 10 rfl ?_
    exact hR _ (by decide) _ _ _ (congrArg (fun z => [Value.int z]) (if_neg h1).symm) rfl
theorem m_all_3_0 {n vs : Nat} {wo un h : Int64} {bo : Nat → Int32} {ta tr ro ot : Nat → Int64} {Bm : Nat → Nat → Nat → Int32} {bk : Nat → Nat → Int32} (hn : n ≤ 4) : KX3_allOf l D ca ad [.ref 0, .int 3, .int 0] (MW (Int32.ofNat n) (Int32.ofNat vs) wo un h bo ta tr ro ot Bm bk) (some (.int (alM n (Bm 3) 0))) (MW (Int32.ofNat n) (Int32.ofNat vs) wo un h bo ta tr ro ot Bm bk) := by
  match n, hn with
  | 0, _ => exact m_all_3_0_0
  | 1, _ => exact m_all_3_0_1
  | 2, _ => exact m_all_3_0_2
  | 3, _ => exact m_all_3_0_3
  | 4, _ => exact m_all_3_0_4
set_option maxRecDepth 20000 in
theorem m_main_3_1 {n vs : Int32} {wo un h : Int64} {bo : Nat → Int32} {ta tr ro ot : Nat → Int64} {Bm : Nat → Nat → Nat → Int32} {bk : Nat → Nat → Int32} : KX3_mainOf l D ca ad [.ref 0, .int 3, .int 1] (MW n vs wo un h bo ta tr ro ot Bm bk) (some (.int (mnM (Bm 3 1)))) (MW n vs wo un h bo ta tr ro ot Bm bk) := by
  refine PX3_mainOf (Nat.le_of_ble_eq_true rfl) ?_
  intro G hT hC hR
  refine mB hT 12 rfl ?_
  refine mIf (fun h1 => ?_) (fun h1 => ?_)
  · refine mB hT 2 rfl ?_
    exact hR _ (by decide) _ _ _ (congrArg (fun z => [Value.int z]) (if_pos h1).symm) rfl
  · refine mB hT 12 rfl ?_
    refine hC _ 0 [_, _, _] _ _ _ _ _ (m_value_3_1 _) rfl rfl (Nat.le_of_ble_eq_true rfl) rfl ?_
    refine mB hT 1 rfl ?_
    exact hR _ (by decide) _ _ _ (congrArg (fun z => [Value.int z]) (if_neg h1).symm) rfl
set_option maxRecDepth 20000 in
theorem m_all_3_1_0 {vs : Int32} {wo un h : Int64} {bo : Nat → Int32} {ta tr ro ot : Nat → Int64} {Bm : Nat → Nat → Nat → Int32} {bk : Nat → Nat → Int32} : KX3_allOf l D ca ad [.ref 0, .int 3, .int 1] (MW 0 vs wo un h bo ta tr ro ot Bm bk) (some (.int (alM 0 (Bm 3) 1))) (MW 0 vs wo un h bo ta tr ro ot Bm bk) := by
  refine PX3_allOf (Nat.le_of_ble_eq_true rfl) ?_
  intro G hT hC hR
  refine mB hT 12 rfl ?_
  refine hC.1 _ 0 [_, _] _ _ _ _ _ (m_main_3_1) rfl rfl (Nat.le_of_ble_eq_true rfl) rfl ?_
  refine mB hT 8 rfl ?_
  exact hR _ (by decide) _ _ _ (congrArg (fun z => [Value.int z]) (show _ = alM 0 _ _ by unfold alM; split <;> rfl)) rfl
set_option maxRecDepth 20000 in
theorem m_all_3_1_1 {vs : Int32} {wo un h : Int64} {bo : Nat → Int32} {ta tr ro ot : Nat → Int64} {Bm : Nat → Nat → Nat → Int32} {bk : Nat → Nat → Int32} : KX3_allOf l D ca ad [.ref 0, .int 3, .int 1] (MW 1 vs wo un h bo ta tr ro ot Bm bk) (some (.int (alM 1 (Bm 3) 1))) (MW 1 vs wo un h bo ta tr ro ot Bm bk) := by
  refine PX3_allOf (Nat.le_of_ble_eq_true rfl) ?_
  intro G hT hC hR
  refine mB hT 12 rfl ?_
  refine hC.1 _ 0 [_, _] _ _ _ _ _ (m_main_3_1) rfl rfl (Nat.le_of_ble_eq_true rfl) rfl ?_
  refine mB hT 10 rfl ?_
  refine mIf (fun h1 => ?_) (fun h1 => ?_)
  · refine mNf (lv2 := [(5, .int 0), (4, .int (mnM (Bm 3 1))), (3, .int (Bm 3 1 1)), (0, .ref 0), (1, .int 3), (2, .int 1)]) (st2 := []) rfl rfl ?_
    refine mB hT 1 rfl ?_
    exact hR _ (by decide) _ _ _ (congrArg (fun z => [Value.int z]) (if_pos h1).symm) rfl
  · refine mNf (lv2 := [(5, .int 0), (4, .int (mnM (Bm 3 1))), (3, .int (Bm 3 1 1)), (0, .ref 0), (1, .int 3), (2, .int 1)]) (st2 := []) rfl rfl ?_
    refine mB hT 17 rfl ?_
    refine hC.2 _ 0 [_, _, _] _ _ _ _ _ (m_value_3_0 _) rfl rfl (Nat.le_of_ble_eq_true rfl) rfl ?_
    refine mB hT 10 rfl ?_
    exact hR _ (by decide) _ _ _ (congrArg (fun z => [Value.int z]) (if_neg h1).symm) rfl
set_option maxRecDepth 20000 in
theorem m_all_3_1_2 {vs : Int32} {wo un h : Int64} {bo : Nat → Int32} {ta tr ro ot : Nat → Int64} {Bm : Nat → Nat → Nat → Int32} {bk : Nat → Nat → Int32} : KX3_allOf l D ca ad [.ref 0, .int 3, .int 1] (MW 2 vs wo un h bo ta tr ro ot Bm bk) (some (.int (alM 2 (Bm 3) 1))) (MW 2 vs wo un h bo ta tr ro ot Bm bk) := by
  refine PX3_allOf (Nat.le_of_ble_eq_true rfl) ?_
  intro G hT hC hR
  refine mB hT 12 rfl ?_
  refine hC.1 _ 0 [_, _] _ _ _ _ _ (m_main_3_1) rfl rfl (Nat.le_of_ble_eq_true rfl) rfl ?_
  refine mB hT 10 rfl ?_
  refine mIf (fun h1 => ?_) (fun h1 => ?_)
  · refine mNf (lv2 := [(5, .int 0), (4, .int (mnM (Bm 3 1))), (3, .int (Bm 3 1 1)), (0, .ref 0), (1, .int 3), (2, .int 1)]) (st2 := []) rfl rfl ?_
    refine mB hT 1 rfl ?_
    exact hR _ (by decide) _ _ _ (congrArg (fun z => [Value.int z]) (if_pos h1).symm) rfl
  · refine mNf (lv2 := [(5, .int 0), (4, .int (mnM (Bm 3 1))), (3, .int (Bm 3 1 1)), (0, .ref 0), (1, .int 3), (2, .int 1)]) (st2 := []) rfl rfl ?_
    refine mB hT 17 rfl ?_
    refine hC.2 _ 0 [_, _, _] _ _ _ _ _ (m_value_3_0 _) rfl rfl (Nat.le_of_ble_eq_true rfl) rfl ?_
    refine mB hT 12 rfl ?_
    refine mIf (fun hp => absurd hp h1) (fun _ => ?_)
    refine mNf (lv2 := [(5, .int 1), (4, .int ((mnM (Bm 3 1)) + ((Bm 3 1 8) * (vlM (Bm 3 0) (Bm 3 1 1))))), (3, .int (Bm 3 1 1)), (0, .ref 0), (1, .int 3), (2, .int 1)]) (st2 := []) rfl rfl ?_
    refine mB hT 17 rfl ?_
    refine hC.2 _ 0 [_, _, _] _ _ _ _ _ (m_value_3_1 _) rfl rfl (Nat.le_of_ble_eq_true rfl) rfl ?_
    refine mB hT 10 rfl ?_
    exact hR _ (by decide) _ _ _ (congrArg (fun z => [Value.int z]) (if_neg h1).symm) rfl
set_option maxRecDepth 20000 in
theorem m_all_3_1_3 {vs : Int32} {wo un h : Int64} {bo : Nat → Int32} {ta tr ro ot : Nat → Int64} {Bm : Nat → Nat → Nat → Int32} {bk : Nat → Nat → Int32} : KX3_allOf l D ca ad [.ref 0, .int 3, .int 1] (MW 3 vs wo un h bo ta tr ro ot Bm bk) (some (.int (alM 3 (Bm 3) 1))) (MW 3 vs wo un h bo ta tr ro ot Bm bk) := by
  refine PX3_allOf (Nat.le_of_ble_eq_true rfl) ?_
  intro G hT hC hR
  refine mB hT 12 rfl ?_
  refine hC.1 _ 0 [_, _] _ _ _ _ _ (m_main_3_1) rfl rfl (Nat.le_of_ble_eq_true rfl) rfl ?_
  refine mB hT 10 rfl ?_
  refine mIf (fun h1 => ?_) (fun h1 => ?_)
  · refine mNf (lv2 := [(5, .int 0), (4, .int (mnM (Bm 3 1))), (3, .int (Bm 3 1 1)), (0, .ref 0), (1, .int 3), (2, .int 1)]) (st2 := []) rfl rfl ?_
    refine mB hT 1 rfl ?_
    exact hR _ (by decide) _ _ _ (congrArg (fun z => [Value.int z]) (if_pos h1).symm) rfl
  · refine mNf (lv2 := [(5, .int 0), (4, .int (mnM (Bm 3 1))), (3, .int (Bm 3 1 1)), (0, .ref 0), (1, .int 3), (2, .int 1)]) (st2 := []) rfl rfl ?_
    refine mB hT 17 rfl ?_
    refine hC.2 _ 0 [_, _, _] _ _ _ _ _ (m_value_3_0 _) rfl rfl (Nat.le_of_ble_eq_true rfl) rfl ?_
    refine mB hT 12 rfl ?_
    refine mIf (fun hp => absurd hp h1) (fun _ => ?_)
    refine mNf (lv2 := [(5, .int 1), (4, .int ((mnM (Bm 3 1)) + ((Bm 3 1 8) * (vlM (Bm 3 0) (Bm 3 1 1))))), (3, .int (Bm 3 1 1)), (0, .ref 0), (1, .int 3), (2, .int 1)]) (st2 := []) rfl rfl ?_
    refine mB hT 17 rfl ?_
    refine hC.2 _ 0 [_, _, _] _ _ _ _ _ (m_value_3_1 _) rfl rfl (Nat.le_of_ble_eq_true rfl) rfl ?_
    refine mB hT 12 rfl ?_
    refine mIf (fun hp => absurd hp h1) (fun _ => ?_)
    refine mNf (lv2 := [(5, .int 2), (4, .int (((mnM (Bm 3 1)) + ((Bm 3 1 8) * (vlM (Bm 3 0) (Bm 3 1 1)))) + ((Bm 3 1 9) * (vlM (Bm 3 1) (Bm 3 1 1))))), (3, .int (Bm 3 1 1)), (0, .ref 0), (1, .int 3), (2, .int 1)]) (st2 := []) rfl rfl ?_
    refine mB hT 17 rfl ?_
    refine hC.2 _ 0 [_, _, _] _ _ _ _ _ (m_value_3_2 _) rfl rfl (Nat.le_of_ble_eq_true rfl) rfl ?_
    refine mB hT 10 rfl ?_
    exact hR _ (by decide) _ _ _ (congrArg (fun z => [Value.int z]) (if_neg h1).symm) rfl
set_option maxRecDepth 20000 in
theorem m_all_3_1_4 {vs : Int32} {wo un h : Int64} {bo : Nat → Int32} {ta tr ro ot : Nat → Int64} {Bm : Nat → Nat → Nat → Int32} {bk : Nat → Nat → Int32} : KX3_allOf l D ca ad [.ref 0, .int 3, .int 1] (MW 4 vs wo un h bo ta tr ro ot Bm bk) (some (.int (alM 4 (Bm 3) 1))) (MW 4 vs wo un h bo ta tr ro ot Bm bk) := by
  refine PX3_allOf (Nat.le_of_ble_eq_true rfl) ?_
  intro G hT hC hR
  refine mB hT 12 rfl ?_
  refine hC.1 _ 0 [_, _] _ _ _ _ _ (m_main_3_1) rfl rfl (Nat.le_of_ble_eq_true rfl) rfl ?_
  refine mB hT 10 rfl ?_
  refine mIf (fun h1 => ?_) (fun h1 => ?_)
  · refine mNf (lv2 := [(5, .int 0), (4, .int (mnM (Bm 3 1))), (3, .int (Bm 3 1 1)), (0, .ref 0), (1, .int 3), (2, .int 1)]) (st2 := []) rfl rfl ?_
    refine mB hT 1 rfl ?_
    exact hR _ (by decide) _ _ _ (congrArg (fun z => [Value.int z]) (if_pos h1).symm) rfl
  · refine mNf (lv2 := [(5, .int 0), (4, .int (mnM (Bm 3 1))), (3, .int (Bm 3 1 1)), (0, .ref 0), (1, .int 3), (2, .int 1)]) (st2 := []) rfl rfl ?_
    refine mB hT 17 rfl ?_
    refine hC.2 _ 0 [_, _, _] _ _ _ _ _ (m_value_3_0 _) rfl rfl (Nat.le_of_ble_eq_true rfl) rfl ?_
    refine mB hT 12 rfl ?_
    refine mIf (fun hp => absurd hp h1) (fun _ => ?_)
    refine mNf (lv2 := [(5, .int 1), (4, .int ((mnM (Bm 3 1)) + ((Bm 3 1 8) * (vlM (Bm 3 0) (Bm 3 1 1))))), (3, .int (Bm 3 1 1)), (0, .ref 0), (1, .int 3), (2, .int 1)]) (st2 := []) rfl rfl ?_
    refine mB hT 17 rfl ?_
    refine hC.2 _ 0 [_, _, _] _ _ _ _ _ (m_value_3_1 _) rfl rfl (Nat.le_of_ble_eq_true rfl) rfl ?_
    refine mB hT 12 rfl ?_
    refine mIf (fun hp => absurd hp h1) (fun _ => ?_)
    refine mNf (lv2 := [(5, .int 2), (4, .int (((mnM (Bm 3 1)) + ((Bm 3 1 8) * (vlM (Bm 3 0) (Bm 3 1 1)))) + ((Bm 3 1 9) * (vlM (Bm 3 1) (Bm 3 1 1))))), (3, .int (Bm 3 1 1)), (0, .ref 0), (1, .int 3), (2, .int 1)]) (st2 := []) rfl rfl ?_
    refine mB hT 17 rfl ?_
    refine hC.2 _ 0 [_, _, _] _ _ _ _ _ (m_value_3_2 _) rfl rfl (Nat.le_of_ble_eq_true rfl) rfl ?_
    refine mB hT 12 rfl ?_
    refine mIf (fun hp => absurd hp h1) (fun _ => ?_)
    refine mNf (lv2 := [(5, .int 3), (4, .int ((((mnM (Bm 3 1)) + ((Bm 3 1 8) * (vlM (Bm 3 0) (Bm 3 1 1)))) + ((Bm 3 1 9) * (vlM (Bm 3 1) (Bm 3 1 1)))) + ((Bm 3 1 10) * (vlM (Bm 3 2) (Bm 3 1 1))))), (3, .int (Bm 3 1 1)), (0, .ref 0), (1, .int 3), (2, .int 1)]) (st2 := []) rfl rfl ?_
    refine mB hT 17 rfl ?_
    refine hC.2 _ 0 [_, _, _] _ _ _ _ _ (m_value_3_3 _) rfl rfl (Nat.le_of_ble_eq_true rfl) rfl ?_
    refine mB hT 10 rfl ?_
    exact hR _ (by decide) _ _ _ (congrArg (fun z => [Value.int z]) (if_neg h1).symm) rfl
theorem m_all_3_1 {n vs : Nat} {wo un h : Int64} {bo : Nat → Int32} {ta tr ro ot : Nat → Int64} {Bm : Nat → Nat → Nat → Int32} {bk : Nat → Nat → Int32} (hn : n ≤ 4) : KX3_allOf l D ca ad [.ref 0, .int 3, .int 1] (MW (Int32.ofNat n) (Int32.ofNat vs) wo un h bo ta tr ro ot Bm bk) (some (.int (alM n (Bm 3) 1))) (MW (Int32.ofNat n) (Int32.ofNat vs) wo un h bo ta tr ro ot Bm bk) := by
  match n, hn with
  | 0, _ => exact m_all_3_1_0
  | 1, _ => exact m_all_3_1_1
  | 2, _ => exact m_all_3_1_2
  | 3, _ => exact m_all_3_1_3
  | 4, _ => exact m_all_3_1_4
set_option maxRecDepth 20000 in
theorem m_main_3_2 {n vs : Int32} {wo un h : Int64} {bo : Nat → Int32} {ta tr ro ot : Nat → Int64} {Bm : Nat → Nat → Nat → Int32} {bk : Nat → Nat → Int32} : KX3_mainOf l D ca ad [.ref 0, .int 3, .int 2] (MW n vs wo un h bo ta tr ro ot Bm bk) (some (.int (mnM (Bm 3 2)))) (MW n vs wo un h bo ta tr ro ot Bm bk) := by
  refine PX3_mainOf (Nat.le_of_ble_eq_true rfl) ?_
  intro G hT hC hR
  refine mB hT 12 rfl ?_
  refine mIf (fun h1 => ?_) (fun h1 => ?_)
  · refine mB hT 2 rfl ?_
    exact hR _ (by decide) _ _ _ (congrArg (fun z => [Value.int z]) (if_pos h1).symm) rfl
  · refine mB hT 12 rfl ?_
    refine hC _ 0 [_, _, _] _ _ _ _ _ (m_value_3_2 _) rfl rfl (Nat.le_of_ble_eq_true rfl) rfl ?_
    refine mB hT 1 rfl ?_
    exact hR _ (by decide) _ _ _ (congrArg (fun z => [Value.int z]) (if_neg h1).symm) rfl
set_option maxRecDepth 20000 in
theorem m_all_3_2_0 {vs : Int32} {wo un h : Int64} {bo : Nat → Int32} {ta tr ro ot : Nat → Int64} {Bm : Nat → Nat → Nat → Int32} {bk : Nat → Nat → Int32} : KX3_allOf l D ca ad [.ref 0, .int 3, .int 2] (MW 0 vs wo un h bo ta tr ro ot Bm bk) (some (.int (alM 0 (Bm 3) 2))) (MW 0 vs wo un h bo ta tr ro ot Bm bk) := by
  refine PX3_allOf (Nat.le_of_ble_eq_true rfl) ?_
  intro G hT hC hR
  refine mB hT 12 rfl ?_
  refine hC.1 _ 0 [_, _] _ _ _ _ _ (m_main_3_2) rfl rfl (Nat.le_of_ble_eq_true rfl) rfl ?_
  refine mB hT 8 rfl ?_
  exact hR _ (by decide) _ _ _ (congrArg (fun z => [Value.int z]) (show _ = alM 0 _ _ by unfold alM; split <;> rfl)) rfl
set_option maxRecDepth 20000 in
theorem m_all_3_2_1 {vs : Int32} {wo un h : Int64} {bo : Nat → Int32} {ta tr ro ot : Nat → Int64} {Bm : Nat → Nat → Nat → Int32} {bk : Nat → Nat → Int32} : KX3_allOf l D ca ad [.ref 0, .int 3, .int 2] (MW 1 vs wo un h bo ta tr ro ot Bm bk) (some (.int (alM 1 (Bm 3) 2))) (MW 1 vs wo un h bo ta tr ro ot Bm bk) := by
  refine PX3_allOf (Nat.le_of_ble_eq_true rfl) ?_
  intro G hT hC hR
  refine mB hT 12 rfl ?_
  refine hC.1 _ 0 [_, _] _ _ _ _ _ (m_main_3_2) rfl rfl (Nat.le_of_ble_eq_true rfl) rfl ?_
  refine mB hT 10 rfl ?_
  refine mIf (fun h1 => ?_) (fun h1 => ?_)
  · refine mNf (lv2 := [(5, .int 0), (4, .int (mnM (Bm 3 2))), (3, .int (Bm 3 2 1)), (0, .ref 0), (1, .int 3), (2, .int 2)]) (st2 := []) rfl rfl ?_
    refine mB hT 1 rfl ?_
    exact hR _ (by decide) _ _ _ (congrArg (fun z => [Value.int z]) (if_pos h1).symm) rfl
  · refine mNf (lv2 := [(5, .int 0), (4, .int (mnM (Bm 3 2))), (3, .int (Bm 3 2 1)), (0, .ref 0), (1, .int 3), (2, .int 2)]) (st2 := []) rfl rfl ?_
    refine mB hT 17 rfl ?_
    refine hC.2 _ 0 [_, _, _] _ _ _ _ _ (m_value_3_0 _) rfl rfl (Nat.le_of_ble_eq_true rfl) rfl ?_
    refine mB hT 10 rfl ?_
    exact hR _ (by decide) _ _ _ (congrArg (fun z => [Value.int z]) (if_neg h1).symm) rfl
set_option maxRecDepth 20000 in
theorem m_all_3_2_2 {vs : Int32} {wo un h : Int64} {bo : Nat → Int32} {ta tr ro ot : Nat → Int64} {Bm : Nat → Nat → Nat → Int32} {bk : Nat → Nat → Int32} : KX3_allOf l D ca ad [.ref 0, .int 3, .int 2] (MW 2 vs wo un h bo ta tr ro ot Bm bk) (some (.int (alM 2 (Bm 3) 2))) (MW 2 vs wo un h bo ta tr ro ot Bm bk) := by
  refine PX3_allOf (Nat.le_of_ble_eq_true rfl) ?_
  intro G hT hC hR
  refine mB hT 12 rfl ?_
  refine hC.1 _ 0 [_, _] _ _ _ _ _ (m_main_3_2) rfl rfl (Nat.le_of_ble_eq_true rfl) rfl ?_
  refine mB hT 10 rfl ?_
  refine mIf (fun h1 => ?_) (fun h1 => ?_)
  · refine mNf (lv2 := [(5, .int 0), (4, .int (mnM (Bm 3 2))), (3, .int (Bm 3 2 1)), (0, .ref 0), (1, .int 3), (2, .int 2)]) (st2 := []) rfl rfl ?_
    refine mB hT 1 rfl ?_
    exact hR _ (by decide) _ _ _ (congrArg (fun z => [Value.int z]) (if_pos h1).symm) rfl
  · refine mNf (lv2 := [(5, .int 0), (4, .int (mnM (Bm 3 2))), (3, .int (Bm 3 2 1)), (0, .ref 0), (1, .int 3), (2, .int 2)]) (st2 := []) rfl rfl ?_
    refine mB hT 17 rfl ?_
    refine hC.2 _ 0 [_, _, _] _ _ _ _ _ (m_value_3_0 _) rfl rfl (Nat.le_of_ble_eq_true rfl) rfl ?_
    refine mB hT 12 rfl ?_
    refine mIf (fun hp => absurd hp h1) (fun _ => ?_)
    refine mNf (lv2 := [(5, .int 1), (4, .int ((mnM (Bm 3 2)) + ((Bm 3 2 8) * (vlM (Bm 3 0) (Bm 3 2 1))))), (3, .int (Bm 3 2 1)), (0, .ref 0), (1, .int 3), (2, .int 2)]) (st2 := []) rfl rfl ?_
    refine mB hT 17 rfl ?_
    refine hC.2 _ 0 [_, _, _] _ _ _ _ _ (m_value_3_1 _) rfl rfl (Nat.le_of_ble_eq_true rfl) rfl ?_
    refine mB hT 10 rfl ?_
    exact hR _ (by decide) _ _ _ (congrArg (fun z => [Value.int z]) (if_neg h1).symm) rfl
set_option maxRecDepth 20000 in
theorem m_all_3_2_3 {vs : Int32} {wo un h : Int64} {bo : Nat → Int32} {ta tr ro ot : Nat → Int64} {Bm : Nat → Nat → Nat → Int32} {bk : Nat → Nat → Int32} : KX3_allOf l D ca ad [.ref 0, .int 3, .int 2] (MW 3 vs wo un h bo ta tr ro ot Bm bk) (some (.int (alM 3 (Bm 3) 2))) (MW 3 vs wo un h bo ta tr ro ot Bm bk) := by
  refine PX3_allOf (Nat.le_of_ble_eq_true rfl) ?_
  intro G hT hC hR
  refine mB hT 12 rfl ?_
  refine hC.1 _ 0 [_, _] _ _ _ _ _ (m_main_3_2) rfl rfl (Nat.le_of_ble_eq_true rfl) rfl ?_
  refine mB hT 10 rfl ?_
  refine mIf (fun h1 => ?_) (fun h1 => ?_)
  · refine mNf (lv2 := [(5, .int 0), (4, .int (mnM (Bm 3 2))), (3, .int (Bm 3 2 1)), (0, .ref 0), (1, .int 3), (2, .int 2)]) (st2 := []) rfl rfl ?_
    refine mB hT 1 rfl ?_
    exact hR _ (by decide) _ _ _ (congrArg (fun z => [Value.int z]) (if_pos h1).symm) rfl
  · refine mNf (lv2 := [(5, .int 0), (4, .int (mnM (Bm 3 2))), (3, .int (Bm 3 2 1)), (0, .ref 0), (1, .int 3), (2, .int 2)]) (st2 := []) rfl rfl ?_
    refine mB hT 17 rfl ?_
    refine hC.2 _ 0 [_, _, _] _ _ _ _ _ (m_value_3_0 _) rfl rfl (Nat.le_of_ble_eq_true rfl) rfl ?_
    refine mB hT 12 rfl ?_
    refine mIf (fun hp => absurd hp h1) (fun _ => ?_)
    refine mNf (lv2 := [(5, .int 1), (4, .int ((mnM (Bm 3 2)) + ((Bm 3 2 8) * (vlM (Bm 3 0) (Bm 3 2 1))))), (3, .int (Bm 3 2 1)), (0, .ref 0), (1, .int 3), (2, .int 2)]) (st2 := []) rfl rfl ?_
    refine mB hT 17 rfl ?_
    refine hC.2 _ 0 [_, _, _] _ _ _ _ _ (m_value_3_1 _) rfl rfl (Nat.le_of_ble_eq_true rfl) rfl ?_
    refine mB hT 12 rfl ?_
    refine mIf (fun hp => absurd hp h1) (fun _ => ?_)
    refine mNf (lv2 := [(5, .int 2), (4, .int (((mnM (Bm 3 2)) + ((Bm 3 2 8) * (vlM (Bm 3 0) (Bm 3 2 1)))) + ((Bm 3 2 9) * (vlM (Bm 3 1) (Bm 3 2 1))))), (3, .int (Bm 3 2 1)), (0, .ref 0), (1, .int 3), (2, .int 2)]) (st2 := []) rfl rfl ?_
    refine mB hT 17 rfl ?_
    refine hC.2 _ 0 [_, _, _] _ _ _ _ _ (m_value_3_2 _) rfl rfl (Nat.le_of_ble_eq_true rfl) rfl ?_
    refine mB hT 10 rfl ?_
    exact hR _ (by decide) _ _ _ (congrArg (fun z => [Value.int z]) (if_neg h1).symm) rfl
set_option maxRecDepth 20000 in
theorem m_all_3_2_4 {vs : Int32} {wo un h : Int64} {bo : Nat → Int32} {ta tr ro ot : Nat → Int64} {Bm : Nat → Nat → Nat → Int32} {bk : Nat → Nat → Int32} : KX3_allOf l D ca ad [.ref 0, .int 3, .int 2] (MW 4 vs wo un h bo ta tr ro ot Bm bk) (some (.int (alM 4 (Bm 3) 2))) (MW 4 vs wo un h bo ta tr ro ot Bm bk) := by
  refine PX3_allOf (Nat.le_of_ble_eq_true rfl) ?_
  intro G hT hC hR
  refine mB hT 12 rfl ?_
  refine hC.1 _ 0 [_, _] _ _ _ _ _ (m_main_3_2) rfl rfl (Nat.le_of_ble_eq_true rfl) rfl ?_
  refine mB hT 10 rfl ?_
  refine mIf (fun h1 => ?_) (fun h1 => ?_)
  · refine mNf (lv2 := [(5, .int 0), (4, .int (mnM (Bm 3 2))), (3, .int (Bm 3 2 1)), (0, .ref 0), (1, .int 3), (2, .int 2)]) (st2 := []) rfl rfl ?_
    refine mB hT 1 rfl ?_
    exact hR _ (by decide) _ _ _ (congrArg (fun z => [Value.int z]) (if_pos h1).symm) rfl
  · refine mNf (lv2 := [(5, .int 0), (4, .int (mnM (Bm 3 2))), (3, .int (Bm 3 2 1)), (0, .ref 0), (1, .int 3), (2, .int 2)]) (st2 := []) rfl rfl ?_
    refine mB hT 17 rfl ?_
    refine hC.2 _ 0 [_, _, _] _ _ _ _ _ (m_value_3_0 _) rfl rfl (Nat.le_of_ble_eq_true rfl) rfl ?_
    refine mB hT 12 rfl ?_
    refine mIf (fun hp => absurd hp h1) (fun _ => ?_)
    refine mNf (lv2 := [(5, .int 1), (4, .int ((mnM (Bm 3 2)) + ((Bm 3 2 8) * (vlM (Bm 3 0) (Bm 3 2 1))))), (3, .int (Bm 3 2 1)), (0, .ref 0), (1, .int 3), (2, .int 2)]) (st2 := []) rfl rfl ?_
    refine mB hT 17 rfl ?_
    refine hC.2 _ 0 [_, _, _] _ _ _ _ _ (m_value_3_1 _) rfl rfl (Nat.le_of_ble_eq_true rfl) rfl ?_
    refine mB hT 12 rfl ?_
    refine mIf (fun hp => absurd hp h1) (fun _ => ?_)
    refine mNf (lv2 := [(5, .int 2), (4, .int (((mnM (Bm 3 2)) + ((Bm 3 2 8) * (vlM (Bm 3 0) (Bm 3 2 1)))) + ((Bm 3 2 9) * (vlM (Bm 3 1) (Bm 3 2 1))))), (3, .int (Bm 3 2 1)), (0, .ref 0), (1, .int 3), (2, .int 2)]) (st2 := []) rfl rfl ?_
    refine mB hT 17 rfl ?_
    refine hC.2 _ 0 [_, _, _] _ _ _ _ _ (m_value_3_2 _) rfl rfl (Nat.le_of_ble_eq_true rfl) rfl ?_
    refine mB hT 12 rfl ?_
    refine mIf (fun hp => absurd hp h1) (fun _ => ?_)
    refine mNf (lv2 := [(5, .int 3), (4, .int ((((mnM (Bm 3 2)) + ((Bm 3 2 8) * (vlM (Bm 3 0) (Bm 3 2 1)))) + ((Bm 3 2 9) * (vlM (Bm 3 1) (Bm 3 2 1)))) + ((Bm 3 2 10) * (vlM (Bm 3 2) (Bm 3 2 1))))), (3, .int (Bm 3 2 1)), (0, .ref 0), (1, .int 3), (2, .int 2)]) (st2 := []) rfl rfl ?_
    refine mB hT 17 rfl ?_
    refine hC.2 _ 0 [_, _, _] _ _ _ _ _ (m_value_3_3 _) rfl rfl (Nat.le_of_ble_eq_true rfl) rfl ?_
    refine mB hT 10 rfl ?_
    exact hR _ (by decide) _ _ _ (congrArg (fun z => [Value.int z]) (if_neg h1).symm) rfl
theorem m_all_3_2 {n vs : Nat} {wo un h : Int64} {bo : Nat → Int32} {ta tr ro ot : Nat → Int64} {Bm : Nat → Nat → Nat → Int32} {bk : Nat → Nat → Int32} (hn : n ≤ 4) : KX3_allOf l D ca ad [.ref 0, .int 3, .int 2] (MW (Int32.ofNat n) (Int32.ofNat vs) wo un h bo ta tr ro ot Bm bk) (some (.int (alM n (Bm 3) 2))) (MW (Int32.ofNat n) (Int32.ofNat vs) wo un h bo ta tr ro ot Bm bk) := by
  match n, hn with
  | 0, _ => exact m_all_3_2_0
  | 1, _ => exact m_all_3_2_1
  | 2, _ => exact m_all_3_2_2
  | 3, _ => exact m_all_3_2_3
  | 4, _ => exact m_all_3_2_4
set_option maxRecDepth 20000 in
theorem m_main_3_3 {n vs : Int32} {wo un h : Int64} {bo : Nat → Int32} {ta tr ro ot : Nat → Int64} {Bm : Nat → Nat → Nat → Int32} {bk : Nat → Nat → Int32} : KX3_mainOf l D ca ad [.ref 0, .int 3, .int 3] (MW n vs wo un h bo ta tr ro ot Bm bk) (some (.int (mnM (Bm 3 3)))) (MW n vs wo un h bo ta tr ro ot Bm bk) := by
  refine PX3_mainOf (Nat.le_of_ble_eq_true rfl) ?_
  intro G hT hC hR
  refine mB hT 12 rfl ?_
  refine mIf (fun h1 => ?_) (fun h1 => ?_)
  · refine mB hT 2 rfl ?_
    exact hR _ (by decide) _ _ _ (congrArg (fun z => [Value.int z]) (if_pos h1).symm) rfl
  · refine mB hT 12 rfl ?_
    refine hC _ 0 [_, _, _] _ _ _ _ _ (m_value_3_3 _) rfl rfl (Nat.le_of_ble_eq_true rfl) rfl ?_
    refine mB hT 1 rfl ?_
    exact hR _ (by decide) _ _ _ (congrArg (fun z => [Value.int z]) (if_neg h1).symm) rfl
set_option maxRecDepth 20000 in
theorem m_all_3_3_0 {vs : Int32} {wo un h : Int64} {bo : Nat → Int32} {ta tr ro ot : Nat → Int64} {Bm : Nat → Nat → Nat → Int32} {bk : Nat → Nat → Int32} : KX3_allOf l D ca ad [.ref 0, .int 3, .int 3] (MW 0 vs wo un h bo ta tr ro ot Bm bk) (some (.int (alM 0 (Bm 3) 3))) (MW 0 vs wo un h bo ta tr ro ot Bm bk) := by
  refine PX3_allOf (Nat.le_of_ble_eq_true rfl) ?_
  intro G hT hC hR
  refine mB hT 12 rfl ?_
  refine hC.1 _ 0 [_, _] _ _ _ _ _ (m_main_3_3) rfl rfl (Nat.le_of_ble_eq_true rfl) rfl ?_
  refine mB hT 8 rfl ?_
  exact hR _ (by decide) _ _ _ (congrArg (fun z => [Value.int z]) (show _ = alM 0 _ _ by unfold alM; split <;> rfl)) rfl
set_option maxRecDepth 20000 in
theorem m_all_3_3_1 {vs : Int32} {wo un h : Int64} {bo : Nat → Int32} {ta tr ro ot : Nat → Int64} {Bm : Nat → Nat → Nat → Int32} {bk : Nat → Nat → Int32} : KX3_allOf l D ca ad [.ref 0, .int 3, .int 3] (MW 1 vs wo un h bo ta tr ro ot Bm bk) (some (.int (alM 1 (Bm 3) 3))) (MW 1 vs wo un h bo ta tr ro ot Bm bk) := by
  refine PX3_allOf (Nat.le_of_ble_eq_true rfl) ?_
  intro G hT hC hR
  refine mB hT 12 rfl ?_
  refine hC.1 _ 0 [_, _] _ _ _ _ _ (m_main_3_3) rfl rfl (Nat.le_of_ble_eq_true rfl) rfl ?_
  refine mB hT 10 rfl ?_
  refine mIf (fun h1 => ?_) (fun h1 => ?_)
  · refine mNf (lv2 := [(5, .int 0), (4, .int (mnM (Bm 3 3))), (3, .int (Bm 3 3 1)), (0, .ref 0), (1, .int 3), (2, .int 3)]) (st2 := []) rfl rfl ?_
    refine mB hT 1 rfl ?_
    exact hR _ (by decide) _ _ _ (congrArg (fun z => [Value.int z]) (if_pos h1).symm) rfl
  · refine mNf (lv2 := [(5, .int 0), (4, .int (mnM (Bm 3 3))), (3, .int (Bm 3 3 1)), (0, .ref 0), (1, .int 3), (2, .int 3)]) (st2 := []) rfl rfl ?_
    refine mB hT 17 rfl ?_
    refine hC.2 _ 0 [_, _, _] _ _ _ _ _ (m_value_3_0 _) rfl rfl (Nat.le_of_ble_eq_true rfl) rfl ?_
    refine mB hT 10 rfl ?_
    exact hR _ (by decide) _ _ _ (congrArg (fun z => [Value.int z]) (if_neg h1).symm) rfl
set_option maxRecDepth 20000 in
theorem m_all_3_3_2 {vs : Int32} {wo un h : Int64} {bo : Nat → Int32} {ta tr ro ot : Nat → Int64} {Bm : Nat → Nat → Nat → Int32} {bk : Nat → Nat → Int32} : KX3_allOf l D ca ad [.ref 0, .int 3, .int 3] (MW 2 vs wo un h bo ta tr ro ot Bm bk) (some (.int (alM 2 (Bm 3) 3))) (MW 2 vs wo un h bo ta tr ro ot Bm bk) := by
  refine PX3_allOf (Nat.le_of_ble_eq_true rfl) ?_
  intro G hT hC hR
  refine mB hT 12 rfl ?_
  refine hC.1 _ 0 [_, _] _ _ _ _ _ (m_main_3_3) rfl rfl (Nat.le_of_ble_eq_true rfl) rfl ?_
  refine mB hT 10 rfl ?_
  refine mIf (fun h1 => ?_) (fun h1 => ?_)
  · refine mNf (lv2 := [(5, .int 0), (4, .int (mnM (Bm 3 3))), (3, .int (Bm 3 3 1)), (0, .ref 0), (1, .int 3), (2, .int 3)]) (st2 := []) rfl rfl ?_
    refine mB hT 1 rfl ?_
    exact hR _ (by decide) _ _ _ (congrArg (fun z => [Value.int z]) (if_pos h1).symm) rfl
  · refine mNf (lv2 := [(5, .int 0), (4, .int (mnM (Bm 3 3))), (3, .int (Bm 3 3 1)), (0, .ref 0), (1, .int 3), (2, .int 3)]) (st2 := []) rfl rfl ?_
    refine mB hT 17 rfl ?_
    refine hC.2 _ 0 [_, _, _] _ _ _ _ _ (m_value_3_0 _) rfl rfl (Nat.le_of_ble_eq_true rfl) rfl ?_
    refine mB hT 12 rfl ?_
    refine mIf (fun hp => absurd hp h1) (fun _ => ?_)
    refine mNf (lv2 := [(5, .int 1), (4, .int ((mnM (Bm 3 3)) + ((Bm 3 3 8) * (vlM (Bm 3 0) (Bm 3 3 1))))), (3, .int (Bm 3 3 1)), (0, .ref 0), (1, .int 3), (2, .int 3)]) (st2 := []) rfl rfl ?_
    refine mB hT 17 rfl ?_
    refine hC.2 _ 0 [_, _, _] _ _ _ _ _ (m_value_3_1 _) rfl rfl (Nat.le_of_ble_eq_true rfl) rfl ?_
    refine mB hT 10 rfl ?_
    exact hR _ (by decide) _ _ _ (congrArg (fun z => [Value.int z]) (if_neg h1).symm) rfl
set_option maxRecDepth 20000 in
theorem m_all_3_3_3 {vs : Int32} {wo un h : Int64} {bo : Nat → Int32} {ta tr ro ot : Nat → Int64} {Bm : Nat → Nat → Nat → Int32} {bk : Nat → Nat → Int32} : KX3_allOf l D ca ad [.ref 0, .int 3, .int 3] (MW 3 vs wo un h bo ta tr ro ot Bm bk) (some (.int (alM 3 (Bm 3) 3))) (MW 3 vs wo un h bo ta tr ro ot Bm bk) := by
  refine PX3_allOf (Nat.le_of_ble_eq_true rfl) ?_
  intro G hT hC hR
  refine mB hT 12 rfl ?_
  refine hC.1 _ 0 [_, _] _ _ _ _ _ (m_main_3_3) rfl rfl (Nat.le_of_ble_eq_true rfl) rfl ?_
  refine mB hT 10 rfl ?_
  refine mIf (fun h1 => ?_) (fun h1 => ?_)
  · refine mNf (lv2 := [(5, .int 0), (4, .int (mnM (Bm 3 3))), (3, .int (Bm 3 3 1)), (0, .ref 0), (1, .int 3), (2, .int 3)]) (st2 := []) rfl rfl ?_
    refine mB hT 1 rfl ?_
    exact hR _ (by decide) _ _ _ (congrArg (fun z => [Value.int z]) (if_pos h1).symm) rfl
  · refine mNf (lv2 := [(5, .int 0), (4, .int (mnM (Bm 3 3))), (3, .int (Bm 3 3 1)), (0, .ref 0), (1, .int 3), (2, .int 3)]) (st2 := []) rfl rfl ?_
    refine mB hT 17 rfl ?_
    refine hC.2 _ 0 [_, _, _] _ _ _ _ _ (m_value_3_0 _) rfl rfl (Nat.le_of_ble_eq_true rfl) rfl ?_
    refine mB hT 12 rfl ?_
    refine mIf (fun hp => absurd hp h1) (fun _ => ?_)
    refine mNf (lv2 := [(5, .int 1), (4, .int ((mnM (Bm 3 3)) + ((Bm 3 3 8) * (vlM (Bm 3 0) (Bm 3 3 1))))), (3, .int (Bm 3 3 1)), (0, .ref 0), (1, .int 3), (2, .int 3)]) (st2 := []) rfl rfl ?_
    refine mB hT 17 rfl ?_
    refine hC.2 _ 0 [_, _, _] _ _ _ _ _ (m_value_3_1 _) rfl rfl (Nat.le_of_ble_eq_true rfl) rfl ?_
    refine mB hT 12 rfl ?_
    refine mIf (fun hp => absurd hp h1) (fun _ => ?_)
    refine mNf (lv2 := [(5, .int 2), (4, .int (((mnM (Bm 3 3)) + ((Bm 3 3 8) * (vlM (Bm 3 0) (Bm 3 3 1)))) + ((Bm 3 3 9) * (vlM (Bm 3 1) (Bm 3 3 1))))), (3, .int (Bm 3 3 1)), (0, .ref 0), (1, .int 3), (2, .int 3)]) (st2 := []) rfl rfl ?_
    refine mB hT 17 rfl ?_
    refine hC.2 _ 0 [_, _, _] _ _ _ _ _ (m_value_3_2 _) rfl rfl (Nat.le_of_ble_eq_true rfl) rfl ?_
    refine mB hT 10 rfl ?_
    exact hR _ (by decide) _ _ _ (congrArg (fun z => [Value.int z]) (if_neg h1).symm) rfl
set_option maxRecDepth 20000 in
theorem m_all_3_3_4 {vs : Int32} {wo un h : Int64} {bo : Nat → Int32} {ta tr ro ot : Nat → Int64} {Bm : Nat → Nat → Nat → Int32} {bk : Nat → Nat → Int32} : KX3_allOf l D ca ad [.ref 0, .int 3, .int 3] (MW 4 vs wo un h bo ta tr ro ot Bm bk) (some (.int (alM 4 (Bm 3) 3))) (MW 4 vs wo un h bo ta tr ro ot Bm bk) := by
  refine PX3_allOf (Nat.le_of_ble_eq_true rfl) ?_
  intro G hT hC hR
  refine mB hT 12 rfl ?_
  refine hC.1 _ 0 [_, _] _ _ _ _ _ (m_main_3_3) rfl rfl (Nat.le_of_ble_eq_true rfl) rfl ?_
  refine mB hT 10 rfl ?_
  refine mIf (fun h1 => ?_) (fun h1 => ?_)
  · refine mNf (lv2 := [(5, .int 0), (4, .int (mnM (Bm 3 3))), (3, .int (Bm 3 3 1)), (0, .ref 0), (1, .int 3), (2, .int 3)]) (st2 := []) rfl rfl ?_
    refine mB hT 1 rfl ?_
    exact hR _ (by decide) _ _ _ (congrArg (fun z => [Value.int z]) (if_pos h1).symm) rfl
  · refine mNf (lv2 := [(5, .int 0), (4, .int (mnM (Bm 3 3))), (3, .int (Bm 3 3 1)), (0, .ref 0), (1, .int 3), (2, .int 3)]) (st2 := []) rfl rfl ?_
    refine mB hT 17 rfl ?_
    refine hC.2 _ 0 [_, _, _] _ _ _ _ _ (m_value_3_0 _) rfl rfl (Nat.le_of_ble_eq_true rfl) rfl ?_
    refine mB hT 12 rfl ?_
    refine mIf (fun hp => absurd hp h1) (fun _ => ?_)
    refine mNf (lv2 := [(5, .int 1), (4, .int ((mnM (Bm 3 3)) + ((Bm 3 3 8) * (vlM (Bm 3 0) (Bm 3 3 1))))), (3, .int (Bm 3 3 1)), (0, .ref 0), (1, .int 3), (2, .int 3)]) (st2 := []) rfl rfl ?_
    refine mB hT 17 rfl ?_
    refine hC.2 _ 0 [_, _, _] _ _ _ _ _ (m_value_3_1 _) rfl rfl (Nat.le_of_ble_eq_true rfl) rfl ?_
    refine mB hT 12 rfl ?_
    refine mIf (fun hp => absurd hp h1) (fun _ => ?_)
    refine mNf (lv2 := [(5, .int 2), (4, .int (((mnM (Bm 3 3)) + ((Bm 3 3 8) * (vlM (Bm 3 0) (Bm 3 3 1)))) + ((Bm 3 3 9) * (vlM (Bm 3 1) (Bm 3 3 1))))), (3, .int (Bm 3 3 1)), (0, .ref 0), (1, .int 3), (2, .int 3)]) (st2 := []) rfl rfl ?_
    refine mB hT 17 rfl ?_
    refine hC.2 _ 0 [_, _, _] _ _ _ _ _ (m_value_3_2 _) rfl rfl (Nat.le_of_ble_eq_true rfl) rfl ?_
    refine mB hT 12 rfl ?_
    refine mIf (fun hp => absurd hp h1) (fun _ => ?_)
    refine mNf (lv2 := [(5, .int 3), (4, .int ((((mnM (Bm 3 3)) + ((Bm 3 3 8) * (vlM (Bm 3 0) (Bm 3 3 1)))) + ((Bm 3 3 9) * (vlM (Bm 3 1) (Bm 3 3 1)))) + ((Bm 3 3 10) * (vlM (Bm 3 2) (Bm 3 3 1))))), (3, .int (Bm 3 3 1)), (0, .ref 0), (1, .int 3), (2, .int 3)]) (st2 := []) rfl rfl ?_
    refine mB hT 17 rfl ?_
    refine hC.2 _ 0 [_, _, _] _ _ _ _ _ (m_value_3_3 _) rfl rfl (Nat.le_of_ble_eq_true rfl) rfl ?_
    refine mB hT 10 rfl ?_
    exact hR _ (by decide) _ _ _ (congrArg (fun z => [Value.int z]) (if_neg h1).symm) rfl
theorem m_all_3_3 {n vs : Nat} {wo un h : Int64} {bo : Nat → Int32} {ta tr ro ot : Nat → Int64} {Bm : Nat → Nat → Nat → Int32} {bk : Nat → Nat → Int32} (hn : n ≤ 4) : KX3_allOf l D ca ad [.ref 0, .int 3, .int 3] (MW (Int32.ofNat n) (Int32.ofNat vs) wo un h bo ta tr ro ot Bm bk) (some (.int (alM n (Bm 3) 3))) (MW (Int32.ofNat n) (Int32.ofNat vs) wo un h bo ta tr ro ot Bm bk) := by
  match n, hn with
  | 0, _ => exact m_all_3_3_0
  | 1, _ => exact m_all_3_3_1
  | 2, _ => exact m_all_3_3_2
  | 3, _ => exact m_all_3_3_3
  | 4, _ => exact m_all_3_3_4
set_option maxRecDepth 20000 in
theorem m_main_4_0 {n vs : Int32} {wo un h : Int64} {bo : Nat → Int32} {ta tr ro ot : Nat → Int64} {Bm : Nat → Nat → Nat → Int32} {bk : Nat → Nat → Int32} : KX3_mainOf l D ca ad [.ref 0, .int 4, .int 0] (MW n vs wo un h bo ta tr ro ot Bm bk) (some (.int (mnM (Bm 4 0)))) (MW n vs wo un h bo ta tr ro ot Bm bk) := by
  refine PX3_mainOf (Nat.le_of_ble_eq_true rfl) ?_
  intro G hT hC hR
  refine mB hT 12 rfl ?_
  refine mIf (fun h1 => ?_) (fun h1 => ?_)
  · refine mB hT 2 rfl ?_
    exact hR _ (by decide) _ _ _ (congrArg (fun z => [Value.int z]) (if_pos h1).symm) rfl
  · refine mB hT 12 rfl ?_
    refine hC _ 0 [_, _, _] _ _ _ _ _ (m_value_4_0 _) rfl rfl (Nat.le_of_ble_eq_true rfl) rfl ?_
    refine mB hT 1 rfl ?_
    exact hR _ (by decide) _ _ _ (congrArg (fun z => [Value.int z]) (if_neg h1).symm) rfl
set_option maxRecDepth 20000 in
theorem m_all_4_0_0 {vs : Int32} {wo un h : Int64} {bo : Nat → Int32} {ta tr ro ot : Nat → Int64} {Bm : Nat → Nat → Nat → Int32} {bk : Nat → Nat → Int32} : KX3_allOf l D ca ad [.ref 0, .int 4, .int 0] (MW 0 vs wo un h bo ta tr ro ot Bm bk) (some (.int (alM 0 (Bm 4) 0))) (MW 0 vs wo un h bo ta tr ro ot Bm bk) := by
  refine PX3_allOf (Nat.le_of_ble_eq_true rfl) ?_
  intro G hT hC hR
  refine mB hT 12 rfl ?_
  refine hC.1 _ 0 [_, _] _ _ _ _ _ (m_main_4_0) rfl rfl (Nat.le_of_ble_eq_true rfl) rfl ?_
  refine mB hT 8 rfl ?_
  exact hR _ (by decide) _ _ _ (congrArg (fun z => [Value.int z]) (show _ = alM 0 _ _ by unfold alM; split <;> rfl)) rfl
set_option maxRecDepth 20000 in
theorem m_all_4_0_1 {vs : Int32} {wo un h : Int64} {bo : Nat → Int32} {ta tr ro ot : Nat → Int64} {Bm : Nat → Nat → Nat → Int32} {bk : Nat → Nat → Int32} : KX3_allOf l D ca ad [.ref 0, .int 4, .int 0] (MW 1 vs wo un h bo ta tr ro ot Bm bk) (some (.int (alM 1 (Bm 4) 0))) (MW 1 vs wo un h bo ta tr ro ot Bm bk) := by
  refine PX3_allOf (Nat.le_of_ble_eq_true rfl) ?_
  intro G hT hC hR
  refine mB hT 12 rfl ?_
  refine hC.1 _ 0 [_, _] _ _ _ _ _ (m_main_4_0) rfl rfl (Nat.le_of_ble_eq_true rfl) rfl ?_
  refine mB hT 10 rfl ?_
  refine mIf (fun h1 => ?_) (fun h1 => ?_)
  · refine mNf (lv2 := [(5, .int 0), (4, .int (mnM (Bm 4 0))), (3, .int (Bm 4 0 1)), (0, .ref 0), (1, .int 4), (2, .int 0)]) (st2 := []) rfl rfl ?_
    refine mB hT 1 rfl ?_
    exact hR _ (by decide) _ _ _ (congrArg (fun z => [Value.int z]) (if_pos h1).symm) rfl
  · refine mNf (lv2 := [(5, .int 0), (4, .int (mnM (Bm 4 0))), (3, .int (Bm 4 0 1)), (0, .ref 0), (1, .int 4), (2, .int 0)]) (st2 := []) rfl rfl ?_
    refine mB hT 17 rfl ?_
    refine hC.2 _ 0 [_, _, _] _ _ _ _ _ (m_value_4_0 _) rfl rfl (Nat.le_of_ble_eq_true rfl) rfl ?_
    refine mB hT 10 rfl ?_
    exact hR _ (by decide) _ _ _ (congrArg (fun z => [Value.int z]) (if_neg h1).symm) rfl
set_option maxRecDepth 20000 in
theorem m_all_4_0_2 {vs : Int32} {wo un h : Int64} {bo : Nat → Int32} {ta tr ro ot : Nat → Int64} {Bm : Nat → Nat → Nat → Int32} {bk : Nat → Nat → Int32} : KX3_allOf l D ca ad [.ref 0, .int 4, .int 0] (MW 2 vs wo un h bo ta tr ro ot Bm bk) (some (.int (alM 2 (Bm 4) 0))) (MW 2 vs wo un h bo ta tr ro ot Bm bk) := by
  refine PX3_allOf (Nat.le_of_ble_eq_true rfl) ?_
  intro G hT hC hR
  refine mB hT 12 rfl ?_
  refine hC.1 _ 0 [_, _] _ _ _ _ _ (m_main_4_0) rfl rfl (Nat.le_of_ble_eq_true rfl) rfl ?_
  refine mB hT 10 rfl ?_
  refine mIf (fun h1 => ?_) (fun h1 => ?_)
  · refine mNf (lv2 := [(5, .int 0), (4, .int (mnM (Bm 4 0))), (3, .int (Bm 4 0 1)), (0, .ref 0), (1, .int 4), (2, .int 0)]) (st2 := []) rfl rfl ?_
    refine mB hT 1 rfl ?_
    exact hR _ (by decide) _ _ _ (congrArg (fun z => [Value.int z]) (if_pos h1).symm) rfl
  · refine mNf (lv2 := [(5, .int 0), (4, .int (mnM (Bm 4 0))), (3, .int (Bm 4 0 1)), (0, .ref 0), (1, .int 4), (2, .int 0)]) (st2 := []) rfl rfl ?_
    refine mB hT 17 rfl ?_
    refine hC.2 _ 0 [_, _, _] _ _ _ _ _ (m_value_4_0 _) rfl rfl (Nat.le_of_ble_eq_true rfl) rfl ?_
    refine mB hT 12 rfl ?_
    refine mIf (fun hp => absurd hp h1) (fun _ => ?_)
    refine mNf (lv2 := [(5, .int 1), (4, .int ((mnM (Bm 4 0)) + ((Bm 4 0 8) * (vlM (Bm 4 0) (Bm 4 0 1))))), (3, .int (Bm 4 0 1)), (0, .ref 0), (1, .int 4), (2, .int 0)]) (st2 := []) rfl rfl ?_
    refine mB hT 17 rfl ?_
    refine hC.2 _ 0 [_, _, _] _ _ _ _ _ (m_value_4_1 _) rfl rfl (Nat.le_of_ble_eq_true rfl) rfl ?_
    refine mB hT 10 rfl ?_
    exact hR _ (by decide) _ _ _ (congrArg (fun z => [Value.int z]) (if_neg h1).symm) rfl
set_option maxRecDepth 20000 in
theorem m_all_4_0_3 {vs : Int32} {wo un h : Int64} {bo : Nat → Int32} {ta tr ro ot : Nat → Int64} {Bm : Nat → Nat → Nat → Int32} {bk : Nat → Nat → Int32} : KX3_allOf l D ca ad [.ref 0, .int 4, .int 0] (MW 3 vs wo un h bo ta tr ro ot Bm bk) (some (.int (alM 3 (Bm 4) 0))) (MW 3 vs wo un h bo ta tr ro ot Bm bk) := by
  refine PX3_allOf (Nat.le_of_ble_eq_true rfl) ?_
  intro G hT hC hR
  refine mB hT 12 rfl ?_
  refine hC.1 _ 0 [_, _] _ _ _ _ _ (m_main_4_0) rfl rfl (Nat.le_of_ble_eq_true rfl) rfl ?_
  refine mB hT 10 rfl ?_
  refine mIf (fun h1 => ?_) (fun h1 => ?_)
  · refine mNf (lv2 := [(5, .int 0), (4, .int (mnM (Bm 4 0))), (3, .int (Bm 4 0 1)), (0, .ref 0), (1, .int 4), (2, .int 0)]) (st2 := []) rfl rfl ?_
    refine mB hT 1 rfl ?_
    exact hR _ (by decide) _ _ _ (congrArg (fun z => [Value.int z]) (if_pos h1).symm) rfl
  · refine mNf (lv2 := [(5, .int 0), (4, .int (mnM (Bm 4 0))), (3, .int (Bm 4 0 1)), (0, .ref 0), (1, .int 4), (2, .int 0)]) (st2 := []) rfl rfl ?_
    refine mB hT 17 rfl ?_
    refine hC.2 _ 0 [_, _, _] _ _ _ _ _ (m_value_4_0 _) rfl rfl (Nat.le_of_ble_eq_true rfl) rfl ?_
    refine mB hT 12 rfl ?_
    refine mIf (fun hp => absurd hp h1) (fun _ => ?_)
    refine mNf (lv2 := [(5, .int 1), (4, .int ((mnM (Bm 4 0)) + ((Bm 4 0 8) * (vlM (Bm 4 0) (Bm 4 0 1))))), (3, .int (Bm 4 0 1)), (0, .ref 0), (1, .int 4), (2, .int 0)]) (st2 := []) rfl rfl ?_
    refine mB hT 17 rfl ?_
    refine hC.2 _ 0 [_, _, _] _ _ _ _ _ (m_value_4_1 _) rfl rfl (Nat.le_of_ble_eq_true rfl) rfl ?_
    refine mB hT 12 rfl ?_
    refine mIf (fun hp => absurd hp h1) (fun _ => ?_)
    refine mNf (lv2 := [(5, .int 2), (4, .int (((mnM (Bm 4 0)) + ((Bm 4 0 8) * (vlM (Bm 4 0) (Bm 4 0 1)))) + ((Bm 4 0 9) * (vlM (Bm 4 1) (Bm 4 0 1))))), (3, .int (Bm 4 0 1)), (0, .ref 0), (1, .int 4), (2, .int 0)]) (st2 := []) rfl rfl ?_
    refine mB hT 17 rfl ?_
    refine hC.2 _ 0 [_, _, _] _ _ _ _ _ (m_value_4_2 _) rfl rfl (Nat.le_of_ble_eq_true rfl) rfl ?_
    refine mB hT 10 rfl ?_
    exact hR _ (by decide) _ _ _ (congrArg (fun z => [Value.int z]) (if_neg h1).symm) rfl
set_option maxRecDepth 20000 in
theorem m_all_4_0_4 {vs : Int32} {wo un h : Int64} {bo : Nat → Int32} {ta tr ro ot : Nat → Int64} {Bm : Nat → Nat → Nat → Int32} {bk : Nat → Nat → Int32} : KX3_allOf l D ca ad [.ref 0, .int 4, .int 0] (MW 4 vs wo un h bo ta tr ro ot Bm bk) (some (.int (alM 4 (Bm 4) 0))) (MW 4 vs wo un h bo ta tr ro ot Bm bk) := by
  refine PX3_allOf (Nat.le_of_ble_eq_true rfl) ?_
  intro G hT hC hR
  refine mB hT 12 rfl ?_
  refine hC.1 _ 0 [_, _] _ _ _ _ _ (m_main_4_0) rfl rfl (Nat.le_of_ble_eq_true rfl) rfl ?_
  refine mB hT 10 rfl ?_
  refine mIf (fun h1 => ?_) (fun h1 => ?_)
  · refine mNf (lv2 := [(5, .int 0), (4, .int (mnM (Bm 4 0))), (3, .int (Bm 4 0 1)), (0, .ref 0), (1, .int 4), (2, .int 0)]) (st2 := []) rfl rfl ?_
    refine mB hT 1 rfl ?_
    exact hR _ (by decide) _ _ _ (congrArg (fun z => [Value.int z]) (if_pos h1).symm) rfl
  · refine mNf (lv2 := [(5, .int 0), (4, .int (mnM (Bm 4 0))), (3, .int (Bm 4 0 1)), (0, .ref 0), (1, .int 4), (2, .int 0)]) (st2 := []) rfl rfl ?_
    refine mB hT 17 rfl ?_
    refine hC.2 _ 0 [_, _, _] _ _ _ _ _ (m_value_4_0 _) rfl rfl (Nat.le_of_ble_eq_true rfl) rfl ?_
    refine mB hT 12 rfl ?_
    refine mIf (fun hp => absurd hp h1) (fun _ => ?_)
    refine mNf (lv2 := [(5, .int 1), (4, .int ((mnM (Bm 4 0)) + ((Bm 4 0 8) * (vlM (Bm 4 0) (Bm 4 0 1))))), (3, .int (Bm 4 0 1)), (0, .ref 0), (1, .int 4), (2, .int 0)]) (st2 := []) rfl rfl ?_
    refine mB hT 17 rfl ?_
    refine hC.2 _ 0 [_, _, _] _ _ _ _ _ (m_value_4_1 _) rfl rfl (Nat.le_of_ble_eq_true rfl) rfl ?_
    refine mB hT 12 rfl ?_
    refine mIf (fun hp => absurd hp h1) (fun _ => ?_)
    refine mNf (lv2 := [(5, .int 2), (4, .int (((mnM (Bm 4 0)) + ((Bm 4 0 8) * (vlM (Bm 4 0) (Bm 4 0 1)))) + ((Bm 4 0 9) * (vlM (Bm 4 1) (Bm 4 0 1))))), (3, .int (Bm 4 0 1)), (0, .ref 0), (1, .int 4), (2, .int 0)]) (st2 := []) rfl rfl ?_
    refine mB hT 17 rfl ?_
    refine hC.2 _ 0 [_, _, _] _ _ _ _ _ (m_value_4_2 _) rfl rfl (Nat.le_of_ble_eq_true rfl) rfl ?_
    refine mB hT 12 rfl ?_
    refine mIf (fun hp => absurd hp h1) (fun _ => ?_)
    refine mNf (lv2 := [(5, .int 3), (4, .int ((((mnM (Bm 4 0)) + ((Bm 4 0 8) * (vlM (Bm 4 0) (Bm 4 0 1)))) + ((Bm 4 0 9) * (vlM (Bm 4 1) (Bm 4 0 1)))) + ((Bm 4 0 10) * (vlM (Bm 4 2) (Bm 4 0 1))))), (3, .int (Bm 4 0 1)), (0, .ref 0), (1, .int 4), (2, .int 0)]) (st2 := []) rfl rfl ?_
    refine mB hT 17 rfl ?_
    refine hC.2 _ 0 [_, _, _] _ _ _ _ _ (m_value_4_3 _) rfl rfl (Nat.le_of_ble_eq_true rfl) rfl ?_
    refine mB hT 10 rfl ?_
    exact hR _ (by decide) _ _ _ (congrArg (fun z => [Value.int z]) (if_neg h1).symm) rfl
theorem m_all_4_0 {n vs : Nat} {wo un h : Int64} {bo : Nat → Int32} {ta tr ro ot : Nat → Int64} {Bm : Nat → Nat → Nat → Int32} {bk : Nat → Nat → Int32} (hn : n ≤ 4) : KX3_allOf l D ca ad [.ref 0, .int 4, .int 0] (MW (Int32.ofNat n) (Int32.ofNat vs) wo un h bo ta tr ro ot Bm bk) (some (.int (alM n (Bm 4) 0))) (MW (Int32.ofNat n) (Int32.ofNat vs) wo un h bo ta tr ro ot Bm bk) := by
  match n, hn with
  | 0, _ => exact m_all_4_0_0
  | 1, _ => exact m_all_4_0_1
  | 2, _ => exact m_all_4_0_2
  | 3, _ => exact m_all_4_0_3
  | 4, _ => exact m_all_4_0_4
set_option maxRecDepth 20000 in
theorem m_main_4_1 {n vs : Int32} {wo un h : Int64} {bo : Nat → Int32} {ta tr ro ot : Nat → Int64} {Bm : Nat → Nat → Nat → Int32} {bk : Nat → Nat → Int32} : KX3_mainOf l D ca ad [.ref 0, .int 4, .int 1] (MW n vs wo un h bo ta tr ro ot Bm bk) (some (.int (mnM (Bm 4 1)))) (MW n vs wo un h bo ta tr ro ot Bm bk) := by
  refine PX3_mainOf (Nat.le_of_ble_eq_true rfl) ?_
  intro G hT hC hR
  refine mB hT 12 rfl ?_
  refine mIf (fun h1 => ?_) (fun h1 => ?_)
  · refine mB hT 2 rfl ?_
    exact hR _ (by decide) _ _ _ (congrArg (fun z => [Value.int z]) (if_pos h1).symm) rfl
  · refine mB hT 12 rfl ?_
    refine hC _ 0 [_, _, _] _ _ _ _ _ (m_value_4_1 _) rfl rfl (Nat.le_of_ble_eq_true rfl) rfl ?_
    refine mB hT 1 rfl ?_
    exact hR _ (by decide) _ _ _ (congrArg (fun z => [Value.int z]) (if_neg h1).symm) rfl
set_option maxRecDepth 20000 in
theorem m_all_4_1_0 {vs : Int32} {wo un h : Int64} {bo : Nat → Int32} {ta tr ro ot : Nat → Int64} {Bm : Nat → Nat → Nat → Int32} {bk : Nat → Nat → Int32} : KX3_allOf l D ca ad [.ref 0, .int 4, .int 1] (MW 0 vs wo un h bo ta tr ro ot Bm bk) (some (.int (alM 0 (Bm 4) 1))) (MW 0 vs wo un h bo ta tr ro ot Bm bk) := by
  refine PX3_allOf (Nat.le_of_ble_eq_true rfl) ?_
  intro G hT hC hR
  refine mB hT 12 rfl ?_
  refine hC.1 _ 0 [_, _] _ _ _ _ _ (m_main_4_1) rfl rfl (Nat.le_of_ble_eq_true rfl) rfl ?_
  refine mB hT 8 rfl ?_
  exact hR _ (by decide) _ _ _ (congrArg (fun z => [Value.int z]) (show _ = alM 0 _ _ by unfold alM; split <;> rfl)) rfl
set_option maxRecDepth 20000 in
theorem m_all_4_1_1 {vs : Int32} {wo un h : Int64} {bo : Nat → Int32} {ta tr ro ot : Nat → Int64} {Bm : Nat → Nat → Nat → Int32} {bk : Nat → Nat → Int32} : KX3_allOf l D ca ad [.ref 0, .int 4, .int 1] (MW 1 vs wo un h bo ta tr ro ot Bm bk) (some (.int (alM 1 (Bm 4) 1))) (MW 1 vs wo un h bo ta tr ro ot Bm bk) := by
  refine PX3_allOf (Nat.le_of_ble_eq_true rfl) ?_
  intro G hT hC hR
  refine mB hT 12 rfl ?_
  refine hC.1 _ 0 [_, _] _ _ _ _ _ (m_main_4_1) rfl rfl (Nat.le_of_ble_eq_true rfl) rfl ?_
  refine mB hT 10 rfl ?_
  refine mIf (fun h1 => ?_) (fun h1 => ?_)
  · refine mNf (lv2 := [(5, .int 0), (4, .int (mnM (Bm 4 1))), (3, .int (Bm 4 1 1)), (0, .ref 0), (1, .int 4), (2, .int 1)]) (st2 := []) rfl rfl ?_
    refine mB hT 1 rfl ?_
    exact hR _ (by decide) _ _ _ (congrArg (fun z => [Value.int z]) (if_pos h1).symm) rfl
  · refine mNf (lv2 := [(5, .int 0), (4, .int (mnM (Bm 4 1))), (3, .int (Bm 4 1 1)), (0, .ref 0), (1, .int 4), (2, .int 1)]) (st2 := []) rfl rfl ?_
    refine mB hT 17 rfl ?_
    refine hC.2 _ 0 [_, _, _] _ _ _ _ _ (m_value_4_0 _) rfl rfl (Nat.le_of_ble_eq_true rfl) rfl ?_
    refine mB hT 10 rfl ?_
    exact hR _ (by decide) _ _ _ (congrArg (fun z => [Value.int z]) (if_neg h1).symm) rfl
set_option maxRecDepth 20000 in
theorem m_all_4_1_2 {vs : Int32} {wo un h : Int64} {bo : Nat → Int32} {ta tr ro ot : Nat → Int64} {Bm : Nat → Nat → Nat → Int32} {bk : Nat → Nat → Int32} : KX3_allOf l D ca ad [.ref 0, .int 4, .int 1] (MW 2 vs wo un h bo ta tr ro ot Bm bk) (some (.int (alM 2 (Bm 4) 1))) (MW 2 vs wo un h bo ta tr ro ot Bm bk) := by
  refine PX3_allOf (Nat.le_of_ble_eq_true rfl) ?_
  intro G hT hC hR
  refine mB hT 12 rfl ?_
  refine hC.1 _ 0 [_, _] _ _ _ _ _ (m_main_4_1) rfl rfl (Nat.le_of_ble_eq_true rfl) rfl ?_
  refine mB hT 10 rfl ?_
  refine mIf (fun h1 => ?_) (fun h1 => ?_)
  · refine mNf (lv2 := [(5, .int 0), (4, .int (mnM (Bm 4 1))), (3, .int (Bm 4 1 1)), (0, .ref 0), (1, .int 4), (2, .int 1)]) (st2 := []) rfl rfl ?_
    refine mB hT 1 rfl ?_
    exact hR _ (by decide) _ _ _ (congrArg (fun z => [Value.int z]) (if_pos h1).symm) rfl
  · refine mNf (lv2 := [(5, .int 0), (4, .int (mnM (Bm 4 1))), (3, .int (Bm 4 1 1)), (0, .ref 0), (1, .int 4), (2, .int 1)]) (st2 := []) rfl rfl ?_
    refine mB hT 17 rfl ?_
    refine hC.2 _ 0 [_, _, _] _ _ _ _ _ (m_value_4_0 _) rfl rfl (Nat.le_of_ble_eq_true rfl) rfl ?_
    refine mB hT 12 rfl ?_
    refine mIf (fun hp => absurd hp h1) (fun _ => ?_)
    refine mNf (lv2 := [(5, .int 1), (4, .int ((mnM (Bm 4 1)) + ((Bm 4 1 8) * (vlM (Bm 4 0) (Bm 4 1 1))))), (3, .int (Bm 4 1 1)), (0, .ref 0), (1, .int 4), (2, .int 1)]) (st2 := []) rfl rfl ?_
    refine mB hT 17 rfl ?_
    refine hC.2 _ 0 [_, _, _] _ _ _ _ _ (m_value_4_1 _) rfl rfl (Nat.le_of_ble_eq_true rfl) rfl ?_
    refine mB hT 10 rfl ?_
    exact hR _ (by decide) _ _ _ (congrArg (fun z => [Value.int z]) (if_neg h1).symm) rfl
set_option maxRecDepth 20000 in
theorem m_all_4_1_3 {vs : Int32} {wo un h : Int64} {bo : Nat → Int32} {ta tr ro ot : Nat → Int64} {Bm : Nat → Nat → Nat → Int32} {bk : Nat → Nat → Int32} : KX3_allOf l D ca ad [.ref 0, .int 4, .int 1] (MW 3 vs wo un h bo ta tr ro ot Bm bk) (some (.int (alM 3 (Bm 4) 1))) (MW 3 vs wo un h bo ta tr ro ot Bm bk) := by
  refine PX3_allOf (Nat.le_of_ble_eq_true rfl) ?_
  intro G hT hC hR
  refine mB hT 12 rfl ?_
  refine hC.1 _ 0 [_, _] _ _ _ _ _ (m_main_4_1) rfl rfl (Nat.le_of_ble_eq_true rfl) rfl ?_
  refine mB hT 10 rfl ?_
  refine mIf (fun h1 => ?_) (fun h1 => ?_)
  · refine mNf (lv2 := [(5, .int 0), (4, .int (mnM (Bm 4 1))), (3, .int (Bm 4 1 1)), (0, .ref 0), (1, .int 4), (2, .int 1)]) (st2 := []) rfl rfl ?_
    refine mB hT 1 rfl ?_
    exact hR _ (by decide) _ _ _ (congrArg (fun z => [Value.int z]) (if_pos h1).symm) rfl
  · refine mNf (lv2 := [(5, .int 0), (4, .int (mnM (Bm 4 1))), (3, .int (Bm 4 1 1)), (0, .ref 0), (1, .int 4), (2, .int 1)]) (st2 := []) rfl rfl ?_
    refine mB hT 17 rfl ?_
    refine hC.2 _ 0 [_, _, _] _ _ _ _ _ (m_value_4_0 _) rfl rfl (Nat.le_of_ble_eq_true rfl) rfl ?_
    refine mB hT 12 rfl ?_
    refine mIf (fun hp => absurd hp h1) (fun _ => ?_)
    refine mNf (lv2 := [(5, .int 1), (4, .int ((mnM (Bm 4 1)) + ((Bm 4 1 8) * (vlM (Bm 4 0) (Bm 4 1 1))))), (3, .int (Bm 4 1 1)), (0, .ref 0), (1, .int 4), (2, .int 1)]) (st2 := []) rfl rfl ?_
    refine mB hT 17 rfl ?_
    refine hC.2 _ 0 [_, _, _] _ _ _ _ _ (m_value_4_1 _) rfl rfl (Nat.le_of_ble_eq_true rfl) rfl ?_
    refine mB hT 12 rfl ?_
    refine mIf (fun hp => absurd hp h1) (fun _ => ?_)
    refine mNf (lv2 := [(5, .int 2), (4, .int (((mnM (Bm 4 1)) + ((Bm 4 1 8) * (vlM (Bm 4 0) (Bm 4 1 1)))) + ((Bm 4 1 9) * (vlM (Bm 4 1) (Bm 4 1 1))))), (3, .int (Bm 4 1 1)), (0, .ref 0), (1, .int 4), (2, .int 1)]) (st2 := []) rfl rfl ?_
    refine mB hT 17 rfl ?_
    refine hC.2 _ 0 [_, _, _] _ _ _ _ _ (m_value_4_2 _) rfl rfl (Nat.le_of_ble_eq_true rfl) rfl ?_
    refine mB hT 10 rfl ?_
    exact hR _ (by decide) _ _ _ (congrArg (fun z => [Value.int z]) (if_neg h1).symm) rfl
set_option maxRecDepth 20000 in
theorem m_all_4_1_4 {vs : Int32} {wo un h : Int64} {bo : Nat → Int32} {ta tr ro ot : Nat → Int64} {Bm : Nat → Nat → Nat → Int32} {bk : Nat → Nat → Int32} : KX3_allOf l D ca ad [.ref 0, .int 4, .int 1] (MW 4 vs wo un h bo ta tr ro ot Bm bk) (some (.int (alM 4 (Bm 4) 1))) (MW 4 vs wo un h bo ta tr ro ot Bm bk) := by
  refine PX3_allOf (Nat.le_of_ble_eq_true rfl) ?_
  intro G hT hC hR
  refine mB hT 12 rfl ?_
  refine hC.1 _ 0 [_, _] _ _ _ _ _ (m_main_4_1) rfl rfl (Nat.le_of_ble_eq_true rfl) rfl ?_
  refine mB hT 10 rfl ?_
  refine mIf (fun h1 => ?_) (fun h1 => ?_)
  · refine mNf (lv2 := [(5, .int 0), (4, .int (mnM (Bm 4 1))), (3, .int (Bm 4 1 1)), (0, .ref 0), (1, .int 4), (2, .int 1)]) (st2 := []) rfl rfl ?_
    refine mB hT 1 rfl ?_
    exact hR _ (by decide) _ _ _ (congrArg (fun z => [Value.int z]) (if_pos h1).symm) rfl
  · refine mNf (lv2 := [(5, .int 0), (4, .int (mnM (Bm 4 1))), (3, .int (Bm 4 1 1)), (0, .ref 0), (1, .int 4), (2, .int 1)]) (st2 := []) rfl rfl ?_
    refine mB hT 17 rfl ?_
    refine hC.2 _ 0 [_, _, _] _ _ _ _ _ (m_value_4_0 _) rfl rfl (Nat.le_of_ble_eq_true rfl) rfl ?_
    refine mB hT 12 rfl ?_
    refine mIf (fun hp => absurd hp h1) (fun _ => ?_)
    refine mNf (lv2 := [(5, .int 1), (4, .int ((mnM (Bm 4 1)) + ((Bm 4 1 8) * (vlM (Bm 4 0) (Bm 4 1 1))))), (3, .int (Bm 4 1 1)), (0, .ref 0), (1, .int 4), (2, .int 1)]) (st2 := []) rfl rfl ?_
    refine mB hT 17 rfl ?_
    refine hC.2 _ 0 [_, _, _] _ _ _ _ _ (m_value_4_1 _) rfl rfl (Nat.le_of_ble_eq_true rfl) rfl ?_
    refine mB hT 12 rfl ?_
    refine mIf (fun hp => absurd hp h1) (fun _ => ?_)
    refine mNf (lv2 := [(5, .int 2), (4, .int (((mnM (Bm 4 1)) + ((Bm 4 1 8) * (vlM (Bm 4 0) (Bm 4 1 1)))) + ((Bm 4 1 9) * (vlM (Bm 4 1) (Bm 4 1 1))))), (3, .int (Bm 4 1 1)), (0, .ref 0), (1, .int 4), (2, .int 1)]) (st2 := []) rfl rfl ?_
    refine mB hT 17 rfl ?_
    refine hC.2 _ 0 [_, _, _] _ _ _ _ _ (m_value_4_2 _) rfl rfl (Nat.le_of_ble_eq_true rfl) rfl ?_
    refine mB hT 12 rfl ?_
    refine mIf (fun hp => absurd hp h1) (fun _ => ?_)
    refine mNf (lv2 := [(5, .int 3), (4, .int ((((mnM (Bm 4 1)) + ((Bm 4 1 8) * (vlM (Bm 4 0) (Bm 4 1 1)))) + ((Bm 4 1 9) * (vlM (Bm 4 1) (Bm 4 1 1)))) + ((Bm 4 1 10) * (vlM (Bm 4 2) (Bm 4 1 1))))), (3, .int (Bm 4 1 1)), (0, .ref 0), (1, .int 4), (2, .int 1)]) (st2 := []) rfl rfl ?_
    refine mB hT 17 rfl ?_
    refine hC.2 _ 0 [_, _, _] _ _ _ _ _ (m_value_4_3 _) rfl rfl (Nat.le_of_ble_eq_true rfl) rfl ?_
    refine mB hT 10 rfl ?_
    exact hR _ (by decide) _ _ _ (congrArg (fun z => [Value.int z]) (if_neg h1).symm) rfl
theorem m_all_4_1 {n vs : Nat} {wo un h : Int64} {bo : Nat → Int32} {ta tr ro ot : Nat → Int64} {Bm : Nat → Nat → Nat → Int32} {bk : Nat → Nat → Int32} (hn : n ≤ 4) : KX3_allOf l D ca ad [.ref 0, .int 4, .int 1] (MW (Int32.ofNat n) (Int32.ofNat vs) wo un h bo ta tr ro ot Bm bk) (some (.int (alM n (Bm 4) 1))) (MW (Int32.ofNat n) (Int32.ofNat vs) wo un h bo ta tr ro ot Bm bk) := by
  match n, hn with
  | 0, _ => exact m_all_4_1_0
  | 1, _ => exact m_all_4_1_1
  | 2, _ => exact m_all_4_1_2
  | 3, _ => exact m_all_4_1_3
  | 4, _ => exact m_all_4_1_4
set_option maxRecDepth 20000 in
theorem m_main_4_2 {n vs : Int32} {wo un h : Int64} {bo : Nat → Int32} {ta tr ro ot : Nat → Int64} {Bm : Nat → Nat → Nat → Int32} {bk : Nat → Nat → Int32} : KX3_mainOf l D ca ad [.ref 0, .int 4, .int 2] (MW n vs wo un h bo ta tr ro ot Bm bk) (some (.int (mnM (Bm 4 2)))) (MW n vs wo un h bo ta tr ro ot Bm bk) := by
  refine PX3_mainOf (Nat.le_of_ble_eq_true rfl) ?_
  intro G hT hC hR
  refine mB hT 12 rfl ?_
  refine mIf (fun h1 => ?_) (fun h1 => ?_)
  · refine mB hT 2 rfl ?_
    exact hR _ (by decide) _ _ _ (congrArg (fun z => [Value.int z]) (if_pos h1).symm) rfl
  · refine mB hT 12 rfl ?_
    refine hC _ 0 [_, _, _] _ _ _ _ _ (m_value_4_2 _) rfl rfl (Nat.le_of_ble_eq_true rfl) rfl ?_
    refine mB hT 1 rfl ?_
    exact hR _ (by decide) _ _ _ (congrArg (fun z => [Value.int z]) (if_neg h1).symm) rfl
set_option maxRecDepth 20000 in
theorem m_all_4_2_0 {vs : Int32} {wo un h : Int64} {bo : Nat → Int32} {ta tr ro ot : Nat → Int64} {Bm : Nat → Nat → Nat → Int32} {bk : Nat → Nat → Int32} : KX3_allOf l D ca ad [.ref 0, .int 4, .int 2] (MW 0 vs wo un h bo ta tr ro ot Bm bk) (some (.int (alM 0 (Bm 4) 2))) (MW 0 vs wo un h bo ta tr ro ot Bm bk) := by
  refine PX3_allOf (Nat.le_of_ble_eq_true rfl) ?_
  intro G hT hC hR
  refine mB hT 12 rfl ?_
  refine hC.1 _ 0 [_, _] _ _ _ _ _ (m_main_4_2) rfl rfl (Nat.le_of_ble_eq_true rfl) rfl ?_
  refine mB hT 8 rfl ?_
  exact hR _ (by decide) _ _ _ (congrArg (fun z => [Value.int z]) (show _ = alM 0 _ _ by unfold alM; split <;> rfl)) rfl
set_option maxRecDepth 20000 in
theorem m_all_4_2_1 {vs : Int32} {wo un h : Int64} {bo : Nat → Int32} {ta tr ro ot : Nat → Int64} {Bm : Nat → Nat → Nat → Int32} {bk : Nat → Nat → Int32} : KX3_allOf l D ca ad [.ref 0, .int 4, .int 2] (MW 1 vs wo un h bo ta tr ro ot Bm bk) (some (.int (alM 1 (Bm 4) 2))) (MW 1 vs wo un h bo ta tr ro ot Bm bk) := by
  refine PX3_allOf (Nat.le_of_ble_eq_true rfl) ?_
  intro G hT hC hR
  refine mB hT 12 rfl ?_
  refine hC.1 _ 0 [_, _] _ _ _ _ _ (m_main_4_2) rfl rfl (Nat.le_of_ble_eq_true rfl) rfl ?_
  refine mB hT 10 rfl ?_
  refine mIf (fun h1 => ?_) (fun h1 => ?_)
  · refine mNf (lv2 := [(5, .int 0), (4, .int (mnM (Bm 4 2))), (3, .int (Bm 4 2 1)), (0, .ref 0), (1, .int 4), (2, .int 2)]) (st2 := []) rfl rfl ?_
    refine mB hT 1 rfl ?_
    exact hR _ (by decide) _ _ _ (congrArg (fun z => [Value.int z]) (if_pos h1).symm) rfl
  · refine mNf (lv2 := [(5, .int 0), (4, .int (mnM (Bm 4 2))), (3, .int (Bm 4 2 1)), (0, .ref 0), (1, .int 4), (2, .int 2)]) (st2 := []) rfl rfl ?_
    refine mB hT 17 rfl ?_
    refine hC.2 _ 0 [_, _, _] _ _ _ _ _ (m_value_4_0 _) rfl rfl (Nat.le_of_ble_eq_true rfl) rfl ?_
    refine mB hT 10 rfl ?_
    exact hR _ (by decide) _ _ _ (congrArg (fun z => [Value.int z]) (if_neg h1).symm) rfl
set_option maxRecDepth 20000 in
theorem m_all_4_2_2 {vs : Int32} {wo un h : Int64} {bo : Nat → Int32} {ta tr ro ot : Nat → Int64} {Bm : Nat → Nat → Nat → Int32} {bk : Nat → Nat → Int32} : KX3_allOf l D ca ad [.ref 0, .int 4, .int 2] (MW 2 vs wo un h bo ta tr ro ot Bm bk) (some (.int (alM 2 (Bm 4) 2))) (MW 2 vs wo un h bo ta tr ro ot Bm bk) := by
  refine PX3_allOf (Nat.le_of_ble_eq_true rfl) ?_
  intro G hT hC hR
  refine mB hT 12 rfl ?_
  refine hC.1 _ 0 [_, _] _ _ _ _ _ (m_main_4_2) rfl rfl (Nat.le_of_ble_eq_true rfl) rfl ?_
  refine mB hT 10 rfl ?_
  refine mIf (fun h1 => ?_) (fun h1 => ?_)
  · refine mNf (lv2 := [(5, .int 0), (4, .int (mnM (Bm 4 2))), (3, .int (Bm 4 2 1)), (0, .ref 0), (1, .int 4), (2, .int 2)]) (st2 := []) rfl rfl ?_
    refine mB hT 1 rfl ?_
    exact hR _ (by decide) _ _ _ (congrArg (fun z => [Value.int z]) (if_pos h1).symm) rfl
  · refine mNf (lv2 := [(5, .int 0), (4, .int (mnM (Bm 4 2))), (3, .int (Bm 4 2 1)), (0, .ref 0), (1, .int 4), (2, .int 2)]) (st2 := []) rfl rfl ?_
    refine mB hT 17 rfl ?_
    refine hC.2 _ 0 [_, _, _] _ _ _ _ _ (m_value_4_0 _) rfl rfl (Nat.le_of_ble_eq_true rfl) rfl ?_
    refine mB hT 12 rfl ?_
    refine mIf (fun hp => absurd hp h1) (fun _ => ?_)
    refine mNf (lv2 := [(5, .int 1), (4, .int ((mnM (Bm 4 2)) + ((Bm 4 2 8) * (vlM (Bm 4 0) (Bm 4 2 1))))), (3, .int (Bm 4 2 1)), (0, .ref 0), (1, .int 4), (2, .int 2)]) (st2 := []) rfl rfl ?_
    refine mB hT 17 rfl ?_
    refine hC.2 _ 0 [_, _, _] _ _ _ _ _ (m_value_4_1 _) rfl rfl (Nat.le_of_ble_eq_true rfl) rfl ?_
    refine mB hT 10 rfl ?_
    exact hR _ (by decide) _ _ _ (congrArg (fun z => [Value.int z]) (if_neg h1).symm) rfl
set_option maxRecDepth 20000 in
theorem m_all_4_2_3 {vs : Int32} {wo un h : Int64} {bo : Nat → Int32} {ta tr ro ot : Nat → Int64} {Bm : Nat → Nat → Nat → Int32} {bk : Nat → Nat → Int32} : KX3_allOf l D ca ad [.ref 0, .int 4, .int 2] (MW 3 vs wo un h bo ta tr ro ot Bm bk) (some (.int (alM 3 (Bm 4) 2))) (MW 3 vs wo un h bo ta tr ro ot Bm bk) := by
  refine PX3_allOf (Nat.le_of_ble_eq_true rfl) ?_
  intro G hT hC hR
  refine mB hT 12 rfl ?_
  refine hC.1 _ 0 [_, _] _ _ _ _ _ (m_main_4_2) rfl rfl (Nat.le_of_ble_eq_true rfl) rfl ?_
  refine mB hT 10 rfl ?_
  refine mIf (fun h1 => ?_) (fun h1 => ?_)
  · refine mNf (lv2 := [(5, .int 0), (4, .int (mnM (Bm 4 2))), (3, .int (Bm 4 2 1)), (0, .ref 0), (1, .int 4), (2, .int 2)]) (st2 := []) rfl rfl ?_
    refine mB hT 1 rfl ?_
    exact hR _ (by decide) _ _ _ (congrArg (fun z => [Value.int z]) (if_pos h1).symm) rfl
  · refine mNf (lv2 := [(5, .int 0), (4, .int (mnM (Bm 4 2))), (3, .int (Bm 4 2 1)), (0, .ref 0), (1, .int 4), (2, .int 2)]) (st2 := []) rfl rfl ?_
    refine mB hT 17 rfl ?_
    refine hC.2 _ 0 [_, _, _] _ _ _ _ _ (m_value_4_0 _) rfl rfl (Nat.le_of_ble_eq_true rfl) rfl ?_
    refine mB hT 12 rfl ?_
    refine mIf (fun hp => absurd hp h1) (fun _ => ?_)
    refine mNf (lv2 := [(5, .int 1), (4, .int ((mnM (Bm 4 2)) + ((Bm 4 2 8) * (vlM (Bm 4 0) (Bm 4 2 1))))), (3, .int (Bm 4 2 1)), (0, .ref 0), (1, .int 4), (2, .int 2)]) (st2 := []) rfl rfl ?_
    refine mB hT 17 rfl ?_
    refine hC.2 _ 0 [_, _, _] _ _ _ _ _ (m_value_4_1 _) rfl rfl (Nat.le_of_ble_eq_true rfl) rfl ?_
    refine mB hT 12 rfl ?_
    refine mIf (fun hp => absurd hp h1) (fun _ => ?_)
    refine mNf (lv2 := [(5, .int 2), (4, .int (((mnM (Bm 4 2)) + ((Bm 4 2 8) * (vlM (Bm 4 0) (Bm 4 2 1)))) + ((Bm 4 2 9) * (vlM (Bm 4 1) (Bm 4 2 1))))), (3, .int (Bm 4 2 1)), (0, .ref 0), (1, .int 4), (2, .int 2)]) (st2 := []) rfl rfl ?_
    refine mB hT 17 rfl ?_
    refine hC.2 _ 0 [_, _, _] _ _ _ _ _ (m_value_4_2 _) rfl rfl (Nat.le_of_ble_eq_true rfl) rfl ?_
    refine mB hT 10 rfl ?_
    exact hR _ (by decide) _ _ _ (congrArg (fun z => [Value.int z]) (if_neg h1).symm) rfl
set_option maxRecDepth 20000 in
theorem m_all_4_2_4 {vs : Int32} {wo un h : Int64} {bo : Nat → Int32} {ta tr ro ot : Nat → Int64} {Bm : Nat → Nat → Nat → Int32} {bk : Nat → Nat → Int32} : KX3_allOf l D ca ad [.ref 0, .int 4, .int 2] (MW 4 vs wo un h bo ta tr ro ot Bm bk) (some (.int (alM 4 (Bm 4) 2))) (MW 4 vs wo un h bo ta tr ro ot Bm bk) := by
  refine PX3_allOf (Nat.le_of_ble_eq_true rfl) ?_
  intro G hT hC hR
  refine mB hT 12 rfl ?_
  refine hC.1 _ 0 [_, _] _ _ _ _ _ (m_main_4_2) rfl rfl (Nat.le_of_ble_eq_true rfl) rfl ?_
  refine mB hT 10 rfl ?_
  refine mIf (fun h1 => ?_) (fun h1 => ?_)
  · refine mNf (lv2 := [(5, .int 0), (4, .int (mnM (Bm 4 2))), (3, .int (Bm 4 2 1)), (0, .ref 0), (1, .int 4), (2, .int 2)]) (st2 := []) rfl rfl ?_
    refine mB hT 1 rfl ?_
    exact hR _ (by decide) _ _ _ (congrArg (fun z => [Value.int z]) (if_pos h1).symm) rfl
  · refine mNf (lv2 := [(5, .int 0), (4, .int (mnM (Bm 4 2))), (3, .int (Bm 4 2 1)), (0, .ref 0), (1, .int 4), (2, .int 2)]) (st2 := []) rfl rfl ?_
    refine mB hT 17 rfl ?_
    refine hC.2 _ 0 [_, _, _] _ _ _ _ _ (m_value_4_0 _) rfl rfl (Nat.le_of_ble_eq_true rfl) rfl ?_
    refine mB hT 12 rfl ?_
    refine mIf (fun hp => absurd hp h1) (fun _ => ?_)
    refine mNf (lv2 := [(5, .int 1), (4, .int ((mnM (Bm 4 2)) + ((Bm 4 2 8) * (vlM (Bm 4 0) (Bm 4 2 1))))), (3, .int (Bm 4 2 1)), (0, .ref 0), (1, .int 4), (2, .int 2)]) (st2 := []) rfl rfl ?_
    refine mB hT 17 rfl ?_
    refine hC.2 _ 0 [_, _, _] _ _ _ _ _ (m_value_4_1 _) rfl rfl (Nat.le_of_ble_eq_true rfl) rfl ?_
    refine mB hT 12 rfl ?_
    refine mIf (fun hp => absurd hp h1) (fun _ => ?_)
    refine mNf (lv2 := [(5, .int 2), (4, .int (((mnM (Bm 4 2)) + ((Bm 4 2 8) * (vlM (Bm 4 0) (Bm 4 2 1)))) + ((Bm 4 2 9) * (vlM (Bm 4 1) (Bm 4 2 1))))), (3, .int (Bm 4 2 1)), (0, .ref 0), (1, .int 4), (2, .int 2)]) (st2 := []) rfl rfl ?_
    refine mB hT 17 rfl ?_
    refine hC.2 _ 0 [_, _, _] _ _ _ _ _ (m_value_4_2 _) rfl rfl (Nat.le_of_ble_eq_true rfl) rfl ?_
    refine mB hT 12 rfl ?_
    refine mIf (fun hp => absurd hp h1) (fun _ => ?_)
    refine mNf (lv2 := [(5, .int 3), (4, .int ((((mnM (Bm 4 2)) + ((Bm 4 2 8) * (vlM (Bm 4 0) (Bm 4 2 1)))) + ((Bm 4 2 9) * (vlM (Bm 4 1) (Bm 4 2 1)))) + ((Bm 4 2 10) * (vlM (Bm 4 2) (Bm 4 2 1))))), (3, .int (Bm 4 2 1)), (0, .ref 0), (1, .int 4), (2, .int 2)]) (st2 := []) rfl rfl ?_
    refine mB hT 17 rfl ?_
    refine hC.2 _ 0 [_, _, _] _ _ _ _ _ (m_value_4_3 _) rfl rfl (Nat.le_of_ble_eq_true rfl) rfl ?_
    refine mB hT 10 rfl ?_
    exact hR _ (by decide) _ _ _ (congrArg (fun z => [Value.int z]) (if_neg h1).symm) rfl
theorem m_all_4_2 {n vs : Nat} {wo un h : Int64} {bo : Nat → Int32} {ta tr ro ot : Nat → Int64} {Bm : Nat → Nat → Nat → Int32} {bk : Nat → Nat → Int32} (hn : n ≤ 4) : KX3_allOf l D ca ad [.ref 0, .int 4, .int 2] (MW (Int32.ofNat n) (Int32.ofNat vs) wo un h bo ta tr ro ot Bm bk) (some (.int (alM n (Bm 4) 2))) (MW (Int32.ofNat n) (Int32.ofNat vs) wo un h bo ta tr ro ot Bm bk) := by
  match n, hn with
  | 0, _ => exact m_all_4_2_0
  | 1, _ => exact m_all_4_2_1
  | 2, _ => exact m_all_4_2_2
  | 3, _ => exact m_all_4_2_3
  | 4, _ => exact m_all_4_2_4
set_option maxRecDepth 20000 in
theorem m_main_4_3 {n vs : Int32} {wo un h : Int64} {bo : Nat → Int32} {ta tr ro ot : Nat → Int64} {Bm : Nat → Nat → Nat → Int32} {bk : Nat → Nat → Int32} : KX3_mainOf l D ca ad [.ref 0, .int 4, .int 3] (MW n vs wo un h bo ta tr ro ot Bm bk) (some (.int (mnM (Bm 4 3)))) (MW n vs wo un h bo ta tr ro ot Bm bk) := by
  refine PX3_mainOf (Nat.le_of_ble_eq_true rfl) ?_
  intro G hT hC hR
  refine mB hT 12 rfl ?_
  refine mIf (fun h1 => ?_) (fun h1 => ?_)
  · refine mB hT 2 rfl ?_
    exact hR _ (by decide) _ _ _ (congrArg (fun z => [Value.int z]) (if_pos h1).symm) rfl
  · refine mB hT 12 rfl ?_
    refine hC _ 0 [_, _, _] _ _ _ _ _ (m_value_4_3 _) rfl rfl (Nat.le_of_ble_eq_true rfl) rfl ?_
    refine mB hT 1 rfl ?_
    exact hR _ (by decide) _ _ _ (congrArg (fun z => [Value.int z]) (if_neg h1).symm) rfl
set_option maxRecDepth 20000 in
theorem m_all_4_3_0 {vs : Int32} {wo un h : Int64} {bo : Nat → Int32} {ta tr ro ot : Nat → Int64} {Bm : Nat → Nat → Nat → Int32} {bk : Nat → Nat → Int32} : KX3_allOf l D ca ad [.ref 0, .int 4, .int 3] (MW 0 vs wo un h bo ta tr ro ot Bm bk) (some (.int (alM 0 (Bm 4) 3))) (MW 0 vs wo un h bo ta tr ro ot Bm bk) := by
  refine PX3_allOf (Nat.le_of_ble_eq_true rfl) ?_
  intro G hT hC hR
  refine mB hT 12 rfl ?_
  refine hC.1 _ 0 [_, _] _ _ _ _ _ (m_main_4_3) rfl rfl (Nat.le_of_ble_eq_true rfl) rfl ?_
  refine mB hT 8 rfl ?_
  exact hR _ (by decide) _ _ _ (congrArg (fun z => [Value.int z]) (show _ = alM 0 _ _ by unfold alM; split <;> rfl)) rfl
set_option maxRecDepth 20000 in
theorem m_all_4_3_1 {vs : Int32} {wo un h : Int64} {bo : Nat → Int32} {ta tr ro ot : Nat → Int64} {Bm : Nat → Nat → Nat → Int32} {bk : Nat → Nat → Int32} : KX3_allOf l D ca ad [.ref 0, .int 4, .int 3] (MW 1 vs wo un h bo ta tr ro ot Bm bk) (some (.int (alM 1 (Bm 4) 3))) (MW 1 vs wo un h bo ta tr ro ot Bm bk) := by
  refine PX3_allOf (Nat.le_of_ble_eq_true rfl) ?_
  intro G hT hC hR
  refine mB hT 12 rfl ?_
  refine hC.1 _ 0 [_, _] _ _ _ _ _ (m_main_4_3) rfl rfl (Nat.le_of_ble_eq_true rfl) rfl ?_
  refine mB hT 10 rfl ?_
  refine mIf (fun h1 => ?_) (fun h1 => ?_)
  · refine mNf (lv2 := [(5, .int 0), (4, .int (mnM (Bm 4 3))), (3, .int (Bm 4 3 1)), (0, .ref 0), (1, .int 4), (2, .int 3)]) (st2 := []) rfl rfl ?_
    refine mB hT 1 rfl ?_
    exact hR _ (by decide) _ _ _ (congrArg (fun z => [Value.int z]) (if_pos h1).symm) rfl
  · refine mNf (lv2 := [(5, .int 0), (4, .int (mnM (Bm 4 3))), (3, .int (Bm 4 3 1)), (0, .ref 0), (1, .int 4), (2, .int 3)]) (st2 := []) rfl rfl ?_
    refine mB hT 17 rfl ?_
    refine hC.2 _ 0 [_, _, _] _ _ _ _ _ (m_value_4_0 _) rfl rfl (Nat.le_of_ble_eq_true rfl) rfl ?_
    refine mB hT 10 rfl ?_
    exact hR _ (by decide) _ _ _ (congrArg (fun z => [Value.int z]) (if_neg h1).symm) rfl
set_option maxRecDepth 20000 in
theorem m_all_4_3_2 {vs : Int32} {wo un h : Int64} {bo : Nat → Int32} {ta tr ro ot : Nat → Int64} {Bm : Nat → Nat → Nat → Int32} {bk : Nat → Nat → Int32} : KX3_allOf l D ca ad [.ref 0, .int 4, .int 3] (MW 2 vs wo un h bo ta tr ro ot Bm bk) (some (.int (alM 2 (Bm 4) 3))) (MW 2 vs wo un h bo ta tr ro ot Bm bk) := by
  refine PX3_allOf (Nat.le_of_ble_eq_true rfl) ?_
  intro G hT hC hR
  refine mB hT 12 rfl ?_
  refine hC.1 _ 0 [_, _] _ _ _ _ _ (m_main_4_3) rfl rfl (Nat.le_of_ble_eq_true rfl) rfl ?_
  refine mB hT 10 rfl ?_
  refine mIf (fun h1 => ?_) (fun h1 => ?_)
  · refine mNf (lv2 := [(5, .int 0), (4, .int (mnM (Bm 4 3))), (3, .int (Bm 4 3 1)), (0, .ref 0), (1, .int 4), (2, .int 3)]) (st2 := []) rfl rfl ?_
    refine mB hT 1 rfl ?_
    exact hR _ (by decide) _ _ _ (congrArg (fun z => [Value.int z]) (if_pos h1).symm) rfl
  · refine mNf (lv2 := [(5, .int 0), (4, .int (mnM (Bm 4 3))), (3, .int (Bm 4 3 1)), (0, .ref 0), (1, .int 4), (2, .int 3)]) (st2 := []) rfl rfl ?_
    refine mB hT 17 rfl ?_
    refine hC.2 _ 0 [_, _, _] _ _ _ _ _ (m_value_4_0 _) rfl rfl (Nat.le_of_ble_eq_true rfl) rfl ?_
    refine mB hT 12 rfl ?_
    refine mIf (fun hp => absurd hp h1) (fun _ => ?_)
    refine mNf (lv2 := [(5, .int 1), (4, .int ((mnM (Bm 4 3)) + ((Bm 4 3 8) * (vlM (Bm 4 0) (Bm 4 3 1))))), (3, .int (Bm 4 3 1)), (0, .ref 0), (1, .int 4), (2, .int 3)]) (st2 := []) rfl rfl ?_
    refine mB hT 17 rfl ?_
    refine hC.2 _ 0 [_, _, _] _ _ _ _ _ (m_value_4_1 _) rfl rfl (Nat.le_of_ble_eq_true rfl) rfl ?_
    refine mB hT 10 rfl ?_
    exact hR _ (by decide) _ _ _ (congrArg (fun z => [Value.int z]) (if_neg h1).symm) rfl
set_option maxRecDepth 20000 in
theorem m_all_4_3_3 {vs : Int32} {wo un h : Int64} {bo : Nat → Int32} {ta tr ro ot : Nat → Int64} {Bm : Nat → Nat → Nat → Int32} {bk : Nat → Nat → Int32} : KX3_allOf l D ca ad [.ref 0, .int 4, .int 3] (MW 3 vs wo un h bo ta tr ro ot Bm bk) (some (.int (alM 3 (Bm 4) 3))) (MW 3 vs wo un h bo ta tr ro ot Bm bk) := by
  refine PX3_allOf (Nat.le_of_ble_eq_true rfl) ?_
  intro G hT hC hR
  refine mB hT 12 rfl ?_
  refine hC.1 _ 0 [_, _] _ _ _ _ _ (m_main_4_3) rfl rfl (Nat.le_of_ble_eq_true rfl) rfl ?_
  refine mB hT 10 rfl ?_
  refine mIf (fun h1 => ?_) (fun h1 => ?_)
  · refine mNf (lv2 := [(5, .int 0), (4, .int (mnM (Bm 4 3))), (3, .int (Bm 4 3 1)), (0, .ref 0), (1, .int 4), (2, .int 3)]) (st2 := []) rfl rfl ?_
    refine mB hT 1 rfl ?_
    exact hR _ (by decide) _ _ _ (congrArg (fun z => [Value.int z]) (if_pos h1).symm) rfl
  · refine mNf (lv2 := [(5, .int 0), (4, .int (mnM (Bm 4 3))), (3, .int (Bm 4 3 1)), (0, .ref 0), (1, .int 4), (2, .int 3)]) (st2 := []) rfl rfl ?_
    refine mB hT 17 rfl ?_
    refine hC.2 _ 0 [_, _, _] _ _ _ _ _ (m_value_4_0 _) rfl rfl (Nat.le_of_ble_eq_true rfl) rfl ?_
    refine mB hT 12 rfl ?_
    refine mIf (fun hp => absurd hp h1) (fun _ => ?_)
    refine mNf (lv2 := [(5, .int 1), (4, .int ((mnM (Bm 4 3)) + ((Bm 4 3 8) * (vlM (Bm 4 0) (Bm 4 3 1))))), (3, .int (Bm 4 3 1)), (0, .ref 0), (1, .int 4), (2, .int 3)]) (st2 := []) rfl rfl ?_
    refine mB hT 17 rfl ?_
    refine hC.2 _ 0 [_, _, _] _ _ _ _ _ (m_value_4_1 _) rfl rfl (Nat.le_of_ble_eq_true rfl) rfl ?_
    refine mB hT 12 rfl ?_
    refine mIf (fun hp => absurd hp h1) (fun _ => ?_)
    refine mNf (lv2 := [(5, .int 2), (4, .int (((mnM (Bm 4 3)) + ((Bm 4 3 8) * (vlM (Bm 4 0) (Bm 4 3 1)))) + ((Bm 4 3 9) * (vlM (Bm 4 1) (Bm 4 3 1))))), (3, .int (Bm 4 3 1)), (0, .ref 0), (1, .int 4), (2, .int 3)]) (st2 := []) rfl rfl ?_
    refine mB hT 17 rfl ?_
    refine hC.2 _ 0 [_, _, _] _ _ _ _ _ (m_value_4_2 _) rfl rfl (Nat.le_of_ble_eq_true rfl) rfl ?_
    refine mB hT 10 rfl ?_
    exact hR _ (by decide) _ _ _ (congrArg (fun z => [Value.int z]) (if_neg h1).symm) rfl
set_option maxRecDepth 20000 in
theorem m_all_4_3_4 {vs : Int32} {wo un h : Int64} {bo : Nat → Int32} {ta tr ro ot : Nat → Int64} {Bm : Nat → Nat → Nat → Int32} {bk : Nat → Nat → Int32} : KX3_allOf l D ca ad [.ref 0, .int 4, .int 3] (MW 4 vs wo un h bo ta tr ro ot Bm bk) (some (.int (alM 4 (Bm 4) 3))) (MW 4 vs wo un h bo ta tr ro ot Bm bk) := by
  refine PX3_allOf (Nat.le_of_ble_eq_true rfl) ?_
  intro G hT hC hR
  refine mB hT 12 rfl ?_
  refine hC.1 _ 0 [_, _] _ _ _ _ _ (m_main_4_3) rfl rfl (Nat.le_of_ble_eq_true rfl) rfl ?_
  refine mB hT 10 rfl ?_
  refine mIf (fun h1 => ?_) (fun h1 => ?_)
  · refine mNf (lv2 := [(5, .int 0), (4, .int (mnM (Bm 4 3))), (3, .int (Bm 4 3 1)), (0, .ref 0), (1, .int 4), (2, .int 3)]) (st2 := []) rfl rfl ?_
    refine mB hT 1 rfl ?_
    exact hR _ (by decide) _ _ _ (congrArg (fun z => [Value.int z]) (if_pos h1).symm) rfl
  · refine mNf (lv2 := [(5, .int 0), (4, .int (mnM (Bm 4 3))), (3, .int (Bm 4 3 1)), (0, .ref 0), (1, .int 4), (2, .int 3)]) (st2 := []) rfl rfl ?_
    refine mB hT 17 rfl ?_
    refine hC.2 _ 0 [_, _, _] _ _ _ _ _ (m_value_4_0 _) rfl rfl (Nat.le_of_ble_eq_true rfl) rfl ?_
    refine mB hT 12 rfl ?_
    refine mIf (fun hp => absurd hp h1) (fun _ => ?_)
    refine mNf (lv2 := [(5, .int 1), (4, .int ((mnM (Bm 4 3)) + ((Bm 4 3 8) * (vlM (Bm 4 0) (Bm 4 3 1))))), (3, .int (Bm 4 3 1)), (0, .ref 0), (1, .int 4), (2, .int 3)]) (st2 := []) rfl rfl ?_
    refine mB hT 17 rfl ?_
    refine hC.2 _ 0 [_, _, _] _ _ _ _ _ (m_value_4_1 _) rfl rfl (Nat.le_of_ble_eq_true rfl) rfl ?_
    refine mB hT 12 rfl ?_
    refine mIf (fun hp => absurd hp h1) (fun _ => ?_)
    refine mNf (lv2 := [(5, .int 2), (4, .int (((mnM (Bm 4 3)) + ((Bm 4 3 8) * (vlM (Bm 4 0) (Bm 4 3 1)))) + ((Bm 4 3 9) * (vlM (Bm 4 1) (Bm 4 3 1))))), (3, .int (Bm 4 3 1)), (0, .ref 0), (1, .int 4), (2, .int 3)]) (st2 := []) rfl rfl ?_
    refine mB hT 17 rfl ?_
    refine hC.2 _ 0 [_, _, _] _ _ _ _ _ (m_value_4_2 _) rfl rfl (Nat.le_of_ble_eq_true rfl) rfl ?_
    refine mB hT 12 rfl ?_
    refine mIf (fun hp => absurd hp h1) (fun _ => ?_)
    refine mNf (lv2 := [(5, .int 3), (4, .int ((((mnM (Bm 4 3)) + ((Bm 4 3 8) * (vlM (Bm 4 0) (Bm 4 3 1)))) + ((Bm 4 3 9) * (vlM (Bm 4 1) (Bm 4 3 1)))) + ((Bm 4 3 10) * (vlM (Bm 4 2) (Bm 4 3 1))))), (3, .int (Bm 4 3 1)), (0, .ref 0), (1, .int 4), (2, .int 3)]) (st2 := []) rfl rfl ?_
    refine mB hT 17 rfl ?_
    refine hC.2 _ 0 [_, _, _] _ _ _ _ _ (m_value_4_3 _) rfl rfl (Nat.le_of_ble_eq_true rfl) rfl ?_
    refine mB hT 10 rfl ?_
    exact hR _ (by decide) _ _ _ (congrArg (fun z => [Value.int z]) (if_neg h1).symm) rfl
theorem m_all_4_3 {n vs : Nat} {wo un h : Int64} {bo : Nat → Int32} {ta tr ro ot : Nat → Int64} {Bm : Nat → Nat → Nat → Int32} {bk : Nat → Nat → Int32} (hn : n ≤ 4) : KX3_allOf l D ca ad [.ref 0, .int 4, .int 3] (MW (Int32.ofNat n) (Int32.ofNat vs) wo un h bo ta tr ro ot Bm bk) (some (.int (alM n (Bm 4) 3))) (MW (Int32.ofNat n) (Int32.ofNat vs) wo un h bo ta tr ro ot Bm bk) := by
  match n, hn with
  | 0, _ => exact m_all_4_3_0
  | 1, _ => exact m_all_4_3_1
  | 2, _ => exact m_all_4_3_2
  | 3, _ => exact m_all_4_3_3
  | 4, _ => exact m_all_4_3_4
set_option maxRecDepth 20000 in
theorem m_main_5_0 {n vs : Int32} {wo un h : Int64} {bo : Nat → Int32} {ta tr ro ot : Nat → Int64} {Bm : Nat → Nat → Nat → Int32} {bk : Nat → Nat → Int32} : KX3_mainOf l D ca ad [.ref 0, .int 5, .int 0] (MW n vs wo un h bo ta tr ro ot Bm bk) (some (.int (mnM (Bm 5 0)))) (MW n vs wo un h bo ta tr ro ot Bm bk) := by
  refine PX3_mainOf (Nat.le_of_ble_eq_true rfl) ?_
  intro G hT hC hR
  refine mB hT 12 rfl ?_
  refine mIf (fun h1 => ?_) (fun h1 => ?_)
  · refine mB hT 2 rfl ?_
    exact hR _ (by decide) _ _ _ (congrArg (fun z => [Value.int z]) (if_pos h1).symm) rfl
  · refine mB hT 12 rfl ?_
    refine hC _ 0 [_, _, _] _ _ _ _ _ (m_value_5_0 _) rfl rfl (Nat.le_of_ble_eq_true rfl) rfl ?_
    refine mB hT 1 rfl ?_
    exact hR _ (by decide) _ _ _ (congrArg (fun z => [Value.int z]) (if_neg h1).symm) rfl
set_option maxRecDepth 20000 in
theorem m_all_5_0_0 {vs : Int32} {wo un h : Int64} {bo : Nat → Int32} {ta tr ro ot : Nat → Int64} {Bm : Nat → Nat → Nat → Int32} {bk : Nat → Nat → Int32} : KX3_allOf l D ca ad [.ref 0, .int 5, .int 0] (MW 0 vs wo un h bo ta tr ro ot Bm bk) (some (.int (alM 0 (Bm 5) 0))) (MW 0 vs wo un h bo ta tr ro ot Bm bk) := by
  refine PX3_allOf (Nat.le_of_ble_eq_true rfl) ?_
  intro G hT hC hR
  refine mB hT 12 rfl ?_
  refine hC.1 _ 0 [_, _] _ _ _ _ _ (m_main_5_0) rfl rfl (Nat.le_of_ble_eq_true rfl) rfl ?_
  refine mB hT 8 rfl ?_
  exact hR _ (by decide) _ _ _ (congrArg (fun z => [Value.int z]) (show _ = alM 0 _ _ by unfold alM; split <;> rfl)) rfl
set_option maxRecDepth 20000 in
theorem m_all_5_0_1 {vs : Int32} {wo un h : Int64} {bo : Nat → Int32} {ta tr ro ot : Nat → Int64} {Bm : Nat → Nat → Nat → Int32} {bk : Nat → Nat → Int32} : KX3_allOf l D ca ad [.ref 0, .int 5, .int 0] (MW 1 vs wo un h bo ta tr ro ot Bm bk) (some (.int (alM 1 (Bm 5) 0))) (MW 1 vs wo un h bo ta tr ro ot Bm bk) := by
  refine PX3_allOf (Nat.le_of_ble_eq_true rfl) ?_
  intro G hT hC hR
  refine mB hT 12 rfl ?_
  refine hC.1 _ 0 [_, _] _ _ _ _ _ (m_main_5_0) rfl rfl (Nat.le_of_ble_eq_true rfl) rfl ?_
  refine mB hT 10 rfl ?_
  refine mIf (fun h1 => ?_) (fun h1 => ?_)
  · refine mNf (lv2 := [(5, .int 0), (4, .int (mnM (Bm 5 0))), (3, .int (Bm 5 0 1)), (0, .ref 0), (1, .int 5), (2, .int 0)]) (st2 := []) rfl rfl ?_
    refine mB hT 1 rfl ?_
    exact hR _ (by decide) _ _ _ (congrArg (fun z => [Value.int z]) (if_pos h1).symm) rfl
  · refine mNf (lv2 := [(5, .int 0), (4, .int (mnM (Bm 5 0))), (3, .int (Bm 5 0 1)), (0, .ref 0), (1, .int 5), (2, .int 0)]) (st2 := []) rfl rfl ?_
    refine mB hT 17 rfl ?_
    refine hC.2 _ 0 [_, _, _] _ _ _ _ _ (m_value_5_0 _) rfl rfl (Nat.le_of_ble_eq_true rfl) rfl ?_
    refine mB hT 10 rfl ?_
    exact hR _ (by decide) _ _ _ (congrArg (fun z => [Value.int z]) (if_neg h1).symm) rfl
set_option maxRecDepth 20000 in
theorem m_all_5_0_2 {vs : Int32} {wo un h : Int64} {bo : Nat → Int32} {ta tr ro ot : Nat → Int64} {Bm : Nat → Nat → Nat → Int32} {bk : Nat → Nat → Int32} : KX3_allOf l D ca ad [.ref 0, .int 5, .int 0] (MW 2 vs wo un h bo ta tr ro ot Bm bk) (some (.int (alM 2 (Bm 5) 0))) (MW 2 vs wo un h bo ta tr ro ot Bm bk) := by
  refine PX3_allOf (Nat.le_of_ble_eq_true rfl) ?_
  intro G hT hC hR
  refine mB hT 12 rfl ?_
  refine hC.1 _ 0 [_, _] _ _ _ _ _ (m_main_5_0) rfl rfl (Nat.le_of_ble_eq_true rfl) rfl ?_
  refine mB hT 10 rfl ?_
  refine mIf (fun h1 => ?_) (fun h1 => ?_)
  · refine mNf (lv2 := [(5, .int 0), (4, .int (mnM (Bm 5 0))), (3, .int (Bm 5 0 1)), (0, .ref 0), (1, .int 5), (2, .int 0)]) (st2 := []) rfl rfl ?_
    refine mB hT 1 rfl ?_
    exact hR _ (by decide) _ _ _ (congrArg (fun z => [Value.int z]) (if_pos h1).symm) rfl
  · refine mNf (lv2 := [(5, .int 0), (4, .int (mnM (Bm 5 0))), (3, .int (Bm 5 0 1)), (0, .ref 0), (1, .int 5), (2, .int 0)]) (st2 := []) rfl rfl ?_
    refine mB hT 17 rfl ?_
    refine hC.2 _ 0 [_, _, _] _ _ _ _ _ (m_value_5_0 _) rfl rfl (Nat.le_of_ble_eq_true rfl) rfl ?_
    refine mB hT 12 rfl ?_
    refine mIf (fun hp => absurd hp h1) (fun _ => ?_)
    refine mNf (lv2 := [(5, .int 1), (4, .int ((mnM (Bm 5 0)) + ((Bm 5 0 8) * (vlM (Bm 5 0) (Bm 5 0 1))))), (3, .int (Bm 5 0 1)), (0, .ref 0), (1, .int 5), (2, .int 0)]) (st2 := []) rfl rfl ?_
    refine mB hT 17 rfl ?_
    refine hC.2 _ 0 [_, _, _] _ _ _ _ _ (m_value_5_1 _) rfl rfl (Nat.le_of_ble_eq_true rfl) rfl ?_
    refine mB hT 10 rfl ?_
    exact hR _ (by decide) _ _ _ (congrArg (fun z => [Value.int z]) (if_neg h1).symm) rfl
set_option maxRecDepth 20000 in
theorem m_all_5_0_3 {vs : Int32} {wo un h : Int64} {bo : Nat → Int32} {ta tr ro ot : Nat → Int64} {Bm : Nat → Nat → Nat → Int32} {bk : Nat → Nat → Int32} : KX3_allOf l D ca ad [.ref 0, .int 5, .int 0] (MW 3 vs wo un h bo ta tr ro ot Bm bk) (some (.int (alM 3 (Bm 5) 0))) (MW 3 vs wo un h bo ta tr ro ot Bm bk) := by
  refine PX3_allOf (Nat.le_of_ble_eq_true rfl) ?_
  intro G hT hC hR
  refine mB hT 12 rfl ?_
  refine hC.1 _ 0 [_, _] _ _ _ _ _ (m_main_5_0) rfl rfl (Nat.le_of_ble_eq_true rfl) rfl ?_
  refine mB hT 10 rfl ?_
  refine mIf (fun h1 => ?_) (fun h1 => ?_)
  · refine mNf (lv2 := [(5, .int 0), (4, .int (mnM (Bm 5 0))), (3, .int (Bm 5 0 1)), (0, .ref 0), (1, .int 5), (2, .int 0)]) (st2 := []) rfl rfl ?_
    refine mB hT 1 rfl ?_
    exact hR _ (by decide) _ _ _ (congrArg (fun z => [Value.int z]) (if_pos h1).symm) rfl
  · refine mNf (lv2 := [(5, .int 0), (4, .int (mnM (Bm 5 0))), (3, .int (Bm 5 0 1)), (0, .ref 0), (1, .int 5), (2, .int 0)]) (st2 := []) rfl rfl ?_
    refine mB hT 17 rfl ?_
    refine hC.2 _ 0 [_, _, _] _ _ _ _ _ (m_value_5_0 _) rfl rfl (Nat.le_of_ble_eq_true rfl) rfl ?_
    refine mB hT 12 rfl ?_
    refine mIf (fun hp => absurd hp h1) (fun _ => ?_)
    refine mNf (lv2 := [(5, .int 1), (4, .int ((mnM (Bm 5 0)) + ((Bm 5 0 8) * (vlM (Bm 5 0) (Bm 5 0 1))))), (3, .int (Bm 5 0 1)), (0, .ref 0), (1, .int 5), (2, .int 0)]) (st2 := []) rfl rfl ?_
    refine mB hT 17 rfl ?_
    refine hC.2 _ 0 [_, _, _] _ _ _ _ _ (m_value_5_1 _) rfl rfl (Nat.le_of_ble_eq_true rfl) rfl ?_
    refine mB hT 12 rfl ?_
    refine mIf (fun hp => absurd hp h1) (fun _ => ?_)
    refine mNf (lv2 := [(5, .int 2), (4, .int (((mnM (Bm 5 0)) + ((Bm 5 0 8) * (vlM (Bm 5 0) (Bm 5 0 1)))) + ((Bm 5 0 9) * (vlM (Bm 5 1) (Bm 5 0 1))))), (3, .int (Bm 5 0 1)), (0, .ref 0), (1, .int 5), (2, .int 0)]) (st2 := []) rfl rfl ?_
    refine mB hT 17 rfl ?_
    refine hC.2 _ 0 [_, _, _] _ _ _ _ _ (m_value_5_2 _) rfl rfl (Nat.le_of_ble_eq_true rfl) rfl ?_
    refine mB hT 10 rfl ?_
    exact hR _ (by decide) _ _ _ (congrArg (fun z => [Value.int z]) (if_neg h1).symm) rfl
set_option maxRecDepth 20000 in
theorem m_all_5_0_4 {vs : Int32} {wo un h : Int64} {bo : Nat → Int32} {ta tr ro ot : Nat → Int64} {Bm : Nat → Nat → Nat → Int32} {bk : Nat → Nat → Int32} : KX3_allOf l D ca ad [.ref 0, .int 5, .int 0] (MW 4 vs wo un h bo ta tr ro ot Bm bk) (some (.int (alM 4 (Bm 5) 0))) (MW 4 vs wo un h bo ta tr ro ot Bm bk) := by
  refine PX3_allOf (Nat.le_of_ble_eq_true rfl) ?_
  intro G hT hC hR
  refine mB hT 12 rfl ?_
  refine hC.1 _ 0 [_, _] _ _ _ _ _ (m_main_5_0) rfl rfl (Nat.le_of_ble_eq_true rfl) rfl ?_
  refine mB hT 10 rfl ?_
  refine mIf (fun h1 => ?_) (fun h1 => ?_)
  · refine mNf (lv2 := [(5, .int 0), (4, .int (mnM (Bm 5 0))), (3, .int (Bm 5 0 1)), (0, .ref 0), (1, .int 5), (2, .int 0)]) (st2 := []) rfl rfl ?_
    refine mB hT 1 rfl ?_
    exact hR _ (by decide) _ _ _ (congrArg (fun z => [Value.int z]) (if_pos h1).symm) rfl
  · refine mNf (lv2 := [(5, .int 0), (4, .int (mnM (Bm 5 0))), (3, .int (Bm 5 0 1)), (0, .ref 0), (1, .int 5), (2, .int 0)]) (st2 := []) rfl rfl ?_
    refine mB hT 17 rfl ?_
    refine hC.2 _ 0 [_, _, _] _ _ _ _ _ (m_value_5_0 _) rfl rfl (Nat.le_of_ble_eq_true rfl) rfl ?_
    refine mB hT 12 rfl ?_
    refine mIf (fun hp => absurd hp h1) (fun _ => ?_)
    refine mNf (lv2 := [(5, .int 1), (4, .int ((mnM (Bm 5 0)) + ((Bm 5 0 8) * (vlM (Bm 5 0) (Bm 5 0 1))))), (3, .int (Bm 5 0 1)), (0, .ref 0), (1, .int 5), (2, .int 0)]) (st2 := []) rfl rfl ?_
    refine mB hT 17 rfl ?_
    refine hC.2 _ 0 [_, _, _] _ _ _ _ _ (m_value_5_1 _) rfl rfl (Nat.le_of_ble_eq_true rfl) rfl ?_
    refine mB hT 12 rfl ?_
    refine mIf (fun hp => absurd hp h1) (fun _ => ?_)
    refine mNf (lv2 := [(5, .int 2), (4, .int (((mnM (Bm 5 0)) + ((Bm 5 0 8) * (vlM (Bm 5 0) (Bm 5 0 1)))) + ((Bm 5 0 9) * (vlM (Bm 5 1) (Bm 5 0 1))))), (3, .int (Bm 5 0 1)), (0, .ref 0), (1, .int 5), (2, .int 0)]) (st2 := []) rfl rfl ?_
    refine mB hT 17 rfl ?_
    refine hC.2 _ 0 [_, _, _] _ _ _ _ _ (m_value_5_2 _) rfl rfl (Nat.le_of_ble_eq_true rfl) rfl ?_
    refine mB hT 12 rfl ?_
    refine mIf (fun hp => absurd hp h1) (fun _ => ?_)
    refine mNf (lv2 := [(5, .int 3), (4, .int ((((mnM (Bm 5 0)) + ((Bm 5 0 8) * (vlM (Bm 5 0) (Bm 5 0 1)))) + ((Bm 5 0 9) * (vlM (Bm 5 1) (Bm 5 0 1)))) + ((Bm 5 0 10) * (vlM (Bm 5 2) (Bm 5 0 1))))), (3, .int (Bm 5 0 1)), (0, .ref 0), (1, .int 5), (2, .int 0)]) (st2 := []) rfl rfl ?_
    refine mB hT 17 rfl ?_
    refine hC.2 _ 0 [_, _, _] _ _ _ _ _ (m_value_5_3 _) rfl rfl (Nat.le_of_ble_eq_true rfl) rfl ?_
    refine mB hT 10 rfl ?_
    exact hR _ (by decide) _ _ _ (congrArg (fun z => [Value.int z]) (if_neg h1).symm) rfl
theorem m_all_5_0 {n vs : Nat} {wo un h : Int64} {bo : Nat → Int32} {ta tr ro ot : Nat → Int64} {Bm : Nat → Nat → Nat → Int32} {bk : Nat → Nat → Int32} (hn : n ≤ 4) : KX3_allOf l D ca ad [.ref 0, .int 5, .int 0] (MW (Int32.ofNat n) (Int32.ofNat vs) wo un h bo ta tr ro ot Bm bk) (some (.int (alM n (Bm 5) 0))) (MW (Int32.ofNat n) (Int32.ofNat vs) wo un h bo ta tr ro ot Bm bk) := by
  match n, hn with
  | 0, _ => exact m_all_5_0_0
  | 1, _ => exact m_all_5_0_1
  | 2, _ => exact m_all_5_0_2
  | 3, _ => exact m_all_5_0_3
  | 4, _ => exact m_all_5_0_4
set_option maxRecDepth 20000 in
theorem m_main_5_1 {n vs : Int32} {wo un h : Int64} {bo : Nat → Int32} {ta tr ro ot : Nat → Int64} {Bm : Nat → Nat → Nat → Int32} {bk : Nat → Nat → Int32} : KX3_mainOf l D ca ad [.ref 0, .int 5, .int 1] (MW n vs wo un h bo ta tr ro ot Bm bk) (some (.int (mnM (Bm 5 1)))) (MW n vs wo un h bo ta tr ro ot Bm bk) := by
  refine PX3_mainOf (Nat.le_of_ble_eq_true rfl) ?_
  intro G hT hC hR
  refine mB hT 12 rfl ?_
  refine mIf (fun h1 => ?_) (fun h1 => ?_)
  · refine mB hT 2 rfl ?_
    exact hR _ (by decide) _ _ _ (congrArg (fun z => [Value.int z]) (if_pos h1).symm) rfl
  · refine mB hT 12 rfl ?_
    refine hC _ 0 [_, _, _] _ _ _ _ _ (m_value_5_1 _) rfl rfl (Nat.le_of_ble_eq_true rfl) rfl ?_
    refine mB hT 1 rfl ?_
    exact hR _ (by decide) _ _ _ (congrArg (fun z => [Value.int z]) (if_neg h1).symm) rfl
set_option maxRecDepth 20000 in
theorem m_all_5_1_0 {vs : Int32} {wo un h : Int64} {bo : Nat → Int32} {ta tr ro ot : Nat → Int64} {Bm : Nat → Nat → Nat → Int32} {bk : Nat → Nat → Int32} : KX3_allOf l D ca ad [.ref 0, .int 5, .int 1] (MW 0 vs wo un h bo ta tr ro ot Bm bk) (some (.int (alM 0 (Bm 5) 1))) (MW 0 vs wo un h bo ta tr ro ot Bm bk) := by
  refine PX3_allOf (Nat.le_of_ble_eq_true rfl) ?_
  intro G hT hC hR
  refine mB hT 12 rfl ?_
  refine hC.1 _ 0 [_, _] _ _ _ _ _ (m_main_5_1) rfl rfl (Nat.le_of_ble_eq_true rfl) rfl ?_
  refine mB hT 8 rfl ?_
  exact hR _ (by decide) _ _ _ (congrArg (fun z => [Value.int z]) (show _ = alM 0 _ _ by unfold alM; split <;> rfl)) rfl
set_option maxRecDepth 20000 in
theorem m_all_5_1_1 {vs : Int32} {wo un h : Int64} {bo : Nat → Int32} {ta tr ro ot : Nat → Int64} {Bm : Nat → Nat → Nat → Int32} {bk : Nat → Nat → Int32} : KX3_allOf l D ca ad [.ref 0, .int 5, .int 1] (MW 1 vs wo un h bo ta tr ro ot Bm bk) (some (.int (alM 1 (Bm 5) 1))) (MW 1 vs wo un h bo ta tr ro ot Bm bk) := by
  refine PX3_allOf (Nat.le_of_ble_eq_true rfl) ?_
  intro G hT hC hR
  refine mB hT 12 rfl ?_
  refine hC.1 _ 0 [_, _] _ _ _ _ _ (m_main_5_1) rfl rfl (Nat.le_of_ble_eq_true rfl) rfl ?_
  refine mB hT 10 rfl ?_
  refine mIf (fun h1 => ?_) (fun h1 => ?_)
  · refine mNf (lv2 := [(5, .int 0), (4, .int (mnM (Bm 5 1))), (3, .int (Bm 5 1 1)), (0, .ref 0), (1, .int 5), (2, .int 1)]) (st2 := []) rfl rfl ?_
    refine mB hT 1 rfl ?_
    exact hR _ (by decide) _ _ _ (congrArg (fun z => [Value.int z]) (if_pos h1).symm) rfl
  · refine mNf (lv2 := [(5, .int 0), (4, .int (mnM (Bm 5 1))), (3, .int (Bm 5 1 1)), (0, .ref 0), (1, .int 5), (2, .int 1)]) (st2 := []) rfl rfl ?_
    refine mB hT 17 rfl ?_
    refine hC.2 _ 0 [_, _, _] _ _ _ _ _ (m_value_5_0 _) rfl rfl (Nat.le_of_ble_eq_true rfl) rfl ?_
    refine mB hT 10 rfl ?_
    exact hR _ (by decide) _ _ _ (congrArg (fun z => [Value.int z]) (if_neg h1).symm) rfl
set_option maxRecDepth 20000 in
theorem m_all_5_1_2 {vs : Int32} {wo un h : Int64} {bo : Nat → Int32} {ta tr ro ot : Nat → Int64} {Bm : Nat → Nat → Nat → Int32} {bk : Nat → Nat → Int32} : KX3_allOf l D ca ad [.ref 0, .int 5, .int 1] (MW 2 vs wo un h bo ta tr ro ot Bm bk) (some (.int (alM 2 (Bm 5) 1))) (MW 2 vs wo un h bo ta tr ro ot Bm bk) := by
  refine PX3_allOf (Nat.le_of_ble_eq_true rfl) ?_
  intro G hT hC hR
  refine mB hT 12 rfl ?_
  refine hC.1 _ 0 [_, _] _ _ _ _ _ (m_main_5_1) rfl rfl (Nat.le_of_ble_eq_true rfl) rfl ?_
  refine mB hT 10 rfl ?_
  refine mIf (fun h1 => ?_) (fun h1 => ?_)
  · refine mNf (lv2 := [(5, .int 0), (4, .int (mnM (Bm 5 1))), (3, .int (Bm 5 1 1)), (0, .ref 0), (1, .int 5), (2, .int 1)]) (st2 := []) rfl rfl ?_
    refine mB hT 1 rfl ?_
    exact hR _ (by decide) _ _ _ (congrArg (fun z => [Value.int z]) (if_pos h1).symm) rfl
  · refine mNf (lv2 := [(5, .int 0), (4, .int (mnM (Bm 5 1))), (3, .int (Bm 5 1 1)), (0, .ref 0), (1, .int 5), (2, .int 1)]) (st2 := []) rfl rfl ?_
    refine mB hT 17 rfl ?_
    refine hC.2 _ 0 [_, _, _] _ _ _ _ _ (m_value_5_0 _) rfl rfl (Nat.le_of_ble_eq_true rfl) rfl ?_
    refine mB hT 12 rfl ?_
    refine mIf (fun hp => absurd hp h1) (fun _ => ?_)
    refine mNf (lv2 := [(5, .int 1), (4, .int ((mnM (Bm 5 1)) + ((Bm 5 1 8) * (vlM (Bm 5 0) (Bm 5 1 1))))), (3, .int (Bm 5 1 1)), (0, .ref 0), (1, .int 5), (2, .int 1)]) (st2 := []) rfl rfl ?_
    refine mB hT 17 rfl ?_
    refine hC.2 _ 0 [_, _, _] _ _ _ _ _ (m_value_5_1 _) rfl rfl (Nat.le_of_ble_eq_true rfl) rfl ?_
    refine mB hT 10 rfl ?_
    exact hR _ (by decide) _ _ _ (congrArg (fun z => [Value.int z]) (if_neg h1).symm) rfl
set_option maxRecDepth 20000 in
theorem m_all_5_1_3 {vs : Int32} {wo un h : Int64} {bo : Nat → Int32} {ta tr ro ot : Nat → Int64} {Bm : Nat → Nat → Nat → Int32} {bk : Nat → Nat → Int32} : KX3_allOf l D ca ad [.ref 0, .int 5, .int 1] (MW 3 vs wo un h bo ta tr ro ot Bm bk) (some (.int (alM 3 (Bm 5) 1))) (MW 3 vs wo un h bo ta tr ro ot Bm bk) := by
  refine PX3_allOf (Nat.le_of_ble_eq_true rfl) ?_
  intro G hT hC hR
  refine mB hT 12 rfl ?_
  refine hC.1 _ 0 [_, _] _ _ _ _ _ (m_main_5_1) rfl rfl (Nat.le_of_ble_eq_true rfl) rfl ?_
  refine mB hT 10 rfl ?_
  refine mIf (fun h1 => ?_) (fun h1 => ?_)
  · refine mNf (lv2 := [(5, .int 0), (4, .int (mnM (Bm 5 1))), (3, .int (Bm 5 1 1)), (0, .ref 0), (1, .int 5), (2, .int 1)]) (st2 := []) rfl rfl ?_
    refine mB hT 1 rfl ?_
    exact hR _ (by decide) _ _ _ (congrArg (fun z => [Value.int z]) (if_pos h1).symm) rfl
  · refine mNf (lv2 := [(5, .int 0), (4, .int (mnM (Bm 5 1))), (3, .int (Bm 5 1 1)), (0, .ref 0), (1, .int 5), (2, .int 1)]) (st2 := []) rfl rfl ?_
    refine mB hT 17 rfl ?_
    refine hC.2 _ 0 [_, _, _] _ _ _ _ _ (m_value_5_0 _) rfl rfl (Nat.le_of_ble_eq_true rfl) rfl ?_
    refine mB hT 12 rfl ?_
    refine mIf (fun hp => absurd hp h1) (fun _ => ?_)
    refine mNf (lv2 := [(5, .int 1), (4, .int ((mnM (Bm 5 1)) + ((Bm 5 1 8) * (vlM (Bm 5 0) (Bm 5 1 1))))), (3, .int (Bm 5 1 1)), (0, .ref 0), (1, .int 5), (2, .int 1)]) (st2 := []) rfl rfl ?_
    refine mB hT 17 rfl ?_
    refine hC.2 _ 0 [_, _, _] _ _ _ _ _ (m_value_5_1 _) rfl rfl (Nat.le_of_ble_eq_true rfl) rfl ?_
    refine mB hT 12 rfl ?_
    refine mIf (fun hp => absurd hp h1) (fun _ => ?_)
    refine mNf (lv2 := [(5, .int 2), (4, .int (((mnM (Bm 5 1)) + ((Bm 5 1 8) * (vlM (Bm 5 0) (Bm 5 1 1)))) + ((Bm 5 1 9) * (vlM (Bm 5 1) (Bm 5 1 1))))), (3, .int (Bm 5 1 1)), (0, .ref 0), (1, .int 5), (2, .int 1)]) (st2 := []) rfl rfl ?_
    refine mB hT 17 rfl ?_
    refine hC.2 _ 0 [_, _, _] _ _ _ _ _ (m_value_5_2 _) rfl rfl (Nat.le_of_ble_eq_true rfl) rfl ?_
    refine mB hT 10 rfl ?_
    exact hR _ (by decide) _ _ _ (congrArg (fun z => [Value.int z]) (if_neg h1).symm) rfl
set_option maxRecDepth 20000 in
theorem m_all_5_1_4 {vs : Int32} {wo un h : Int64} {bo : Nat → Int32} {ta tr ro ot : Nat → Int64} {Bm : Nat → Nat → Nat → Int32} {bk : Nat → Nat → Int32} : KX3_allOf l D ca ad [.ref 0, .int 5, .int 1] (MW 4 vs wo un h bo ta tr ro ot Bm bk) (some (.int (alM 4 (Bm 5) 1))) (MW 4 vs wo un h bo ta tr ro ot Bm bk) := by
  refine PX3_allOf (Nat.le_of_ble_eq_true rfl) ?_
  intro G hT hC hR
  refine mB hT 12 rfl ?_
  refine hC.1 _ 0 [_, _] _ _ _ _ _ (m_main_5_1) rfl rfl (Nat.le_of_ble_eq_true rfl) rfl ?_
  refine mB hT 10 rfl ?_
  refine mIf (fun h1 => ?_) (fun h1 => ?_)
  · refine mNf (lv2 := [(5, .int 0), (4, .int (mnM (Bm 5 1))), (3, .int (Bm 5 1 1)), (0, .ref 0), (1, .int 5), (2, .int 1)]) (st2 := []) rfl rfl ?_
    refine mB hT 1 rfl ?_
    exact hR _ (by decide) _ _ _ (congrArg (fun z => [Value.int z]) (if_pos h1).symm) rfl
  · refine mNf (lv2 := [(5, .int 0), (4, .int (mnM (Bm 5 1))), (3, .int (Bm 5 1 1)), (0, .ref 0), (1, .int 5), (2, .int 1)]) (st2 := []) rfl rfl ?_
    refine mB hT 17 rfl ?_
    refine hC.2 _ 0 [_, _, _] _ _ _ _ _ (m_value_5_0 _) rfl rfl (Nat.le_of_ble_eq_true rfl) rfl ?_
    refine mB hT 12 rfl ?_
    refine mIf (fun hp => absurd hp h1) (fun _ => ?_)
    refine mNf (lv2 := [(5, .int 1), (4, .int ((mnM (Bm 5 1)) + ((Bm 5 1 8) * (vlM (Bm 5 0) (Bm 5 1 1))))), (3, .int (Bm 5 1 1)), (0, .ref 0), (1, .int 5), (2, .int 1)]) (st2 := []) rfl rfl ?_
    refine mB hT 17 rfl ?_
    refine hC.2 _ 0 [_, _, _] _ _ _ _ _ (m_value_5_1 _) rfl rfl (Nat.le_of_ble_eq_true rfl) rfl ?_
    refine mB hT 12 rfl ?_
    refine mIf (fun hp => absurd hp h1) (fun _ => ?_)
    refine mNf (lv2 := [(5, .int 2), (4, .int (((mnM (Bm 5 1)) + ((Bm 5 1 8) * (vlM (Bm 5 0) (Bm 5 1 1)))) + ((Bm 5 1 9) * (vlM (Bm 5 1) (Bm 5 1 1))))), (3, .int (Bm 5 1 1)), (0, .ref 0), (1, .int 5), (2, .int 1)]) (st2 := []) rfl rfl ?_
    refine mB hT 17 rfl ?_
    refine hC.2 _ 0 [_, _, _] _ _ _ _ _ (m_value_5_2 _) rfl rfl (Nat.le_of_ble_eq_true rfl) rfl ?_
    refine mB hT 12 rfl ?_
    refine mIf (fun hp => absurd hp h1) (fun _ => ?_)
    refine mNf (lv2 := [(5, .int 3), (4, .int ((((mnM (Bm 5 1)) + ((Bm 5 1 8) * (vlM (Bm 5 0) (Bm 5 1 1)))) + ((Bm 5 1 9) * (vlM (Bm 5 1) (Bm 5 1 1)))) + ((Bm 5 1 10) * (vlM (Bm 5 2) (Bm 5 1 1))))), (3, .int (Bm 5 1 1)), (0, .ref 0), (1, .int 5), (2, .int 1)]) (st2 := []) rfl rfl ?_
    refine mB hT 17 rfl ?_
    refine hC.2 _ 0 [_, _, _] _ _ _ _ _ (m_value_5_3 _) rfl rfl (Nat.le_of_ble_eq_true rfl) rfl ?_
    refine mB hT 10 rfl ?_
    exact hR _ (by decide) _ _ _ (congrArg (fun z => [Value.int z]) (if_neg h1).symm) rfl
theorem m_all_5_1 {n vs : Nat} {wo un h : Int64} {bo : Nat → Int32} {ta tr ro ot : Nat → Int64} {Bm : Nat → Nat → Nat → Int32} {bk : Nat → Nat → Int32} (hn : n ≤ 4) : KX3_allOf l D ca ad [.ref 0, .int 5, .int 1] (MW (Int32.ofNat n) (Int32.ofNat vs) wo un h bo ta tr ro ot Bm bk) (some (.int (alM n (Bm 5) 1))) (MW (Int32.ofNat n) (Int32.ofNat vs) wo un h bo ta tr ro ot Bm bk) := by
  match n, hn with
  | 0, _ => exact m_all_5_1_0
  | 1, _ => exact m_all_5_1_1
  | 2, _ => exact m_all_5_1_2
  | 3, _ => exact m_all_5_1_3
  | 4, _ => exact m_all_5_1_4
set_option maxRecDepth 20000 in
theorem m_main_5_2 {n vs : Int32} {wo un h : Int64} {bo : Nat → Int32} {ta tr ro ot : Nat → Int64} {Bm : Nat → Nat → Nat → Int32} {bk : Nat → Nat → Int32} : KX3_mainOf l D ca ad [.ref 0, .int 5, .int 2] (MW n vs wo un h bo ta tr ro ot Bm bk) (some (.int (mnM (Bm 5 2)))) (MW n vs wo un h bo ta tr ro ot Bm bk) := by
  refine PX3_mainOf (Nat.le_of_ble_eq_true rfl) ?_
  intro G hT hC hR
  refine mB hT 12 rfl ?_
  refine mIf (fun h1 => ?_) (fun h1 => ?_)
  · refine mB hT 2 rfl ?_
    exact hR _ (by decide) _ _ _ (congrArg (fun z => [Value.int z]) (if_pos h1).symm) rfl
  · refine mB hT 12 rfl ?_
    refine hC _ 0 [_, _, _] _ _ _ _ _ (m_value_5_2 _) rfl rfl (Nat.le_of_ble_eq_true rfl) rfl ?_
    refine mB hT 1 rfl ?_
    exact hR _ (by decide) _ _ _ (congrArg (fun z => [Value.int z]) (if_neg h1).symm) rfl
set_option maxRecDepth 20000 in
theorem m_all_5_2_0 {vs : Int32} {wo un h : Int64} {bo : Nat → Int32} {ta tr ro ot : Nat → Int64} {Bm : Nat → Nat → Nat → Int32} {bk : Nat → Nat → Int32} : KX3_allOf l D ca ad [.ref 0, .int 5, .int 2] (MW 0 vs wo un h bo ta tr ro ot Bm bk) (some (.int (alM 0 (Bm 5) 2))) (MW 0 vs wo un h bo ta tr ro ot Bm bk) := by
  refine PX3_allOf (Nat.le_of_ble_eq_true rfl) ?_
  intro G hT hC hR
  refine mB hT 12 rfl ?_
  refine hC.1 _ 0 [_, _] _ _ _ _ _ (m_main_5_2) rfl rfl (Nat.le_of_ble_eq_true rfl) rfl ?_
  refine mB hT 8 rfl ?_
  exact hR _ (by decide) _ _ _ (congrArg (fun z => [Value.int z]) (show _ = alM 0 _ _ by unfold alM; split <;> rfl)) rfl
set_option maxRecDepth 20000 in
theorem m_all_5_2_1 {vs : Int32} {wo un h : Int64} {bo : Nat → Int32} {ta tr ro ot : Nat → Int64} {Bm : Nat → Nat → Nat → Int32} {bk : Nat → Nat → Int32} : KX3_allOf l D ca ad [.ref 0, .int 5, .int 2] (MW 1 vs wo un h bo ta tr ro ot Bm bk) (some (.int (alM 1 (Bm 5) 2))) (MW 1 vs wo un h bo ta tr ro ot Bm bk) := by
  refine PX3_allOf (Nat.le_of_ble_eq_true rfl) ?_
  intro G hT hC hR
  refine mB hT 12 rfl ?_
  refine hC.1 _ 0 [_, _] _ _ _ _ _ (m_main_5_2) rfl rfl (Nat.le_of_ble_eq_true rfl) rfl ?_
  refine mB hT 10 rfl ?_
  refine mIf (fun h1 => ?_) (fun h1 => ?_)
  · refine mNf (lv2 := [(5, .int 0), (4, .int (mnM (Bm 5 2))), (3, .int (Bm 5 2 1)), (0, .ref 0), (1, .int 5), (2, .int 2)]) (st2 := []) rfl rfl ?_
    refine mB hT 1 rfl ?_
    exact hR _ (by decide) _ _ _ (congrArg (fun z => [Value.int z]) (if_pos h1).symm) rfl
  · refine mNf (lv2 := [(5, .int 0), (4, .int (mnM (Bm 5 2))), (3, .int (Bm 5 2 1)), (0, .ref 0), (1, .int 5), (2, .int 2)]) (st2 := []) rfl rfl ?_
    refine mB hT 17 rfl ?_
    refine hC.2 _ 0 [_, _, _] _ _ _ _ _ (m_value_5_0 _) rfl rfl (Nat.le_of_ble_eq_true rfl) rfl ?_
    refine mB hT 10 rfl ?_
    exact hR _ (by decide) _ _ _ (congrArg (fun z => [Value.int z]) (if_neg h1).symm) rfl
set_option maxRecDepth 20000 in
theorem m_all_5_2_2 {vs : Int32} {wo un h : Int64} {bo : Nat → Int32} {ta tr ro ot : Nat → Int64} {Bm : Nat → Nat → Nat → Int32} {bk : Nat → Nat → Int32} : KX3_allOf l D ca ad [.ref 0, .int 5, .int 2] (MW 2 vs wo un h bo ta tr ro ot Bm bk) (some (.int (alM 2 (Bm 5) 2))) (MW 2 vs wo un h bo ta tr ro ot Bm bk) := by
  refine PX3_allOf (Nat.le_of_ble_eq_true rfl) ?_
  intro G hT hC hR
  refine mB hT 12 rfl ?_
  refine hC.1 _ 0 [_, _] _ _ _ _ _ (m_main_5_2) rfl rfl (Nat.le_of_ble_eq_true rfl) rfl ?_
  refine mB hT 10 rfl ?_
  refine mIf (fun h1 => ?_) (fun h1 => ?_)
  · refine mNf (lv2 := [(5, .int 0), (4, .int (mnM (Bm 5 2))), (3, .int (Bm 5 2 1)), (0, .ref 0), (1, .int 5), (2, .int 2)]) (st2 := []) rfl rfl ?_
    refine mB hT 1 rfl ?_
    exact hR _ (by decide) _ _ _ (congrArg (fun z => [Value.int z]) (if_pos h1).symm) rfl
  · refine mNf (lv2 := [(5, .int 0), (4, .int (mnM (Bm 5 2))), (3, .int (Bm 5 2 1)), (0, .ref 0), (1, .int 5), (2, .int 2)]) (st2 := []) rfl rfl ?_
    refine mB hT 17 rfl ?_
    refine hC.2 _ 0 [_, _, _] _ _ _ _ _ (m_value_5_0 _) rfl rfl (Nat.le_of_ble_eq_true rfl) rfl ?_
    refine mB hT 12 rfl ?_
    refine mIf (fun hp => absurd hp h1) (fun _ => ?_)
    refine mNf (lv2 := [(5, .int 1), (4, .int ((mnM (Bm 5 2)) + ((Bm 5 2 8) * (vlM (Bm 5 0) (Bm 5 2 1))))), (3, .int (Bm 5 2 1)), (0, .ref 0), (1, .int 5), (2, .int 2)]) (st2 := []) rfl rfl ?_
    refine mB hT 17 rfl ?_
    refine hC.2 _ 0 [_, _, _] _ _ _ _ _ (m_value_5_1 _) rfl rfl (Nat.le_of_ble_eq_true rfl) rfl ?_
    refine mB hT 10 rfl ?_
    exact hR _ (by decide) _ _ _ (congrArg (fun z => [Value.int z]) (if_neg h1).symm) rfl
set_option maxRecDepth 20000 in
theorem m_all_5_2_3 {vs : Int32} {wo un h : Int64} {bo : Nat → Int32} {ta tr ro ot : Nat → Int64} {Bm : Nat → Nat → Nat → Int32} {bk : Nat → Nat → Int32} : KX3_allOf l D ca ad [.ref 0, .int 5, .int 2] (MW 3 vs wo un h bo ta tr ro ot Bm bk) (some (.int (alM 3 (Bm 5) 2))) (MW 3 vs wo un h bo ta tr ro ot Bm bk) := by
  refine PX3_allOf (Nat.le_of_ble_eq_true rfl) ?_
  intro G hT hC hR
  refine mB hT 12 rfl ?_
  refine hC.1 _ 0 [_, _] _ _ _ _ _ (m_main_5_2) rfl rfl (Nat.le_of_ble_eq_true rfl) rfl ?_
  refine mB hT 10 rfl ?_
  refine mIf (fun h1 => ?_) (fun h1 => ?_)
  · refine mNf (lv2 := [(5, .int 0), (4, .int (mnM (Bm 5 2))), (3, .int (Bm 5 2 1)), (0, .ref 0), (1, .int 5), (2, .int 2)]) (st2 := []) rfl rfl ?_
    refine mB hT 1 rfl ?_
    exact hR _ (by decide) _ _ _ (congrArg (fun z => [Value.int z]) (if_pos h1).symm) rfl
  · refine mNf (lv2 := [(5, .int 0), (4, .int (mnM (Bm 5 2))), (3, .int (Bm 5 2 1)), (0, .ref 0), (1, .int 5), (2, .int 2)]) (st2 := []) rfl rfl ?_
    refine mB hT 17 rfl ?_
    refine hC.2 _ 0 [_, _, _] _ _ _ _ _ (m_value_5_0 _) rfl rfl (Nat.le_of_ble_eq_true rfl) rfl ?_
    refine mB hT 12 rfl ?_
    refine mIf (fun hp => absurd hp h1) (fun _ => ?_)
    refine mNf (lv2 := [(5, .int 1), (4, .int ((mnM (Bm 5 2)) + ((Bm 5 2 8) * (vlM (Bm 5 0) (Bm 5 2 1))))), (3, .int (Bm 5 2 1)), (0, .ref 0), (1, .int 5), (2, .int 2)]) (st2 := []) rfl rfl ?_
    refine mB hT 17 rfl ?_
    refine hC.2 _ 0 [_, _, _] _ _ _ _ _ (m_value_5_1 _) rfl rfl (Nat.le_of_ble_eq_true rfl) rfl ?_
    refine mB hT 12 rfl ?_
    refine mIf (fun hp => absurd hp h1) (fun _ => ?_)
    refine mNf (lv2 := [(5, .int 2), (4, .int (((mnM (Bm 5 2)) + ((Bm 5 2 8) * (vlM (Bm 5 0) (Bm 5 2 1)))) + ((Bm 5 2 9) * (vlM (Bm 5 1) (Bm 5 2 1))))), (3, .int (Bm 5 2 1)), (0, .ref 0), (1, .int 5), (2, .int 2)]) (st2 := []) rfl rfl ?_
    refine mB hT 17 rfl ?_
    refine hC.2 _ 0 [_, _, _] _ _ _ _ _ (m_value_5_2 _) rfl rfl (Nat.le_of_ble_eq_true rfl) rfl ?_
    refine mB hT 10 rfl ?_
    exact hR _ (by decide) _ _ _ (congrArg (fun z => [Value.int z]) (if_neg h1).symm) rfl
set_option maxRecDepth 20000 in
theorem m_all_5_2_4 {vs : Int32} {wo un h : Int64} {bo : Nat → Int32} {ta tr ro ot : Nat → Int64} {Bm : Nat → Nat → Nat → Int32} {bk : Nat → Nat → Int32} : KX3_allOf l D ca ad [.ref 0, .int 5, .int 2] (MW 4 vs wo un h bo ta tr ro ot Bm bk) (some (.int (alM 4 (Bm 5) 2))) (MW 4 vs wo un h bo ta tr ro ot Bm bk) := by
  refine PX3_allOf (Nat.le_of_ble_eq_true rfl) ?_
  intro G hT hC hR
  refine mB hT 12 rfl ?_
  refine hC.1 _ 0 [_, _] _ _ _ _ _ (m_main_5_2) rfl rfl (Nat.le_of_ble_eq_true rfl) rfl ?_
  refine mB hT 10 rfl ?_
  refine mIf (fun h1 => ?_) (fun h1 => ?_)
  · refine mNf (lv2 := [(5, .int 0), (4, .int (mnM (Bm 5 2))), (3, .int (Bm 5 2 1)), (0, .ref 0), (1, .int 5), (2, .int 2)]) (st2 := []) rfl rfl ?_
    refine mB hT 1 rfl ?_
    exact hR _ (by decide) _ _ _ (congrArg (fun z => [Value.int z]) (if_pos h1).symm) rfl
  · refine mNf (lv2 := [(5, .int 0), (4, .int (mnM (Bm 5 2))), (3, .int (Bm 5 2 1)), (0, .ref 0), (1, .int 5), (2, .int 2)]) (st2 := []) rfl rfl ?_
    refine mB hT 17 rfl ?_
    refine hC.2 _ 0 [_, _, _] _ _ _ _ _ (m_value_5_0 _) rfl rfl (Nat.le_of_ble_eq_true rfl) rfl ?_
    refine mB hT 12 rfl ?_
    refine mIf (fun hp => absurd hp h1) (fun _ => ?_)
    refine mNf (lv2 := [(5, .int 1), (4, .int ((mnM (Bm 5 2)) + ((Bm 5 2 8) * (vlM (Bm 5 0) (Bm 5 2 1))))), (3, .int (Bm 5 2 1)), (0, .ref 0), (1, .int 5), (2, .int 2)]) (st2 := []) rfl rfl ?_
    refine mB hT 17 rfl ?_
    refine hC.2 _ 0 [_, _, _] _ _ _ _ _ (m_value_5_1 _) rfl rfl (Nat.le_of_ble_eq_true rfl) rfl ?_
    refine mB hT 12 rfl ?_
    refine mIf (fun hp => absurd hp h1) (fun _ => ?_)
    refine mNf (lv2 := [(5, .int 2), (4, .int (((mnM (Bm 5 2)) + ((Bm 5 2 8) * (vlM (Bm 5 0) (Bm 5 2 1)))) + ((Bm 5 2 9) * (vlM (Bm 5 1) (Bm 5 2 1))))), (3, .int (Bm 5 2 1)), (0, .ref 0), (1, .int 5), (2, .int 2)]) (st2 := []) rfl rfl ?_
    refine mB hT 17 rfl ?_
    refine hC.2 _ 0 [_, _, _] _ _ _ _ _ (m_value_5_2 _) rfl rfl (Nat.le_of_ble_eq_true rfl) rfl ?_
    refine mB hT 12 rfl ?_
    refine mIf (fun hp => absurd hp h1) (fun _ => ?_)
    refine mNf (lv2 := [(5, .int 3), (4, .int ((((mnM (Bm 5 2)) + ((Bm 5 2 8) * (vlM (Bm 5 0) (Bm 5 2 1)))) + ((Bm 5 2 9) * (vlM (Bm 5 1) (Bm 5 2 1)))) + ((Bm 5 2 10) * (vlM (Bm 5 2) (Bm 5 2 1))))), (3, .int (Bm 5 2 1)), (0, .ref 0), (1, .int 5), (2, .int 2)]) (st2 := []) rfl rfl ?_
    refine mB hT 17 rfl ?_
    refine hC.2 _ 0 [_, _, _] _ _ _ _ _ (m_value_5_3 _) rfl rfl (Nat.le_of_ble_eq_true rfl) rfl ?_
    refine mB hT 10 rfl ?_
    exact hR _ (by decide) _ _ _ (congrArg (fun z => [Value.int z]) (if_neg h1).symm) rfl
theorem m_all_5_2 {n vs : Nat} {wo un h : Int64} {bo : Nat → Int32} {ta tr ro ot : Nat → Int64} {Bm : Nat → Nat → Nat → Int32} {bk : Nat → Nat → Int32} (hn : n ≤ 4) : KX3_allOf l D ca ad [.ref 0, .int 5, .int 2] (MW (Int32.ofNat n) (Int32.ofNat vs) wo un h bo ta tr ro ot Bm bk) (some (.int (alM n (Bm 5) 2))) (MW (Int32.ofNat n) (Int32.ofNat vs) wo un h bo ta tr ro ot Bm bk) := by
  match n, hn with
  | 0, _ => exact m_all_5_2_0
  | 1, _ => exact m_all_5_2_1
  | 2, _ => exact m_all_5_2_2
  | 3, _ => exact m_all_5_2_3
  | 4, _ => exact m_all_5_2_4
set_option maxRecDepth 20000 in
theorem m_main_5_3 {n vs : Int32} {wo un h : Int64} {bo : Nat → Int32} {ta tr ro ot : Nat → Int64} {Bm : Nat → Nat → Nat → Int32} {bk : Nat → Nat → Int32} : KX3_mainOf l D ca ad [.ref 0, .int 5, .int 3] (MW n vs wo un h bo ta tr ro ot Bm bk) (some (.int (mnM (Bm 5 3)))) (MW n vs wo un h bo ta tr ro ot Bm bk) := by
  refine PX3_mainOf (Nat.le_of_ble_eq_true rfl) ?_
  intro G hT hC hR
  refine mB hT 12 rfl ?_
  refine mIf (fun h1 => ?_) (fun h1 => ?_)
  · refine mB hT 2 rfl ?_
    exact hR _ (by decide) _ _ _ (congrArg (fun z => [Value.int z]) (if_pos h1).symm) rfl
  · refine mB hT 12 rfl ?_
    refine hC _ 0 [_, _, _] _ _ _ _ _ (m_value_5_3 _) rfl rfl (Nat.le_of_ble_eq_true rfl) rfl ?_
    refine mB hT 1 rfl ?_
    exact hR _ (by decide) _ _ _ (congrArg (fun z => [Value.int z]) (if_neg h1).symm) rfl
set_option maxRecDepth 20000 in
theorem m_all_5_3_0 {vs : Int32} {wo un h : Int64} {bo : Nat → Int32} {ta tr ro ot : Nat → Int64} {Bm : Nat → Nat → Nat → Int32} {bk : Nat → Nat → Int32} : KX3_allOf l D ca ad [.ref 0, .int 5, .int 3] (MW 0 vs wo un h bo ta tr ro ot Bm bk) (some (.int (alM 0 (Bm 5) 3))) (MW 0 vs wo un h bo ta tr ro ot Bm bk) := by
  refine PX3_allOf (Nat.le_of_ble_eq_true rfl) ?_
  intro G hT hC hR
  refine mB hT 12 rfl ?_
  refine hC.1 _ 0 [_, _] _ _ _ _ _ (m_main_5_3) rfl rfl (Nat.le_of_ble_eq_true rfl) rfl ?_
  refine mB hT 8 rfl ?_
  exact hR _ (by decide) _ _ _ (congrArg (fun z => [Value.int z]) (show _ = alM 0 _ _ by unfold alM; split <;> rfl)) rfl
set_option maxRecDepth 20000 in
theorem m_all_5_3_1 {vs : Int32} {wo un h : Int64} {bo : Nat → Int32} {ta tr ro ot : Nat → Int64} {Bm : Nat → Nat → Nat → Int32} {bk : Nat → Nat → Int32} : KX3_allOf l D ca ad [.ref 0, .int 5, .int 3] (MW 1 vs wo un h bo ta tr ro ot Bm bk) (some (.int (alM 1 (Bm 5) 3))) (MW 1 vs wo un h bo ta tr ro ot Bm bk) := by
  refine PX3_allOf (Nat.le_of_ble_eq_true rfl) ?_
  intro G hT hC hR
  refine mB hT 12 rfl ?_
  refine hC.1 _ 0 [_, _] _ _ _ _ _ (m_main_5_3) rfl rfl (Nat.le_of_ble_eq_true rfl) rfl ?_
  refine mB hT 10 rfl ?_
  refine mIf (fun h1 => ?_) (fun h1 => ?_)
  · refine mNf (lv2 := [(5, .int 0), (4, .int (mnM (Bm 5 3))), (3, .int (Bm 5 3 1)), (0, .ref 0), (1, .int 5), (2, .int 3)]) (st2 := []) rfl rfl ?_
    refine mB hT 1 rfl ?_
    exact hR _ (by decide) _ _ _ (congrArg (fun z => [Value.int z]) (if_pos h1).symm) rfl
  · refine mNf (lv2 := [(5, .int 0), (4, .int (mnM (Bm 5 3))), (3, .int (Bm 5 3 1)), (0, .ref 0), (1, .int 5), (2, .int 3)]) (st2 := []) rfl rfl ?_
    refine mB hT 17 rfl ?_
    refine hC.2 _ 0 [_, _, _] _ _ _ _ _ (m_value_5_0 _) rfl rfl (Nat.le_of_ble_eq_true rfl) rfl ?_
    refine mB hT 10 rfl ?_
    exact hR _ (by decide) _ _ _ (congrArg (fun z => [Value.int z]) (if_neg h1).symm) rfl
set_option maxRecDepth 20000 in
theorem m_all_5_3_2 {vs : Int32} {wo un h : Int64} {bo : Nat → Int32} {ta tr ro ot : Nat → Int64} {Bm : Nat → Nat → Nat → Int32} {bk : Nat → Nat → Int32} : KX3_allOf l D ca ad [.ref 0, .int 5, .int 3] (MW 2 vs wo un h bo ta tr ro ot Bm bk) (some (.int (alM 2 (Bm 5) 3))) (MW 2 vs wo un h bo ta tr ro ot Bm bk) := by
  refine PX3_allOf (Nat.le_of_ble_eq_true rfl) ?_
  intro G hT hC hR
  refine mB hT 12 rfl ?_
  refine hC.1 _ 0 [_, _] _ _ _ _ _ (m_main_5_3) rfl rfl (Nat.le_of_ble_eq_true rfl) rfl ?_
  refine mB hT 10 rfl ?_
  refine mIf (fun h1 => ?_) (fun h1 => ?_)
  · refine mNf (lv2 := [(5, .int 0), (4, .int (mnM (Bm 5 3))), (3, .int (Bm 5 3 1)), (0, .ref 0), (1, .int 5), (2, .int 3)]) (st2 := []) rfl rfl ?_
    refine mB hT 1 rfl ?_
    exact hR _ (by decide) _ _ _ (congrArg (fun z => [Value.int z]) (if_pos h1).symm) rfl
  · refine mNf (lv2 := [(5, .int 0), (4, .int (mnM (Bm 5 3))), (3, .int (Bm 5 3 1)), (0, .ref 0), (1, .int 5), (2, .int 3)]) (st2 := []) rfl rfl ?_
    refine mB hT 17 rfl ?_
    refine hC.2 _ 0 [_, _, _] _ _ _ _ _ (m_value_5_0 _) rfl rfl (Nat.le_of_ble_eq_true rfl) rfl ?_
    refine mB hT 12 rfl ?_
    refine mIf (fun hp => absurd hp h1) (fun _ => ?_)
    refine mNf (lv2 := [(5, .int 1), (4, .int ((mnM (Bm 5 3)) + ((Bm 5 3 8) * (vlM (Bm 5 0) (Bm 5 3 1))))), (3, .int (Bm 5 3 1)), (0, .ref 0), (1, .int 5), (2, .int 3)]) (st2 := []) rfl rfl ?_
    refine mB hT 17 rfl ?_
    refine hC.2 _ 0 [_, _, _] _ _ _ _ _ (m_value_5_1 _) rfl rfl (Nat.le_of_ble_eq_true rfl) rfl ?_
    refine mB hT 10 rfl ?_
    exact hR _ (by decide) _ _ _ (congrArg (fun z => [Value.int z]) (if_neg h1).symm) rfl
set_option maxRecDepth 20000 in
theorem m_all_5_3_3 {vs : Int32} {wo un h : Int64} {bo : Nat → Int32} {ta tr ro ot : Nat → Int64} {Bm : Nat → Nat → Nat → Int32} {bk : Nat → Nat → Int32} : KX3_allOf l D ca ad [.ref 0, .int 5, .int 3] (MW 3 vs wo un h bo ta tr ro ot Bm bk) (some (.int (alM 3 (Bm 5) 3))) (MW 3 vs wo un h bo ta tr ro ot Bm bk) := by
  refine PX3_allOf (Nat.le_of_ble_eq_true rfl) ?_
  intro G hT hC hR
  refine mB hT 12 rfl ?_
  refine hC.1 _ 0 [_, _] _ _ _ _ _ (m_main_5_3) rfl rfl (Nat.le_of_ble_eq_true rfl) rfl ?_
  refine mB hT 10 rfl ?_
  refine mIf (fun h1 => ?_) (fun h1 => ?_)
  · refine mNf (lv2 := [(5, .int 0), (4, .int (mnM (Bm 5 3))), (3, .int (Bm 5 3 1)), (0, .ref 0), (1, .int 5), (2, .int 3)]) (st2 := []) rfl rfl ?_
    refine mB hT 1 rfl ?_
    exact hR _ (by decide) _ _ _ (congrArg (fun z => [Value.int z]) (if_pos h1).symm) rfl
  · refine mNf (lv2 := [(5, .int 0), (4, .int (mnM (Bm 5 3))), (3, .int (Bm 5 3 1)), (0, .ref 0), (1, .int 5), (2, .int 3)]) (st2 := []) rfl rfl ?_
    refine mB hT 17 rfl ?_
    refine hC.2 _ 0 [_, _, _] _ _ _ _ _ (m_value_5_0 _) rfl rfl (Nat.le_of_ble_eq_true rfl) rfl ?_
    refine mB hT 12 rfl ?_
    refine mIf (fun hp => absurd hp h1) (fun _ => ?_)
    refine mNf (lv2 := [(5, .int 1), (4, .int ((mnM (Bm 5 3)) + ((Bm 5 3 8) * (vlM (Bm 5 0) (Bm 5 3 1))))), (3, .int (Bm 5 3 1)), (0, .ref 0), (1, .int 5), (2, .int 3)]) (st2 := []) rfl rfl ?_
    refine mB hT 17 rfl ?_
    refine hC.2 _ 0 [_, _, _] _ _ _ _ _ (m_value_5_1 _) rfl rfl (Nat.le_of_ble_eq_true rfl) rfl ?_
    refine mB hT 12 rfl ?_
    refine mIf (fun hp => absurd hp h1) (fun _ => ?_)
    refine mNf (lv2 := [(5, .int 2), (4, .int (((mnM (Bm 5 3)) + ((Bm 5 3 8) * (vlM (Bm 5 0) (Bm 5 3 1)))) + ((Bm 5 3 9) * (vlM (Bm 5 1) (Bm 5 3 1))))), (3, .int (Bm 5 3 1)), (0, .ref 0), (1, .int 5), (2, .int 3)]) (st2 := []) rfl rfl ?_
    refine mB hT 17 rfl ?_
    refine hC.2 _ 0 [_, _, _] _ _ _ _ _ (m_value_5_2 _) rfl rfl (Nat.le_of_ble_eq_true rfl) rfl ?_
    refine mB hT 10 rfl ?_
    exact hR _ (by decide) _ _ _ (congrArg (fun z => [Value.int z]) (if_neg h1).symm) rfl
set_option maxRecDepth 20000 in
theorem m_all_5_3_4 {vs : Int32} {wo un h : Int64} {bo : Nat → Int32} {ta tr ro ot : Nat → Int64} {Bm : Nat → Nat → Nat → Int32} {bk : Nat → Nat → Int32} : KX3_allOf l D ca ad [.ref 0, .int 5, .int 3] (MW 4 vs wo un h bo ta tr ro ot Bm bk) (some (.int (alM 4 (Bm 5) 3))) (MW 4 vs wo un h bo ta tr ro ot Bm bk) := by
  refine PX3_allOf (Nat.le_of_ble_eq_true rfl) ?_
  intro G hT hC hR
  refine mB hT 12 rfl ?_
  refine hC.1 _ 0 [_, _] _ _ _ _ _ (m_main_5_3) rfl rfl (Nat.le_of_ble_eq_true rfl) rfl ?_
  refine mB hT 10 rfl ?_
  refine mIf (fun h1 => ?_) (fun h1 => ?_)
  · refine mNf (lv2 := [(5, .int 0), (4, .int (mnM (Bm 5 3))), (3, .int (Bm 5 3 1)), (0, .ref 0), (1, .int 5), (2, .int 3)]) (st2 := []) rfl rfl ?_
    refine mB hT 1 rfl ?_
    exact hR _ (by decide) _ _ _ (congrArg (fun z => [Value.int z]) (if_pos h1).symm) rfl
  · refine mNf (lv2 := [(5, .int 0), (4, .int (mnM (Bm 5 3))), (3, .int (Bm 5 3 1)), (0, .ref 0), (1, .int 5), (2, .int 3)]) (st2 := []) rfl rfl ?_
    refine mB hT 17 rfl ?_
    refine hC.2 _ 0 [_, _, _] _ _ _ _ _ (m_value_5_0 _) rfl rfl (Nat.le_of_ble_eq_true rfl) rfl ?_
    refine mB hT 12 rfl ?_
    refine mIf (fun hp => absurd hp h1) (fun _ => ?_)
    refine mNf (lv2 := [(5, .int 1), (4, .int ((mnM (Bm 5 3)) + ((Bm 5 3 8) * (vlM (Bm 5 0) (Bm 5 3 1))))), (3, .int (Bm 5 3 1)), (0, .ref 0), (1, .int 5), (2, .int 3)]) (st2 := []) rfl rfl ?_
    refine mB hT 17 rfl ?_
    refine hC.2 _ 0 [_, _, _] _ _ _ _ _ (m_value_5_1 _) rfl rfl (Nat.le_of_ble_eq_true rfl) rfl ?_
    refine mB hT 12 rfl ?_
    refine mIf (fun hp => absurd hp h1) (fun _ => ?_)
    refine mNf (lv2 := [(5, .int 2), (4, .int (((mnM (Bm 5 3)) + ((Bm 5 3 8) * (vlM (Bm 5 0) (Bm 5 3 1)))) + ((Bm 5 3 9) * (vlM (Bm 5 1) (Bm 5 3 1))))), (3, .int (Bm 5 3 1)), (0, .ref 0), (1, .int 5), (2, .int 3)]) (st2 := []) rfl rfl ?_
    refine mB hT 17 rfl ?_
    refine hC.2 _ 0 [_, _, _] _ _ _ _ _ (m_value_5_2 _) rfl rfl (Nat.le_of_ble_eq_true rfl) rfl ?_
    refine mB hT 12 rfl ?_
    refine mIf (fun hp => absurd hp h1) (fun _ => ?_)
    refine mNf (lv2 := [(5, .int 3), (4, .int ((((mnM (Bm 5 3)) + ((Bm 5 3 8) * (vlM (Bm 5 0) (Bm 5 3 1)))) + ((Bm 5 3 9) * (vlM (Bm 5 1) (Bm 5 3 1)))) + ((Bm 5 3 10) * (vlM (Bm 5 2) (Bm 5 3 1))))), (3, .int (Bm 5 3 1)), (0, .ref 0), (1, .int 5), (2, .int 3)]) (st2 := []) rfl rfl ?_
    refine mB hT 17 rfl ?_
    refine hC.2 _ 0 [_, _, _] _ _ _ _ _ (m_value_5_3 _) rfl rfl (Nat.le_of_ble_eq_true rfl) rfl ?_
    refine mB hT 10 rfl ?_
    exact hR _ (by decide) _ _ _ (congrArg (fun z => [Value.int z]) (if_neg h1).symm) rfl
theorem m_all_5_3 {n vs : Nat} {wo un h : Int64} {bo : Nat → Int32} {ta tr ro ot : Nat → Int64} {Bm : Nat → Nat → Nat → Int32} {bk : Nat → Nat → Int32} (hn : n ≤ 4) : KX3_allOf l D ca ad [.ref 0, .int 5, .int 3] (MW (Int32.ofNat n) (Int32.ofNat vs) wo un h bo ta tr ro ot Bm bk) (some (.int (alM n (Bm 5) 3))) (MW (Int32.ofNat n) (Int32.ofNat vs) wo un h bo ta tr ro ot Bm bk) := by
  match n, hn with
  | 0, _ => exact m_all_5_3_0
  | 1, _ => exact m_all_5_3_1
  | 2, _ => exact m_all_5_3_2
  | 3, _ => exact m_all_5_3_3
  | 4, _ => exact m_all_5_3_4
set_option maxRecDepth 20000 in
theorem m_main_6_0 {n vs : Int32} {wo un h : Int64} {bo : Nat → Int32} {ta tr ro ot : Nat → Int64} {Bm : Nat → Nat → Nat → Int32} {bk : Nat → Nat → Int32} : KX3_mainOf l D ca ad [.ref 0, .int 6, .int 0] (MW n vs wo un h bo ta tr ro ot Bm bk) (some (.int (mnM (Bm 6 0)))) (MW n vs wo un h bo ta tr ro ot Bm bk) := by
  refine PX3_mainOf (Nat.le_of_ble_eq_true rfl) ?_
  intro G hT hC hR
  refine mB hT 12 rfl ?_
  refine mIf (fun h1 => ?_) (fun h1 => ?_)
  · refine mB hT 2 rfl ?_
    exact hR _ (by decide) _ _ _ (congrArg (fun z => [Value.int z]) (if_pos h1).symm) rfl
  · refine mB hT 12 rfl ?_
    refine hC _ 0 [_, _, _] _ _ _ _ _ (m_value_6_0 _) rfl rfl (Nat.le_of_ble_eq_true rfl) rfl ?_
    refine mB hT 1 rfl ?_
    exact hR _ (by decide) _ _ _ (congrArg (fun z => [Value.int z]) (if_neg h1).symm) rfl
set_option maxRecDepth 20000 in
theorem m_all_6_0_0 {vs : Int32} {wo un h : Int64} {bo : Nat → Int32} {ta tr ro ot : Nat → Int64} {Bm : Nat → Nat → Nat → Int32} {bk : Nat → Nat → Int32} : KX3_allOf l D ca ad [.ref 0, .int 6, .int 0] (MW 0 vs wo un h bo ta tr ro ot Bm bk) (some (.int (alM 0 (Bm 6) 0))) (MW 0 vs wo un h bo ta tr ro ot Bm bk) := by
  refine PX3_allOf (Nat.le_of_ble_eq_true rfl) ?_
  intro G hT hC hR
  refine mB hT 12 rfl ?_
  refine hC.1 _ 0 [_, _] _ _ _ _ _ (m_main_6_0) rfl rfl (Nat.le_of_ble_eq_true rfl) rfl ?_
  refine mB hT 8 rfl ?_
  exact hR _ (by decide) _ _ _ (congrArg (fun z => [Value.int z]) (show _ = alM 0 _ _ by unfold alM; split <;> rfl)) rfl
set_option maxRecDepth 20000 in
theorem m_all_6_0_1 {vs : Int32} {wo un h : Int64} {bo : Nat → Int32} {ta tr ro ot : Nat → Int64} {Bm : Nat → Nat → Nat → Int32} {bk : Nat → Nat → Int32} : KX3_allOf l D ca ad [.ref 0, .int 6, .int 0] (MW 1 vs wo un h bo ta tr ro ot Bm bk) (some (.int (alM 1 (Bm 6) 0))) (MW 1 vs wo un h bo ta tr ro ot Bm bk) := by
  refine PX3_allOf (Nat.le_of_ble_eq_true rfl) ?_
  intro G hT hC hR
  refine mB hT 12 rfl ?_
  refine hC.1 _ 0 [_, _] _ _ _ _ _ (m_main_6_0) rfl rfl (Nat.le_of_ble_eq_true rfl) rfl ?_
  refine mB hT 10 rfl ?_
  refine mIf (fun h1 => ?_) (fun h1 => ?_)
  · refine mNf (lv2 := [(5, .int 0), (4, .int (mnM (Bm 6 0))), (3, .int (Bm 6 0 1)), (0, .ref 0), (1, .int 6), (2, .int 0)]) (st2 := []) rfl rfl ?_
    refine mB hT 1 rfl ?_
    exact hR _ (by decide) _ _ _ (congrArg (fun z => [Value.int z]) (if_pos h1).symm) rfl
  · refine mNf (lv2 := [(5, .int 0), (4, .int (mnM (Bm 6 0))), (3, .int (Bm 6 0 1)), (0, .ref 0), (1, .int 6), (2, .int 0)]) (st2 := []) rfl rfl ?_
    refine mB hT 17 rfl ?_
    refine hC.2 _ 0 [_, _, _] _ _ _ _ _ (m_value_6_0 _) rfl rfl (Nat.le_of_ble_eq_true rfl) rfl ?_
    refine mB hT 10 rfl ?_
    exact hR _ (by decide) _ _ _ (congrArg (fun z => [Value.int z]) (if_neg h1).symm) rfl
set_option maxRecDepth 20000 in
theorem m_all_6_0_2 {vs : Int32} {wo un h : Int64} {bo : Nat → Int32} {ta tr ro ot : Nat → Int64} {Bm : Nat → Nat → Nat → Int32} {bk : Nat → Nat → Int32} : KX3_allOf l D ca ad [.ref 0, .int 6, .int 0] (MW 2 vs wo un h bo ta tr ro ot Bm bk) (some (.int (alM 2 (Bm 6) 0))) (MW 2 vs wo un h bo ta tr ro ot Bm bk) := by
  refine PX3_allOf (Nat.le_of_ble_eq_true rfl) ?_
  intro G hT hC hR
  refine mB hT 12 rfl ?_
  refine hC.1 _ 0 [_, _] _ _ _ _ _ (m_main_6_0) rfl rfl (Nat.le_of_ble_eq_true rfl) rfl ?_
  refine mB hT 10 rfl ?_
  refine mIf (fun h1 => ?_) (fun h1 => ?_)
  · refine mNf (lv2 := [(5, .int 0), (4, .int (mnM (Bm 6 0))), (3, .int (Bm 6 0 1)), (0, .ref 0), (1, .int 6), (2, .int 0)]) (st2 := []) rfl rfl ?_
    refine mB hT 1 rfl ?_
    exact hR _ (by decide) _ _ _ (congrArg (fun z => [Value.int z]) (if_pos h1).symm) rfl
  · refine mNf (lv2 := [(5, .int 0), (4, .int (mnM (Bm 6 0))), (3, .int (Bm 6 0 1)), (0, .ref 0), (1, .int 6), (2, .int 0)]) (st2 := []) rfl rfl ?_
    refine mB hT 17 rfl ?_
    refine hC.2 _ 0 [_, _, _] _ _ _ _ _ (m_value_6_0 _) rfl rfl (Nat.le_of_ble_eq_true rfl) rfl ?_
    refine mB hT 12 rfl ?_
    refine mIf (fun hp => absurd hp h1) (fun _ => ?_)
    refine mNf (lv2 := [(5, .int 1), (4, .int ((mnM (Bm 6 0)) + ((Bm 6 0 8) * (vlM (Bm 6 0) (Bm 6 0 1))))), (3, .int (Bm 6 0 1)), (0, .ref 0), (1, .int 6), (2, .int 0)]) (st2 := []) rfl rfl ?_
    refine mB hT 17 rfl ?_
    refine hC.2 _ 0 [_, _, _] _ _ _ _ _ (m_value_6_1 _) rfl rfl (Nat.le_of_ble_eq_true rfl) rfl ?_
    refine mB hT 10 rfl ?_
    exact hR _ (by decide) _ _ _ (congrArg (fun z => [Value.int z]) (if_neg h1).symm) rfl
set_option maxRecDepth 20000 in
theorem m_all_6_0_3 {vs : Int32} {wo un h : Int64} {bo : Nat → Int32} {ta tr ro ot : Nat → Int64} {Bm : Nat → Nat → Nat → Int32} {bk : Nat → Nat → Int32} : KX3_allOf l D ca ad [.ref 0, .int 6, .int 0] (MW 3 vs wo un h bo ta tr ro ot Bm bk) (some (.int (alM 3 (Bm 6) 0))) (MW 3 vs wo un h bo ta tr ro ot Bm bk) := by
  refine PX3_allOf (Nat.le_of_ble_eq_true rfl) ?_
  intro G hT hC hR
  refine mB hT 12 rfl ?_
  refine hC.1 _ 0 [_, _] _ _ _ _ _ (m_main_6_0) rfl rfl (Nat.le_of_ble_eq_true rfl) rfl ?_
  refine mB hT 10 rfl ?_
  refine mIf (fun h1 => ?_) (fun h1 => ?_)
  · refine mNf (lv2 := [(5, .int 0), (4, .int (mnM (Bm 6 0))), (3, .int (Bm 6 0 1)), (0, .ref 0), (1, .int 6), (2, .int 0)]) (st2 := []) rfl rfl ?_
    refine mB hT 1 rfl ?_
    exact hR _ (by decide) _ _ _ (congrArg (fun z => [Value.int z]) (if_pos h1).symm) rfl
  · refine mNf (lv2 := [(5, .int 0), (4, .int (mnM (Bm 6 0))), (3, .int (Bm 6 0 1)), (0, .ref 0), (1, .int 6), (2, .int 0)]) (st2 := []) rfl rfl ?_
    refine mB hT 17 rfl ?_
    refine hC.2 _ 0 [_, _, _] _ _ _ _ _ (m_value_6_0 _) rfl rfl (Nat.le_of_ble_eq_true rfl) rfl ?_
    refine mB hT 12 rfl ?_
    refine mIf (fun hp => absurd hp h1) (fun _ => ?_)
    refine mNf (lv2 := [(5, .int 1), (4, .int ((mnM (Bm 6 0)) + ((Bm 6 0 8) * (vlM (Bm 6 0) (Bm 6 0 1))))), (3, .int (Bm 6 0 1)), (0, .ref 0), (1, .int 6), (2, .int 0)]) (st2 := []) rfl rfl ?_
    refine mB hT 17 rfl ?_
    refine hC.2 _ 0 [_, _, _] _ _ _ _ _ (m_value_6_1 _) rfl rfl (Nat.le_of_ble_eq_true rfl) rfl ?_
    refine mB hT 12 rfl ?_
    refine mIf (fun hp => absurd hp h1) (fun _ => ?_)
    refine mNf (lv2 := [(5, .int 2), (4, .int (((mnM (Bm 6 0)) + ((Bm 6 0 8) * (vlM (Bm 6 0) (Bm 6 0 1)))) + ((Bm 6 0 9) * (vlM (Bm 6 1) (Bm 6 0 1))))), (3, .int (Bm 6 0 1)), (0, .ref 0), (1, .int 6), (2, .int 0)]) (st2 := []) rfl rfl ?_
    refine mB hT 17 rfl ?_
    refine hC.2 _ 0 [_, _, _] _ _ _ _ _ (m_value_6_2 _) rfl rfl (Nat.le_of_ble_eq_true rfl) rfl ?_
    refine mB hT 10 rfl ?_
    exact hR _ (by decide) _ _ _ (congrArg (fun z => [Value.int z]) (if_neg h1).symm) rfl
set_option maxRecDepth 20000 in
theorem m_all_6_0_4 {vs : Int32} {wo un h : Int64} {bo : Nat → Int32} {ta tr ro ot : Nat → Int64} {Bm : Nat → Nat → Nat → Int32} {bk : Nat → Nat → Int32} : KX3_allOf l D ca ad [.ref 0, .int 6, .int 0] (MW 4 vs wo un h bo ta tr ro ot Bm bk) (some (.int (alM 4 (Bm 6) 0))) (MW 4 vs wo un h bo ta tr ro ot Bm bk) := by
  refine PX3_allOf (Nat.le_of_ble_eq_true rfl) ?_
  intro G hT hC hR
  refine mB hT 12 rfl ?_
  refine hC.1 _ 0 [_, _] _ _ _ _ _ (m_main_6_0) rfl rfl (Nat.le_of_ble_eq_true rfl) rfl ?_
  refine mB hT 10 rfl ?_
  refine mIf (fun h1 => ?_) (fun h1 => ?_)
  · refine mNf (lv2 := [(5, .int 0), (4, .int (mnM (Bm 6 0))), (3, .int (Bm 6 0 1)), (0, .ref 0), (1, .int 6), (2, .int 0)]) (st2 := []) rfl rfl ?_
    refine mB hT 1 rfl ?_
    exact hR _ (by decide) _ _ _ (congrArg (fun z => [Value.int z]) (if_pos h1).symm) rfl
  · refine mNf (lv2 := [(5, .int 0), (4, .int (mnM (Bm 6 0))), (3, .int (Bm 6 0 1)), (0, .ref 0), (1, .int 6), (2, .int 0)]) (st2 := []) rfl rfl ?_
    refine mB hT 17 rfl ?_
    refine hC.2 _ 0 [_, _, _] _ _ _ _ _ (m_value_6_0 _) rfl rfl (Nat.le_of_ble_eq_true rfl) rfl ?_
    refine mB hT 12 rfl ?_
    refine mIf (fun hp => absurd hp h1) (fun _ => ?_)
    refine mNf (lv2 := [(5, .int 1), (4, .int ((mnM (Bm 6 0)) + ((Bm 6 0 8) * (vlM (Bm 6 0) (Bm 6 0 1))))), (3, .int (Bm 6 0 1)), (0, .ref 0), (1, .int 6), (2, .int 0)]) (st2 := []) rfl rfl ?_
    refine mB hT 17 rfl ?_
    refine hC.2 _ 0 [_, _, _] _ _ _ _ _ (m_value_6_1 _) rfl rfl (Nat.le_of_ble_eq_true rfl) rfl ?_
    refine mB hT 12 rfl ?_
    refine mIf (fun hp => absurd hp h1) (fun _ => ?_)
    refine mNf (lv2 := [(5, .int 2), (4, .int (((mnM (Bm 6 0)) + ((Bm 6 0 8) * (vlM (Bm 6 0) (Bm 6 0 1)))) + ((Bm 6 0 9) * (vlM (Bm 6 1) (Bm 6 0 1))))), (3, .int (Bm 6 0 1)), (0, .ref 0), (1, .int 6), (2, .int 0)]) (st2 := []) rfl rfl ?_
    refine mB hT 17 rfl ?_
    refine hC.2 _ 0 [_, _, _] _ _ _ _ _ (m_value_6_2 _) rfl rfl (Nat.le_of_ble_eq_true rfl) rfl ?_
    refine mB hT 12 rfl ?_
    refine mIf (fun hp => absurd hp h1) (fun _ => ?_)
    refine mNf (lv2 := [(5, .int 3), (4, .int ((((mnM (Bm 6 0)) + ((Bm 6 0 8) * (vlM (Bm 6 0) (Bm 6 0 1)))) + ((Bm 6 0 9) * (vlM (Bm 6 1) (Bm 6 0 1)))) + ((Bm 6 0 10) * (vlM (Bm 6 2) (Bm 6 0 1))))), (3, .int (Bm 6 0 1)), (0, .ref 0), (1, .int 6), (2, .int 0)]) (st2 := []) rfl rfl ?_
    refine mB hT 17 rfl ?_
    refine hC.2 _ 0 [_, _, _] _ _ _ _ _ (m_value_6_3 _) rfl rfl (Nat.le_of_ble_eq_true rfl) rfl ?_
    refine mB hT 10 rfl ?_
    exact hR _ (by decide) _ _ _ (congrArg (fun z => [Value.int z]) (if_neg h1).symm) rfl
theorem m_all_6_0 {n vs : Nat} {wo un h : Int64} {bo : Nat → Int32} {ta tr ro ot : Nat → Int64} {Bm : Nat → Nat → Nat → Int32} {bk : Nat → Nat → Int32} (hn : n ≤ 4) : KX3_allOf l D ca ad [.ref 0, .int 6, .int 0] (MW (Int32.ofNat n) (Int32.ofNat vs) wo un h bo ta tr ro ot Bm bk) (some (.int (alM n (Bm 6) 0))) (MW (Int32.ofNat n) (Int32.ofNat vs) wo un h bo ta tr ro ot Bm bk) := by
  match n, hn with
  | 0, _ => exact m_all_6_0_0
  | 1, _ => exact m_all_6_0_1
  | 2, _ => exact m_all_6_0_2
  | 3, _ => exact m_all_6_0_3
  | 4, _ => exact m_all_6_0_4
set_option maxRecDepth 20000 in
theorem m_main_6_1 {n vs : Int32} {wo un h : Int64} {bo : Nat → Int32} {ta tr ro ot : Nat → Int64} {Bm : Nat → Nat → Nat → Int32} {bk : Nat → Nat → Int32} : KX3_mainOf l D ca ad [.ref 0, .int 6, .int 1] (MW n vs wo un h bo ta tr ro ot Bm bk) (some (.int (mnM (Bm 6 1)))) (MW n vs wo un h bo ta tr ro ot Bm bk) := by
  refine PX3_mainOf (Nat.le_of_ble_eq_true rfl) ?_
  intro G hT hC hR
  refine mB hT 12 rfl ?_
  refine mIf (fun h1 => ?_) (fun h1 => ?_)
  · refine mB hT 2 rfl ?_
    exact hR _ (by decide) _ _ _ (congrArg (fun z => [Value.int z]) (if_pos h1).symm) rfl
  · refine mB hT 12 rfl ?_
    refine hC _ 0 [_, _, _] _ _ _ _ _ (m_value_6_1 _) rfl rfl (Nat.le_of_ble_eq_true rfl) rfl ?_
    refine mB hT 1 rfl ?_
    exact hR _ (by decide) _ _ _ (congrArg (fun z => [Value.int z]) (if_neg h1).symm) rfl
set_option maxRecDepth 20000 in
theorem m_all_6_1_0 {vs : Int32} {wo un h : Int64} {bo : Nat → Int32} {ta tr ro ot : Nat → Int64} {Bm : Nat → Nat → Nat → Int32} {bk : Nat → Nat → Int32} : KX3_allOf l D ca ad [.ref 0, .int 6, .int 1] (MW 0 vs wo un h bo ta tr ro ot Bm bk) (some (.int (alM 0 (Bm 6) 1))) (MW 0 vs wo un h bo ta tr ro ot Bm bk) := by
  refine PX3_allOf (Nat.le_of_ble_eq_true rfl) ?_
  intro G hT hC hR
  refine mB hT 12 rfl ?_
  refine hC.1 _ 0 [_, _] _ _ _ _ _ (m_main_6_1) rfl rfl (Nat.le_of_ble_eq_true rfl) rfl ?_
  refine mB hT 8 rfl ?_
  exact hR _ (by decide) _ _ _ (congrArg (fun z => [Value.int z]) (show _ = alM 0 _ _ by unfold alM; split <;> rfl)) rfl
set_option maxRecDepth 20000 in
theorem m_all_6_1_1 {vs : Int32} {wo un h : Int64} {bo : Nat → Int32} {ta tr ro ot : Nat → Int64} {Bm : Nat → Nat → Nat → Int32} {bk : Nat → Nat → Int32} : KX3_allOf l D ca ad [.ref 0, .int 6, .int 1] (MW 1 vs wo un h bo ta tr ro ot Bm bk) (some (.int (alM 1 (Bm 6) 1))) (MW 1 vs wo un h bo ta tr ro ot Bm bk) := by
  refine PX3_allOf (Nat.le_of_ble_eq_true rfl) ?_
  intro G hT hC hR
  refine mB hT 12 rfl ?_
  refine hC.1 _ 0 [_, _] _ _ _ _ _ (m_main_6_1) rfl rfl (Nat.le_of_ble_eq_true rfl) rfl ?_
  refine mB hT 10 rfl ?_
  refine mIf (fun h1 => ?_) (fun h1 => ?_)
  · refine mNf (lv2 := [(5, .int 0), (4, .int (mnM (Bm 6 1))), (3, .int (Bm 6 1 1)), (0, .ref 0), (1, .int 6), (2, .int 1)]) (st2 := []) rfl rfl ?_
    refine mB hT 1 rfl ?_
    exact hR _ (by decide) _ _ _ (congrArg (fun z => [Value.int z]) (if_pos h1).symm) rfl
  · refine mNf (lv2 := [(5, .int 0), (4, .int (mnM (Bm 6 1))), (3, .int (Bm 6 1 1)), (0, .ref 0), (1, .int 6), (2, .int 1)]) (st2 := []) rfl rfl ?_
    refine mB hT 17 rfl ?_
    refine hC.2 _ 0 [_, _, _] _ _ _ _ _ (m_value_6_0 _) rfl rfl (Nat.le_of_ble_eq_true rfl) rfl ?_
    refine mB hT 10 rfl ?_
    exact hR _ (by decide) _ _ _ (congrArg (fun z => [Value.int z]) (if_neg h1).symm) rfl
set_option maxRecDepth 20000 in
theorem m_all_6_1_2 {vs : Int32} {wo un h : Int64} {bo : Nat → Int32} {ta tr ro ot : Nat → Int64} {Bm : Nat → Nat → Nat → Int32} {bk : Nat → Nat → Int32} : KX3_allOf l D ca ad [.ref 0, .int 6, .int 1] (MW 2 vs wo un h bo ta tr ro ot Bm bk) (some (.int (alM 2 (Bm 6) 1))) (MW 2 vs wo un h bo ta tr ro ot Bm bk) := by
  refine PX3_allOf (Nat.le_of_ble_eq_true rfl) ?_
  intro G hT hC hR
  refine mB hT 12 rfl ?_
  refine hC.1 _ 0 [_, _] _ _ _ _ _ (m_main_6_1) rfl rfl (Nat.le_of_ble_eq_true rfl) rfl ?_
  refine mB hT 10 rfl ?_
  refine mIf (fun h1 => ?_) (fun h1 => ?_)
  · refine mNf (lv2 := [(5, .int 0), (4, .int (mnM (Bm 6 1))), (3, .int (Bm 6 1 1)), (0, .ref 0), (1, .int 6), (2, .int 1)]) (st2 := []) rfl rfl ?_
    refine mB hT 1 rfl ?_
    exact hR _ (by decide) _ _ _ (congrArg (fun z => [Value.int z]) (if_pos h1).symm) rfl
  · refine mNf (lv2 := [(5, .int 0), (4, .int (mnM (Bm 6 1))), (3, .int (Bm 6 1 1)), (0, .ref 0), (1, .int 6), (2, .int 1)]) (st2 := []) rfl rfl ?_
    refine mB hT 17 rfl ?_
    refine hC.2 _ 0 [_, _, _] _ _ _ _ _ (m_value_6_0 _) rfl rfl (Nat.le_of_ble_eq_true rfl) rfl ?_
    refine mB hT 12 rfl ?_
    refine mIf (fun hp => absurd hp h1) (fun _ => ?_)
    refine mNf (lv2 := [(5, .int 1), (4, .int ((mnM (Bm 6 1)) + ((Bm 6 1 8) * (vlM (Bm 6 0) (Bm 6 1 1))))), (3, .int (Bm 6 1 1)), (0, .ref 0), (1, .int 6), (2, .int 1)]) (st2 := []) rfl rfl ?_
    refine mB hT 17 rfl ?_
    refine hC.2 _ 0 [_, _, _] _ _ _ _ _ (m_value_6_1 _) rfl rfl (Nat.le_of_ble_eq_true rfl) rfl ?_
    refine mB hT 10 rfl ?_
    exact hR _ (by decide) _ _ _ (congrArg (fun z => [Value.int z]) (if_neg h1).symm) rfl
set_option maxRecDepth 20000 in
theorem m_all_6_1_3 {vs : Int32} {wo un h : Int64} {bo : Nat → Int32} {ta tr ro ot : Nat → Int64} {Bm : Nat → Nat → Nat → Int32} {bk : Nat → Nat → Int32} : KX3_allOf l D ca ad [.ref 0, .int 6, .int 1] (MW 3 vs wo un h bo ta tr ro ot Bm bk) (some (.int (alM 3 (Bm 6) 1))) (MW 3 vs wo un h bo ta tr ro ot Bm bk) := by
  refine PX3_allOf (Nat.le_of_ble_eq_true rfl) ?_
  intro G hT hC hR
  refine mB hT 12 rfl ?_
  refine hC.1 _ 0 [_, _] _ _ _ _ _ (m_main_6_1) rfl rfl (Nat.le_of_ble_eq_true rfl) rfl ?_
  refine mB hT 10 rfl ?_
  refine mIf (fun h1 => ?_) (fun h1 => ?_)
  · refine mNf (lv2 := [(5, .int 0), (4, .int (mnM (Bm 6 1))), (3, .int (Bm 6 1 1)), (0, .ref 0), (1, .int 6), (2, .int 1)]) (st2 := []) rfl rfl ?_
    refine mB hT 1 rfl ?_
    exact hR _ (by decide) _ _ _ (congrArg (fun z => [Value.int z]) (if_pos h1).symm) rfl
  · refine mNf (lv2 := [(5, .int 0), (4, .int (mnM (Bm 6 1))), (3, .int (Bm 6 1 1)), (0, .ref 0), (1, .int 6), (2, .int 1)]) (st2 := []) rfl rfl ?_
    refine mB hT 17 rfl ?_
    refine hC.2 _ 0 [_, _, _] _ _ _ _ _ (m_value_6_0 _) rfl rfl (Nat.le_of_ble_eq_true rfl) rfl ?_
    refine mB hT 12 rfl ?_
    refine mIf (fun hp => absurd hp h1) (fun _ => ?_)
    refine mNf (lv2 := [(5, .int 1), (4, .int ((mnM (Bm 6 1)) + ((Bm 6 1 8) * (vlM (Bm 6 0) (Bm 6 1 1))))), (3, .int (Bm 6 1 1)), (0, .ref 0), (1, .int 6), (2, .int 1)]) (st2 := []) rfl rfl ?_
    refine mB hT 17 rfl ?_
    refine hC.2 _ 0 [_, _, _] _ _ _ _ _ (m_value_6_1 _) rfl rfl (Nat.le_of_ble_eq_true rfl) rfl ?_
    refine mB hT 12 rfl ?_
    refine mIf (fun hp => absurd hp h1) (fun _ => ?_)
    refine mNf (lv2 := [(5, .int 2), (4, .int (((mnM (Bm 6 1)) + ((Bm 6 1 8) * (vlM (Bm 6 0) (Bm 6 1 1)))) + ((Bm 6 1 9) * (vlM (Bm 6 1) (Bm 6 1 1))))), (3, .int (Bm 6 1 1)), (0, .ref 0), (1, .int 6), (2, .int 1)]) (st2 := []) rfl rfl ?_
    refine mB hT 17 rfl ?_
    refine hC.2 _ 0 [_, _, _] _ _ _ _ _ (m_value_6_2 _) rfl rfl (Nat.le_of_ble_eq_true rfl) rfl ?_
    refine mB hT 10 rfl ?_
    exact hR _ (by decide) _ _ _ (congrArg (fun z => [Value.int z]) (if_neg h1).symm) rfl
set_option maxRecDepth 20000 in
theorem m_all_6_1_4 {vs : Int32} {wo un h : Int64} {bo : Nat → Int32} {ta tr ro ot : Nat → Int64} {Bm : Nat → Nat → Nat → Int32} {bk : Nat → Nat → Int32} : KX3_allOf l D ca ad [.ref 0, .int 6, .int 1] (MW 4 vs wo un h bo ta tr ro ot Bm bk) (some (.int (alM 4 (Bm 6) 1))) (MW 4 vs wo un h bo ta tr ro ot Bm bk) := by
  refine PX3_allOf (Nat.le_of_ble_eq_true rfl) ?_
  intro G hT hC hR
  refine mB hT 12 rfl ?_
  refine hC.1 _ 0 [_, _] _ _ _ _ _ (m_main_6_1) rfl rfl (Nat.le_of_ble_eq_true rfl) rfl ?_
  refine mB hT 10 rfl ?_
  refine mIf (fun h1 => ?_) (fun h1 => ?_)
  · refine mNf (lv2 := [(5, .int 0), (4, .int (mnM (Bm 6 1))), (3, .int (Bm 6 1 1)), (0, .ref 0), (1, .int 6), (2, .int 1)]) (st2 := []) rfl rfl ?_
    refine mB hT 1 rfl ?_
    exact hR _ (by decide) _ _ _ (congrArg (fun z => [Value.int z]) (if_pos h1).symm) rfl
  · refine mNf (lv2 := [(5, .int 0), (4, .int (mnM (Bm 6 1))), (3, .int (Bm 6 1 1)), (0, .ref 0), (1, .int 6), (2, .int 1)]) (st2 := []) rfl rfl ?_
    refine mB hT 17 rfl ?_
    refine hC.2 _ 0 [_, _, _] _ _ _ _ _ (m_value_6_0 _) rfl rfl (Nat.le_of_ble_eq_true rfl) rfl ?_
    refine mB hT 12 rfl ?_
    refine mIf (fun hp => absurd hp h1) (fun _ => ?_)
    refine mNf (lv2 := [(5, .int 1), (4, .int ((mnM (Bm 6 1)) + ((Bm 6 1 8) * (vlM (Bm 6 0) (Bm 6 1 1))))), (3, .int (Bm 6 1 1)), (0, .ref 0), (1, .int 6), (2, .int 1)]) (st2 := []) rfl rfl ?_
    refine mB hT 17 rfl ?_
    refine hC.2 _ 0 [_, _, _] _ _ _ _ _ (m_value_6_1 _) rfl rfl (Nat.le_of_ble_eq_true rfl) rfl ?_
    refine mB hT 12 rfl ?_
    refine mIf (fun hp => absurd hp h1) (fun _ => ?_)
    refine mNf (lv2 := [(5, .int 2), (4, .int (((mnM (Bm 6 1)) + ((Bm 6 1 8) * (vlM (Bm 6 0) (Bm 6 1 1)))) + ((Bm 6 1 9) * (vlM (Bm 6 1) (Bm 6 1 1))))), (3, .int (Bm 6 1 1)), (0, .ref 0), (1, .int 6), (2, .int 1)]) (st2 := []) rfl rfl ?_
    refine mB hT 17 rfl ?_
    refine hC.2 _ 0 [_, _, _] _ _ _ _ _ (m_value_6_2 _) rfl rfl (Nat.le_of_ble_eq_true rfl) rfl ?_
    refine mB hT 12 rfl ?_
    refine mIf (fun hp => absurd hp h1) (fun _ => ?_)
    refine mNf (lv2 := [(5, .int 3), (4, .int ((((mnM (Bm 6 1)) + ((Bm 6 1 8) * (vlM (Bm 6 0) (Bm 6 1 1)))) + ((Bm 6 1 9) * (vlM (Bm 6 1) (Bm 6 1 1)))) + ((Bm 6 1 10) * (vlM (Bm 6 2) (Bm 6 1 1))))), (3, .int (Bm 6 1 1)), (0, .ref 0), (1, .int 6), (2, .int 1)]) (st2 := []) rfl rfl ?_
    refine mB hT 17 rfl ?_
    refine hC.2 _ 0 [_, _, _] _ _ _ _ _ (m_value_6_3 _) rfl rfl (Nat.le_of_ble_eq_true rfl) rfl ?_
    refine mB hT 10 rfl ?_
    exact hR _ (by decide) _ _ _ (congrArg (fun z => [Value.int z]) (if_neg h1).symm) rfl
theorem m_all_6_1 {n vs : Nat} {wo un h : Int64} {bo : Nat → Int32} {ta tr ro ot : Nat → Int64} {Bm : Nat → Nat → Nat → Int32} {bk : Nat → Nat → Int32} (hn : n ≤ 4) : KX3_allOf l D ca ad [.ref 0, .int 6, .int 1] (MW (Int32.ofNat n) (Int32.ofNat vs) wo un h bo ta tr ro ot Bm bk) (some (.int (alM n (Bm 6) 1))) (MW (Int32.ofNat n) (Int32.ofNat vs) wo un h bo ta tr ro ot Bm bk) := by
  match n, hn with
  | 0, _ => exact m_all_6_1_0
  | 1, _ => exact m_all_6_1_1
  | 2, _ => exact m_all_6_1_2
  | 3, _ => exact m_all_6_1_3
  | 4, _ => exact m_all_6_1_4
set_option maxRecDepth 20000 in
theorem m_main_6_2 {n vs : Int32} {wo un h : Int64} {bo : Nat → Int32} {ta tr ro ot : Nat → Int64} {Bm : Nat → Nat → Nat → Int32} {bk : Nat → Nat → Int32} : KX3_mainOf l D ca ad [.ref 0, .int 6, .int 2] (MW n vs wo un h bo ta tr ro ot Bm bk) (some (.int (mnM (Bm 6 2)))) (MW n vs wo un h bo ta tr ro ot Bm bk) := by
  refine PX3_mainOf (Nat.le_of_ble_eq_true rfl) ?_
  intro G hT hC hR
  refine mB hT 12 rfl ?_
  refine mIf (fun h1 => ?_) (fun h1 => ?_)
  · refine mB hT 2 rfl ?_
    exact hR _ (by decide) _ _ _ (congrArg (fun z => [Value.int z]) (if_pos h1).symm) rfl
  · refine mB hT 12 rfl ?_
    refine hC _ 0 [_, _, _] _ _ _ _ _ (m_value_6_2 _) rfl rfl (Nat.le_of_ble_eq_true rfl) rfl ?_
    refine mB hT 1 rfl ?_
    exact hR _ (by decide) _ _ _ (congrArg (fun z => [Value.int z]) (if_neg h1).symm) rfl
set_option maxRecDepth 20000 in
theorem m_all_6_2_0 {vs : Int32} {wo un h : Int64} {bo : Nat → Int32} {ta tr ro ot : Nat → Int64} {Bm : Nat → Nat → Nat → Int32} {bk : Nat → Nat → Int32} : KX3_allOf l D ca ad [.ref 0, .int 6, .int 2] (MW 0 vs wo un h bo ta tr ro ot Bm bk) (some (.int (alM 0 (Bm 6) 2))) (MW 0 vs wo un h bo ta tr ro ot Bm bk) := by
  refine PX3_allOf (Nat.le_of_ble_eq_true rfl) ?_
  intro G hT hC hR
  refine mB hT 12 rfl ?_
  refine hC.1 _ 0 [_, _] _ _ _ _ _ (m_main_6_2) rfl rfl (Nat.le_of_ble_eq_true rfl) rfl ?_
  refine mB hT 8 rfl ?_
  exact hR _ (by decide) _ _ _ (congrArg (fun z => [Value.int z]) (show _ = alM 0 _ _ by unfold alM; split <;> rfl)) rfl
set_option maxRecDepth 20000 in
theorem m_all_6_2_1 {vs : Int32} {wo un h : Int64} {bo : Nat → Int32} {ta tr ro ot : Nat → Int64} {Bm : Nat → Nat → Nat → Int32} {bk : Nat → Nat → Int32} : KX3_allOf l D ca ad [.ref 0, .int 6, .int 2] (MW 1 vs wo un h bo ta tr ro ot Bm bk) (some (.int (alM 1 (Bm 6) 2))) (MW 1 vs wo un h bo ta tr ro ot Bm bk) := by
  refine PX3_allOf (Nat.le_of_ble_eq_true rfl) ?_
  intro G hT hC hR
  refine mB hT 12 rfl ?_
  refine hC.1 _ 0 [_, _] _ _ _ _ _ (m_main_6_2) rfl rfl (Nat.le_of_ble_eq_true rfl) rfl ?_
  refine mB hT 10 rfl ?_
  refine mIf (fun h1 => ?_) (fun h1 => ?_)
  · refine mNf (lv2 := [(5, .int 0), (4, .int (mnM (Bm 6 2))), (3, .int (Bm 6 2 1)), (0, .ref 0), (1, .int 6), (2, .int 2)]) (st2 := []) rfl rfl ?_
    refine mB hT 1 rfl ?_
    exact hR _ (by decide) _ _ _ (congrArg (fun z => [Value.int z]) (if_pos h1).symm) rfl
  · refine mNf (lv2 := [(5, .int 0), (4, .int (mnM (Bm 6 2))), (3, .int (Bm 6 2 1)), (0, .ref 0), (1, .int 6), (2, .int 2)]) (st2 := []) rfl rfl ?_
    refine mB hT 17 rfl ?_
    refine hC.2 _ 0 [_, _, _] _ _ _ _ _ (m_value_6_0 _) rfl rfl (Nat.le_of_ble_eq_true rfl) rfl ?_
    refine mB hT 10 rfl ?_
    exact hR _ (by decide) _ _ _ (congrArg (fun z => [Value.int z]) (if_neg h1).symm) rfl
set_option maxRecDepth 20000 in
theorem m_all_6_2_2 {vs : Int32} {wo un h : Int64} {bo : Nat → Int32} {ta tr ro ot : Nat → Int64} {Bm : Nat → Nat → Nat → Int32} {bk : Nat → Nat → Int32} : KX3_allOf l D ca ad [.ref 0, .int 6, .int 2] (MW 2 vs wo un h bo ta tr ro ot Bm bk) (some (.int (alM 2 (Bm 6) 2))) (MW 2 vs wo un h bo ta tr ro ot Bm bk) := by
  refine PX3_allOf (Nat.le_of_ble_eq_true rfl) ?_
  intro G hT hC hR
  refine mB hT 12 rfl ?_
  refine hC.1 _ 0 [_, _] _ _ _ _ _ (m_main_6_2) rfl rfl (Nat.le_of_ble_eq_true rfl) rfl ?_
  refine mB hT 10 rfl ?_
  refine mIf (fun h1 => ?_) (fun h1 => ?_)
  · refine mNf (lv2 := [(5, .int 0), (4, .int (mnM (Bm 6 2))), (3, .int (Bm 6 2 1)), (0, .ref 0), (1, .int 6), (2, .int 2)]) (st2 := []) rfl rfl ?_
    refine mB hT 1 rfl ?_
    exact hR _ (by decide) _ _ _ (congrArg (fun z => [Value.int z]) (if_pos h1).symm) rfl
  · refine mNf (lv2 := [(5, .int 0), (4, .int (mnM (Bm 6 2))), (3, .int (Bm 6 2 1)), (0, .ref 0), (1, .int 6), (2, .int 2)]) (st2 := []) rfl rfl ?_
    refine mB hT 17 rfl ?_
    refine hC.2 _ 0 [_, _, _] _ _ _ _ _ (m_value_6_0 _) rfl rfl (Nat.le_of_ble_eq_true rfl) rfl ?_
    refine mB hT 12 rfl ?_
    refine mIf (fun hp => absurd hp h1) (fun _ => ?_)
    refine mNf (lv2 := [(5, .int 1), (4, .int ((mnM (Bm 6 2)) + ((Bm 6 2 8) * (vlM (Bm 6 0) (Bm 6 2 1))))), (3, .int (Bm 6 2 1)), (0, .ref 0), (1, .int 6), (2, .int 2)]) (st2 := []) rfl rfl ?_
    refine mB hT 17 rfl ?_
    refine hC.2 _ 0 [_, _, _] _ _ _ _ _ (m_value_6_1 _) rfl rfl (Nat.le_of_ble_eq_true rfl) rfl ?_
    refine mB hT 10 rfl ?_
    exact hR _ (by decide) _ _ _ (congrArg (fun z => [Value.int z]) (if_neg h1).symm) rfl
set_option maxRecDepth 20000 in
theorem m_all_6_2_3 {vs : Int32} {wo un h : Int64} {bo : Nat → Int32} {ta tr ro ot : Nat → Int64} {Bm : Nat → Nat → Nat → Int32} {bk : Nat → Nat → Int32} : KX3_allOf l D ca ad [.ref 0, .int 6, .int 2] (MW 3 vs wo un h bo ta tr ro ot Bm bk) (some (.int (alM 3 (Bm 6) 2))) (MW 3 vs wo un h bo ta tr ro ot Bm bk) := by
  refine PX3_allOf (Nat.le_of_ble_eq_true rfl) ?_
  intro G hT hC hR
  refine mB hT 12 rfl ?_
  refine hC.1 _ 0 [_, _] _ _ _ _ _ (m_main_6_2) rfl rfl (Nat.le_of_ble_eq_true rfl) rfl ?_
  refine mB hT 10 rfl ?_
  refine mIf (fun h1 => ?_) (fun h1 => ?_)
  · refine mNf (lv2 := [(5, .int 0), (4, .int (mnM (Bm 6 2))), (3, .int (Bm 6 2 1)), (0, .ref 0), (1, .int 6), (2, .int 2)]) (st2 := []) rfl rfl ?_
    refine mB hT 1 rfl ?_
    exact hR _ (by decide) _ _ _ (congrArg (fun z => [Value.int z]) (if_pos h1).symm) rfl
  · refine mNf (lv2 := [(5, .int 0), (4, .int (mnM (Bm 6 2))), (3, .int (Bm 6 2 1)), (0, .ref 0), (1, .int 6), (2, .int 2)]) (st2 := []) rfl rfl ?_
    refine mB hT 17 rfl ?_
    refine hC.2 _ 0 [_, _, _] _ _ _ _ _ (m_value_6_0 _) rfl rfl (Nat.le_of_ble_eq_true rfl) rfl ?_
    refine mB hT 12 rfl ?_
    refine mIf (fun hp => absurd hp h1) (fun _ => ?_)
    refine mNf (lv2 := [(5, .int 1), (4, .int ((mnM (Bm 6 2)) + ((Bm 6 2 8) * (vlM (Bm 6 0) (Bm 6 2 1))))), (3, .int (Bm 6 2 1)), (0, .ref 0), (1, .int 6), (2, .int 2)]) (st2 := []) rfl rfl ?_
    refine mB hT 17 rfl ?_
    refine hC.2 _ 0 [_, _, _] _ _ _ _ _ (m_value_6_1 _) rfl rfl (Nat.le_of_ble_eq_true rfl) rfl ?_
    refine mB hT 12 rfl ?_
    refine mIf (fun hp => absurd hp h1) (fun _ => ?_)
    refine mNf (lv2 := [(5, .int 2), (4, .int (((mnM (Bm 6 2)) + ((Bm 6 2 8) * (vlM (Bm 6 0) (Bm 6 2 1)))) + ((Bm 6 2 9) * (vlM (Bm 6 1) (Bm 6 2 1))))), (3, .int (Bm 6 2 1)), (0, .ref 0), (1, .int 6), (2, .int 2)]) (st2 := []) rfl rfl ?_
    refine mB hT 17 rfl ?_
    refine hC.2 _ 0 [_, _, _] _ _ _ _ _ (m_value_6_2 _) rfl rfl (Nat.le_of_ble_eq_true rfl) rfl ?_
    refine mB hT 10 rfl ?_
    exact hR _ (by decide) _ _ _ (congrArg (fun z => [Value.int z]) (if_neg h1).symm) rfl
set_option maxRecDepth 20000 in
theorem m_all_6_2_4 {vs : Int32} {wo un h : Int64} {bo : Nat → Int32} {ta tr ro ot : Nat → Int64} {Bm : Nat → Nat → Nat → Int32} {bk : Nat → Nat → Int32} : KX3_allOf l D ca ad [.ref 0, .int 6, .int 2] (MW 4 vs wo un h bo ta tr ro ot Bm bk) (some (.int (alM 4 (Bm 6) 2))) (MW 4 vs wo un h bo ta tr ro ot Bm bk) := by
  refine PX3_allOf (Nat.le_of_ble_eq_true rfl) ?_
  intro G hT hC hR
  refine mB hT 12 rfl ?_
  refine hC.1 _ 0 [_, _] _ _ _ _ _ (m_main_6_2) rfl rfl (Nat.le_of_ble_eq_true rfl) rfl ?_
  refine mB hT 10 rfl ?_
  refine mIf (fun h1 => ?_) (fun h1 => ?_)
  · refine mNf (lv2 := [(5, .int 0), (4, .int (mnM (Bm 6 2))), (3, .int (Bm 6 2 1)), (0, .ref 0), (1, .int 6), (2, .int 2)]) (st2 := []) rfl rfl ?_
    refine mB hT 1 rfl ?_
    exact hR _ (by decide) _ _ _ (congrArg (fun z => [Value.int z]) (if_pos h1).symm) rfl
  · refine mNf (lv2 := [(5, .int 0), (4, .int (mnM (Bm 6 2))), (3, .int (Bm 6 2 1)), (0, .ref 0), (1, .int 6), (2, .int 2)]) (st2 := []) rfl rfl ?_
    refine mB hT 17 rfl ?_
    refine hC.2 _ 0 [_, _, _] _ _ _ _ _ (m_value_6_0 _) rfl rfl (Nat.le_of_ble_eq_true rfl) rfl ?_
    refine mB hT 12 rfl ?_
    refine mIf (fun hp => absurd hp h1) (fun _ => ?_)
    refine mNf (lv2 := [(5, .int 1), (4, .int ((mnM (Bm 6 2)) + ((Bm 6 2 8) * (vlM (Bm 6 0) (Bm 6 2 1))))), (3, .int (Bm 6 2 1)), (0, .ref 0), (1, .int 6), (2, .int 2)]) (st2 := []) rfl rfl ?_
    refine mB hT 17 rfl ?_
    refine hC.2 _ 0 [_, _, _] _ _ _ _ _ (m_value_6_1 _) rfl rfl (Nat.le_of_ble_eq_true rfl) rfl ?_
    refine mB hT 12 rfl ?_
    refine mIf (fun hp => absurd hp h1) (fun _ => ?_)
    refine mNf (lv2 := [(5, .int 2), (4, .int (((mnM (Bm 6 2)) + ((Bm 6 2 8) * (vlM (Bm 6 0) (Bm 6 2 1)))) + ((Bm 6 2 9) * (vlM (Bm 6 1) (Bm 6 2 1))))), (3, .int (Bm 6 2 1)), (0, .ref 0), (1, .int 6), (2, .int 2)]) (st2 := []) rfl rfl ?_
    refine mB hT 17 rfl ?_
    refine hC.2 _ 0 [_, _, _] _ _ _ _ _ (m_value_6_2 _) rfl rfl (Nat.le_of_ble_eq_true rfl) rfl ?_
    refine mB hT 12 rfl ?_
    refine mIf (fun hp => absurd hp h1) (fun _ => ?_)
    refine mNf (lv2 := [(5, .int 3), (4, .int ((((mnM (Bm 6 2)) + ((Bm 6 2 8) * (vlM (Bm 6 0) (Bm 6 2 1)))) + ((Bm 6 2 9) * (vlM (Bm 6 1) (Bm 6 2 1)))) + ((Bm 6 2 10) * (vlM (Bm 6 2) (Bm 6 2 1))))), (3, .int (Bm 6 2 1)), (0, .ref 0), (1, .int 6), (2, .int 2)]) (st2 := []) rfl rfl ?_
    refine mB hT 17 rfl ?_
    refine hC.2 _ 0 [_, _, _] _ _ _ _ _ (m_value_6_3 _) rfl rfl (Nat.le_of_ble_eq_true rfl) rfl ?_
    refine mB hT 10 rfl ?_
    exact hR _ (by decide) _ _ _ (congrArg (fun z => [Value.int z]) (if_neg h1).symm) rfl
theorem m_all_6_2 {n vs : Nat} {wo un h : Int64} {bo : Nat → Int32} {ta tr ro ot : Nat → Int64} {Bm : Nat → Nat → Nat → Int32} {bk : Nat → Nat → Int32} (hn : n ≤ 4) : KX3_allOf l D ca ad [.ref 0, .int 6, .int 2] (MW (Int32.ofNat n) (Int32.ofNat vs) wo un h bo ta tr ro ot Bm bk) (some (.int (alM n (Bm 6) 2))) (MW (Int32.ofNat n) (Int32.ofNat vs) wo un h bo ta tr ro ot Bm bk) := by
  match n, hn with
  | 0, _ => exact m_all_6_2_0
  | 1, _ => exact m_all_6_2_1
  | 2, _ => exact m_all_6_2_2
  | 3, _ => exact m_all_6_2_3
  | 4, _ => exact m_all_6_2_4
set_option maxRecDepth 20000 in
theorem m_main_6_3 {n vs : Int32} {wo un h : Int64} {bo : Nat → Int32} {ta tr ro ot : Nat → Int64} {Bm : Nat → Nat → Nat → Int32} {bk : Nat → Nat → Int32} : KX3_mainOf l D ca ad [.ref 0, .int 6, .int 3] (MW n vs wo un h bo ta tr ro ot Bm bk) (some (.int (mnM (Bm 6 3)))) (MW n vs wo un h bo ta tr ro ot Bm bk) := by
  refine PX3_mainOf (Nat.le_of_ble_eq_true rfl) ?_
  intro G hT hC hR
  refine mB hT 12 rfl ?_
  refine mIf (fun h1 => ?_) (fun h1 => ?_)
  · refine mB hT 2 rfl ?_
    exact hR _ (by decide) _ _ _ (congrArg (fun z => [Value.int z]) (if_pos h1).symm) rfl
  · refine mB hT 12 rfl ?_
    refine hC _ 0 [_, _, _] _ _ _ _ _ (m_value_6_3 _) rfl rfl (Nat.le_of_ble_eq_true rfl) rfl ?_
    refine mB hT 1 rfl ?_
    exact hR _ (by decide) _ _ _ (congrArg (fun z => [Value.int z]) (if_neg h1).symm) rfl
set_option maxRecDepth 20000 in
theorem m_all_6_3_0 {vs : Int32} {wo un h : Int64} {bo : Nat → Int32} {ta tr ro ot : Nat → Int64} {Bm : Nat → Nat → Nat → Int32} {bk : Nat → Nat → Int32} : KX3_allOf l D ca ad [.ref 0, .int 6, .int 3] (MW 0 vs wo un h bo ta tr ro ot Bm bk) (some (.int (alM 0 (Bm 6) 3))) (MW 0 vs wo un h bo ta tr ro ot Bm bk) := by
  refine PX3_allOf (Nat.le_of_ble_eq_true rfl) ?_
  intro G hT hC hR
  refine mB hT 12 rfl ?_
  refine hC.1 _ 0 [_, _] _ _ _ _ _ (m_main_6_3) rfl rfl (Nat.le_of_ble_eq_true rfl) rfl ?_
  refine mB hT 8 rfl ?_
  exact hR _ (by decide) _ _ _ (congrArg (fun z => [Value.int z]) (show _ = alM 0 _ _ by unfold alM; split <;> rfl)) rfl
set_option maxRecDepth 20000 in
theorem m_all_6_3_1 {vs : Int32} {wo un h : Int64} {bo : Nat → Int32} {ta tr ro ot : Nat → Int64} {Bm : Nat → Nat → Nat → Int32} {bk : Nat → Nat → Int32} : KX3_allOf l D ca ad [.ref 0, .int 6, .int 3] (MW 1 vs wo un h bo ta tr ro ot Bm bk) (some (.int (alM 1 (Bm 6) 3))) (MW 1 vs wo un h bo ta tr ro ot Bm bk) := by
  refine PX3_allOf (Nat.le_of_ble_eq_true rfl) ?_
  intro G hT hC hR
  refine mB hT 12 rfl ?_
  refine hC.1 _ 0 [_, _] _ _ _ _ _ (m_main_6_3) rfl rfl (Nat.le_of_ble_eq_true rfl) rfl ?_
  refine mB hT 10 rfl ?_
  refine mIf (fun h1 => ?_) (fun h1 => ?_)
  · refine mNf (lv2 := [(5, .int 0), (4, .int (mnM (Bm 6 3))), (3, .int (Bm 6 3 1)), (0, .ref 0), (1, .int 6), (2, .int 3)]) (st2 := []) rfl rfl ?_
    refine mB hT 1 rfl ?_
    exact hR _ (by decide) _ _ _ (congrArg (fun z => [Value.int z]) (if_pos h1).symm) rfl
  · refine mNf (lv2 := [(5, .int 0), (4, .int (mnM (Bm 6 3))), (3, .int (Bm 6 3 1)), (0, .ref 0), (1, .int 6), (2, .int 3)]) (st2 := []) rfl rfl ?_
    refine mB hT 17 rfl ?_
    refine hC.2 _ 0 [_, _, _] _ _ _ _ _ (m_value_6_0 _) rfl rfl (Nat.le_of_ble_eq_true rfl) rfl ?_
    refine mB hT 10 rfl ?_
    exact hR _ (by decide) _ _ _ (congrArg (fun z => [Value.int z]) (if_neg h1).symm) rfl
set_option maxRecDepth 20000 in
theorem m_all_6_3_2 {vs : Int32} {wo un h : Int64} {bo : Nat → Int32} {ta tr ro ot : Nat → Int64} {Bm : Nat → Nat → Nat → Int32} {bk : Nat → Nat → Int32} : KX3_allOf l D ca ad [.ref 0, .int 6, .int 3] (MW 2 vs wo un h bo ta tr ro ot Bm bk) (some (.int (alM 2 (Bm 6) 3))) (MW 2 vs wo un h bo ta tr ro ot Bm bk) := by
  refine PX3_allOf (Nat.le_of_ble_eq_true rfl) ?_
  intro G hT hC hR
  refine mB hT 12 rfl ?_
  refine hC.1 _ 0 [_, _] _ _ _ _ _ (m_main_6_3) rfl rfl (Nat.le_of_ble_eq_true rfl) rfl ?_
  refine mB hT 10 rfl ?_
  refine mIf (fun h1 => ?_) (fun h1 => ?_)
  · refine mNf (lv2 := [(5, .int 0), (4, .int (mnM (Bm 6 3))), (3, .int (Bm 6 3 1)), (0, .ref 0), (1, .int 6), (2, .int 3)]) (st2 := []) rfl rfl ?_
    refine mB hT 1 rfl ?_
    exact hR _ (by decide) _ _ _ (congrArg (fun z => [Value.int z]) (if_pos h1).symm) rfl
  · refine mNf (lv2 := [(5, .int 0), (4, .int (mnM (Bm 6 3))), (3, .int (Bm 6 3 1)), (0, .ref 0), (1, .int 6), (2, .int 3)]) (st2 := []) rfl rfl ?_
    refine mB hT 17 rfl ?_
    refine hC.2 _ 0 [_, _, _] _ _ _ _ _ (m_value_6_0 _) rfl rfl (Nat.le_of_ble_eq_true rfl) rfl ?_
    refine mB hT 12 rfl ?_
    refine mIf (fun hp => absurd hp h1) (fun _ => ?_)
    refine mNf (lv2 := [(5, .int 1), (4, .int ((mnM (Bm 6 3)) + ((Bm 6 3 8) * (vlM (Bm 6 0) (Bm 6 3 1))))), (3, .int (Bm 6 3 1)), (0, .ref 0), (1, .int 6), (2, .int 3)]) (st2 := []) rfl rfl ?_
    refine mB hT 17 rfl ?_
    refine hC.2 _ 0 [_, _, _] _ _ _ _ _ (m_value_6_1 _) rfl rfl (Nat.le_of_ble_eq_true rfl) rfl ?_
    refine mB hT 10 rfl ?_
    exact hR _ (by decide) _ _ _ (congrArg (fun z => [Value.int z]) (if_neg h1).symm) rfl
set_option maxRecDepth 20000 in
theorem m_all_6_3_3 {vs : Int32} {wo un h : Int64} {bo : Nat → Int32} {ta tr ro ot : Nat → Int64} {Bm : Nat → Nat → Nat → Int32} {bk : Nat → Nat → Int32} : KX3_allOf l D ca ad [.ref 0, .int 6, .int 3] (MW 3 vs wo un h bo ta tr ro ot Bm bk) (some (.int (alM 3 (Bm 6) 3))) (MW 3 vs wo un h bo ta tr ro ot Bm bk) := by
  refine PX3_allOf (Nat.le_of_ble_eq_true rfl) ?_
  intro G hT hC hR
  refine mB hT 12 rfl ?_
  refine hC.1 _ 0 [_, _] _ _ _ _ _ (m_main_6_3) rfl rfl (Nat.le_of_ble_eq_true rfl) rfl ?_
  refine mB hT 10 rfl ?_
  refine mIf (fun h1 => ?_) (fun h1 => ?_)
  · refine mNf (lv2 := [(5, .int 0), (4, .int (mnM (Bm 6 3))), (3, .int (Bm 6 3 1)), (0, .ref 0), (1, .int 6), (2, .int 3)]) (st2 := []) rfl rfl ?_
    refine mB hT 1 rfl ?_
    exact hR _ (by decide) _ _ _ (congrArg (fun z => [Value.int z]) (if_pos h1).symm) rfl
  · refine mNf (lv2 := [(5, .int 0), (4, .int (mnM (Bm 6 3))), (3, .int (Bm 6 3 1)), (0, .ref 0), (1, .int 6), (2, .int 3)]) (st2 := []) rfl rfl ?_
    refine mB hT 17 rfl ?_
    refine hC.2 _ 0 [_, _, _] _ _ _ _ _ (m_value_6_0 _) rfl rfl (Nat.le_of_ble_eq_true rfl) rfl ?_
    refine mB hT 12 rfl ?_
    refine mIf (fun hp => absurd hp h1) (fun _ => ?_)
    refine mNf (lv2 := [(5, .int 1), (4, .int ((mnM (Bm 6 3)) + ((Bm 6 3 8) * (vlM (Bm 6 0) (Bm 6 3 1))))), (3, .int (Bm 6 3 1)), (0, .ref 0), (1, .int 6), (2, .int 3)]) (st2 := []) rfl rfl ?_
    refine mB hT 17 rfl ?_
    refine hC.2 _ 0 [_, _, _] _ _ _ _ _ (m_value_6_1 _) rfl rfl (Nat.le_of_ble_eq_true rfl) rfl ?_
    refine mB hT 12 rfl ?_
    refine mIf (fun hp => absurd hp h1) (fun _ => ?_)
    refine mNf (lv2 := [(5, .int 2), (4, .int (((mnM (Bm 6 3)) + ((Bm 6 3 8) * (vlM (Bm 6 0) (Bm 6 3 1)))) + ((Bm 6 3 9) * (vlM (Bm 6 1) (Bm 6 3 1))))), (3, .int (Bm 6 3 1)), (0, .ref 0), (1, .int 6), (2, .int 3)]) (st2 := []) rfl rfl ?_
    refine mB hT 17 rfl ?_
    refine hC.2 _ 0 [_, _, _] _ _ _ _ _ (m_value_6_2 _) rfl rfl (Nat.le_of_ble_eq_true rfl) rfl ?_
    refine mB hT 10 rfl ?_
    exact hR _ (by decide) _ _ _ (congrArg (fun z => [Value.int z]) (if_neg h1).symm) rfl
set_option maxRecDepth 20000 in
theorem m_all_6_3_4 {vs : Int32} {wo un h : Int64} {bo : Nat → Int32} {ta tr ro ot : Nat → Int64} {Bm : Nat → Nat → Nat → Int32} {bk : Nat → Nat → Int32} : KX3_allOf l D ca ad [.ref 0, .int 6, .int 3] (MW 4 vs wo un h bo ta tr ro ot Bm bk) (some (.int (alM 4 (Bm 6) 3))) (MW 4 vs wo un h bo ta tr ro ot Bm bk) := by
  refine PX3_allOf (Nat.le_of_ble_eq_true rfl) ?_
  intro G hT hC hR
  refine mB hT 12 rfl ?_
  refine hC.1 _ 0 [_, _] _ _ _ _ _ (m_main_6_3) rfl rfl (Nat.le_of_ble_eq_true rfl) rfl ?_
  refine mB hT 10 rfl ?_
  refine mIf (fun h1 => ?_) (fun h1 => ?_)
  · refine mNf (lv2 := [(5, .int 0), (4, .int (mnM (Bm 6 3))), (3, .int (Bm 6 3 1)), (0, .ref 0), (1, .int 6), (2, .int 3)]) (st2 := []) rfl rfl ?_
    refine mB hT 1 rfl ?_
    exact hR _ (by decide) _ _ _ (congrArg (fun z => [Value.int z]) (if_pos h1).symm) rfl
  · refine mNf (lv2 := [(5, .int 0), (4, .int (mnM (Bm 6 3))), (3, .int (Bm 6 3 1)), (0, .ref 0), (1, .int 6), (2, .int 3)]) (st2 := []) rfl rfl ?_
    refine mB hT 17 rfl ?_
    refine hC.2 _ 0 [_, _, _] _ _ _ _ _ (m_value_6_0 _) rfl rfl (Nat.le_of_ble_eq_true rfl) rfl ?_
    refine mB hT 12 rfl ?_
    refine mIf (fun hp => absurd hp h1) (fun _ => ?_)
    refine mNf (lv2 := [(5, .int 1), (4, .int ((mnM (Bm 6 3)) + ((Bm 6 3 8) * (vlM (Bm 6 0) (Bm 6 3 1))))), (3, .int (Bm 6 3 1)), (0, .ref 0), (1, .int 6), (2, .int 3)]) (st2 := []) rfl rfl ?_
    refine mB hT 17 rfl ?_
    refine hC.2 _ 0 [_, _, _] _ _ _ _ _ (m_value_6_1 _) rfl rfl (Nat.le_of_ble_eq_true rfl) rfl ?_
    refine mB hT 12 rfl ?_
    refine mIf (fun hp => absurd hp h1) (fun _ => ?_)
    refine mNf (lv2 := [(5, .int 2), (4, .int (((mnM (Bm 6 3)) + ((Bm 6 3 8) * (vlM (Bm 6 0) (Bm 6 3 1)))) + ((Bm 6 3 9) * (vlM (Bm 6 1) (Bm 6 3 1))))), (3, .int (Bm 6 3 1)), (0, .ref 0), (1, .int 6), (2, .int 3)]) (st2 := []) rfl rfl ?_
    refine mB hT 17 rfl ?_
    refine hC.2 _ 0 [_, _, _] _ _ _ _ _ (m_value_6_2 _) rfl rfl (Nat.le_of_ble_eq_true rfl) rfl ?_
    refine mB hT 12 rfl ?_
    refine mIf (fun hp => absurd hp h1) (fun _ => ?_)
    refine mNf (lv2 := [(5, .int 3), (4, .int ((((mnM (Bm 6 3)) + ((Bm 6 3 8) * (vlM (Bm 6 0) (Bm 6 3 1)))) + ((Bm 6 3 9) * (vlM (Bm 6 1) (Bm 6 3 1)))) + ((Bm 6 3 10) * (vlM (Bm 6 2) (Bm 6 3 1))))), (3, .int (Bm 6 3 1)), (0, .ref 0), (1, .int 6), (2, .int 3)]) (st2 := []) rfl rfl ?_
    refine mB hT 17 rfl ?_
    refine hC.2 _ 0 [_, _, _] _ _ _ _ _ (m_value_6_3 _) rfl rfl (Nat.le_of_ble_eq_true rfl) rfl ?_
    refine mB hT 10 rfl ?_
    exact hR _ (by decide) _ _ _ (congrArg (fun z => [Value.int z]) (if_neg h1).symm) rfl
theorem m_all_6_3 {n vs : Nat} {wo un h : Int64} {bo : Nat → Int32} {ta tr ro ot : Nat → Int64} {Bm : Nat → Nat → Nat → Int32} {bk : Nat → Nat → Int32} (hn : n ≤ 4) : KX3_allOf l D ca ad [.ref 0, .int 6, .int 3] (MW (Int32.ofNat n) (Int32.ofNat vs) wo un h bo ta tr ro ot Bm bk) (some (.int (alM n (Bm 6) 3))) (MW (Int32.ofNat n) (Int32.ofNat vs) wo un h bo ta tr ro ot Bm bk) := by
  match n, hn with
  | 0, _ => exact m_all_6_3_0
  | 1, _ => exact m_all_6_3_1
  | 2, _ => exact m_all_6_3_2
  | 3, _ => exact m_all_6_3_3
  | 4, _ => exact m_all_6_3_4
end
