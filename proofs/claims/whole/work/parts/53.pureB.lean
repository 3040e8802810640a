/-! THE BOOKS of class (R) and reference (M), held beside each other -/
def loR (p : Nat) : Int := if p = 0 then 1 else if p = 21 then 1 else if p = 22 then 1 else 0
def hiR (n p : Nat) : Int := if p = 0 then 6 else if p = 1 then 2 else if p < 8 then 6 else if p < 12 then (if p < 8 + n then 6 else 0) else if p < 21 then 100 else 5
def RG (n : Nat) (row : Nat → Int32) : Prop := ∀ p : Nat, p < 23 → p ≠ 2 → p ≠ 3 → loR p ≤ (row p).toInt ∧ (row p).toInt ≤ hiR n p
def RS (r m : Nat → Int32) : Prop := ∀ p : Nat, p < 23 → p ≠ 2 → p ≠ 3 → r p = m p
def RO (n : Nat) (R M : Nat → Nat → Int32) (i : Nat) : Prop := RS (R i) (M i) ∧ R i 2 = mnM (M i) ∧ R i 3 = alM n M i ∧ RG n (M i)
def frR (p : Nat) : Int32 := if p = 0 then 1 else if p = 2 then 1 else if p = 3 then 1 else if p = 21 then 1 else if p = 22 then 1 else 0
def FO (r m : Nat → Int32) : Prop := (∀ p : Nat, p < 23 → r p = frR p) ∧ ∀ p : Nat, 4 ≤ p → p < 21 → m p = 0
def BR (n : Nat) (R M : Nat → Nat → Int32) : Prop := (∀ i : Nat, i < n → RO n R M i) ∧ ∀ i : Nat, n ≤ i → i < 4 → FO (R i) (M i)
def RI (n vs : Nat) (B Bm : Nat → Nat → Nat → Int32) (bk : Nat → Nat → Int32) : Prop :=
  n ≤ 4 ∧ vs ≤ 6 ∧ BR n (B 6) (Bm 6) ∧ (∀ v : Nat, v < vs → BR n (B v) (Bm v)) ∧ ∀ b j : Nat, b < 4 → j < 4 → 0 ≤ (bk b j).toInt ∧ (bk b j).toInt ≤ 20
theorem up_at {α : Type} (f : Nat → α) (k : Nat) (v : α) : up f k v k = v := if_pos rfl
theorem up_ne {α : Type} {f : Nat → α} {k j : Nat} {v : α} (h : j ≠ k) : up f k v j = f j := if_neg h
theorem up_up {α : Type} (f : Nat → α) (k : Nat) (v w : α) : up (up f k v) k w = up f k w := by
  funext j
  by_cases h : j = k
  · subst h; rw [up_at, up_at]
  · rw [up_ne h, up_ne h, up_ne h]
theorem i32_of {x : Int32} {z : Int32} (h : x.toInt = z.toInt) : x = z := Int32.toInt_inj.mp h
theorem i32_3 {x : Int32} (h0 : 0 ≤ x.toInt) (h2 : x.toInt ≤ 2) : x = 0 ∨ x = 1 ∨ x = 2 := by
  have h : x.toInt = 0 ∨ x.toInt = 1 ∨ x.toInt = 2 := by omega
  rcases h with e | e | e
  · exact Or.inl (i32_of e)
  · exact Or.inr (Or.inl (i32_of e))
  · exact Or.inr (Or.inr (i32_of e))
theorem i32_0 {x : Int32} (h0 : 0 ≤ x.toInt) (h2 : x.toInt ≤ 0) : x = 0 := by
  have h : x.toInt = 0 := by omega
  exact i32_of h
theorem RG_rule {n : Nat} {m : Nat → Int32} (h : RG n m) : m 1 = 0 ∨ m 1 = 1 ∨ m 1 = 2 := by
  have q := h 1 (by decide) (by decide) (by decide)
  exact i32_3 q.1 q.2
theorem RG_z {n : Nat} {m : Nat → Int32} (h : RG n m) {j : Nat} (h1 : n ≤ j) (h2 : j < 4) : m (8 + j) = 0 := by
  have q := h (8 + j) (by omega) (by omega) (by omega)
  refine i32_0 ?_ ?_
  · have e : loR (8 + j) = 0 := by
      unfold loR
      rw [if_neg (by omega), if_neg (by omega), if_neg (by omega)]
    rw [e] at q
    exact q.1
  · have e : hiR n (8 + j) = 0 := by
      unfold hiR
      rw [if_neg (by omega), if_neg (by omega), if_neg (by omega), if_pos (by omega), if_neg (by omega)]
    rw [e] at q
    exact q.2
theorem RG_up {n : Nat} {m : Nat → Int32} (h : RG n m) {w : Nat} {v : Int32} (h1 : loR w ≤ v.toInt) (h2 : v.toInt ≤ hiR n w) : RG n (up m w v) := by
  intro p hp q2 q3
  by_cases e : p = w
  · subst e; rw [up_at]; exact ⟨h1, h2⟩
  · rw [up_ne e]; exact h p hp q2 q3
theorem RS_up {r m : Nat → Int32} (h : RS r m) (w : Nat) (v : Int32) : RS (up r w v) (up m w v) := by
  intro p hp q2 q3
  by_cases e : p = w
  · subst e; rw [up_at, up_at]
  · rw [up_ne e, up_ne e]; exact h p hp q2 q3
def SA (R R2 : Nat → Nat → Int32) : Prop := ∀ i p : Nat, p ≠ 2 → p ≠ 3 → R i p = R2 i p
theorem ms_2 (r : Nat → Int32) : msX r ≠ 2 := by unfold msX; split <;> decide
theorem ms_3 (r : Nat → Int32) : msX r ≠ 3 := by unfold msX; split <;> decide
theorem mainX_sa {r r2 : Nat → Int32} (h : ∀ p : Nat, p ≠ 2 → p ≠ 3 → r p = r2 p) : mainX r = mainX r2 := by
  have em : msX r = msX r2 := by unfold msX; rw [h 1 (by decide) (by decide)]
  unfold mainX
  rw [em, h 1 (by decide) (by decide), h 0 (by decide) (by decide), h (msX r2) (ms_2 r2) (ms_3 r2)]
theorem allX_sa {R R2 : Nat → Nat → Int32} (h : SA R R2) (i : Nat) : allX R i = allX R2 i := by
  have em : msX (R i) = msX (R2 i) := by unfold msX; rw [h i 1 (by decide) (by decide)]
  have e : ∀ k : Nat, R k (msX (R2 i)) = R2 k (msX (R2 i)) := fun k => h k _ (ms_2 _) (ms_3 _)
  unfold allX
  rw [em, h i 1 (by decide) (by decide), h i 0 (by decide) (by decide), h i 8 (by decide) (by decide), h i 9 (by decide) (by decide), h i 10 (by decide) (by decide), h i 11 (by decide) (by decide), e i, e 0, e 1, e 2, e 3]
theorem wrow_o {R : Nat → Nat → Int32} {i k : Nat} (h : k ≠ i) : wrow R i k = R k := up_ne h
theorem wrow_sa (R : Nat → Nat → Int32) (i : Nat) : SA (wrow R i) R := by
  intro k p h2 h3
  by_cases hk : k = i
  · subst hk
    unfold wrow
    rw [up_at, up_ne h3, up_ne h2]
  · rw [wrow_o hk]
theorem wrow_2 (R : Nat → Nat → Int32) (i : Nat) : wrow R i i 2 = mainX (R i) := by
  unfold wrow
  rw [up_at, up_ne (by decide), up_at]
theorem wrow_3 (R : Nat → Nat → Int32) (i : Nat) : wrow R i i 3 = allX R i := by
  unfold wrow
  rw [up_at, up_at]
def wr4 (R : Nat → Nat → Int32) : Nat → Nat → Int32 := wrow (wrow (wrow (wrow R 0) 1) 2) 3
theorem sa_t {R S T : Nat → Nat → Int32} (h : SA R S) (k : SA S T) : SA R T := fun i p h2 h3 => (h i p h2 h3).trans (k i p h2 h3)
theorem wr1_sa (R : Nat → Nat → Int32) : SA (wrow (wrow R 0) 1) R := sa_t (wrow_sa _ 1) (wrow_sa _ 0)
theorem wr2_sa (R : Nat → Nat → Int32) : SA (wrow (wrow (wrow R 0) 1) 2) R := sa_t (wrow_sa _ 2) (wr1_sa _)
theorem wr4_sa (R : Nat → Nat → Int32) : SA (wr4 R) R := sa_t (wrow_sa _ 3) (wr2_sa _)
theorem wr4_0 (R : Nat → Nat → Int32) : wr4 R 0 = wrow R 0 0 := by
  unfold wr4
  rw [wrow_o (by decide), wrow_o (by decide), wrow_o (by decide)]
theorem wr4_1 (R : Nat → Nat → Int32) : wr4 R 1 = wrow (wrow R 0) 1 1 := by
  unfold wr4
  rw [wrow_o (by decide), wrow_o (by decide)]
theorem wr4_2 (R : Nat → Nat → Int32) : wr4 R 2 = wrow (wrow (wrow R 0) 1) 2 2 := by
  unfold wr4
  rw [wrow_o (by decide)]
theorem wr4_m (R : Nat → Nat → Int32) {k : Nat} (hk : k < 4) : wr4 R k 2 = mainX (R k) := by
  rcases (show k = 0 ∨ k = 1 ∨ k = 2 ∨ k = 3 by omega) with e | e | e | e
  · subst e; rw [wr4_0, wrow_2]
  · subst e; rw [wr4_1, wrow_2]; exact mainX_sa (wrow_sa R 0 1)
  · subst e; rw [wr4_2, wrow_2]; exact mainX_sa (wr1_sa R 2)
  · subst e; unfold wr4; rw [wrow_2]; exact mainX_sa (wr2_sa R 3)
theorem wr4_a (R : Nat → Nat → Int32) {k : Nat} (hk : k < 4) : wr4 R k 3 = allX R k := by
  rcases (show k = 0 ∨ k = 1 ∨ k = 2 ∨ k = 3 by omega) with e | e | e | e
  · subst e; rw [wr4_0, wrow_3]
  · subst e; rw [wr4_1, wrow_3]; exact allX_sa (wrow_sa R 0) 1
  · subst e; rw [wr4_2, wrow_3]; exact allX_sa (wr1_sa R) 2
  · subst e; unfold wr4; rw [wrow_3]; exact allX_sa (wr2_sa R) 3
theorem main_eq {r m : Nat → Int32} (h : RS r m) (hr : m 1 = 0 ∨ m 1 = 1 ∨ m 1 = 2) : mainX r = mnM m := by
  have e0 := h 0 (by decide) (by decide) (by decide)
  have e1 := h 1 (by decide) (by decide) (by decide)
  have e21 := h 21 (by decide) (by decide) (by decide)
  have e22 := h 22 (by decide) (by decide) (by decide)
  rcases hr with q | q | q
  · simp [mainX, mnM, msX, vlM, e0, e1, q, e21]
  · simp [mainX, mnM, msX, vlM, e0, e1, q, e22]
  · simp [mainX, mnM, e1, q]
theorem all_eq {n : Nat} {R M : Nat → Nat → Int32} {i : Nat} (hn : n ≤ 4) (h : ∀ k : Nat, k < n → RS (R k) (M k)) (hi : i < n) (hr : M i 1 = 0 ∨ M i 1 = 1 ∨ M i 1 = 2) (hz : ∀ j : Nat, n ≤ j → j < 4 → M i (8 + j) = 0) : allX R i = alM n M i := by
  have e0 := h i hi 0 (by decide) (by decide) (by decide)
  have e1 := h i hi 1 (by decide) (by decide) (by decide)
  have e8 := h i hi 8 (by decide) (by decide) (by decide)
  have e9 := h i hi 9 (by decide) (by decide) (by decide)
  have e10 := h i hi 10 (by decide) (by decide) (by decide)
  have e11 := h i hi 11 (by decide) (by decide) (by decide)
  have e21 := h i hi 21 (by decide) (by decide) (by decide)
  have e22 := h i hi 22 (by decide) (by decide) (by decide)
  have f21 : ∀ k : Nat, k < n → R k 21 = M k 21 := fun k hk => h k hk 21 (by decide) (by decide) (by decide)
  have f22 : ∀ k : Nat, k < n → R k 22 = M k 22 := fun k hk => h k hk 22 (by decide) (by decide) (by decide)
  rcases hr with q | q | q
  · rcases (show n = 1 ∨ n = 2 ∨ n = 3 ∨ n = 4 by omega) with e | e | e | e
    · subst e
      have z1 : M i 9 = 0 := hz 1 (by decide) (by decide)
      have z2 : M i 10 = 0 := hz 2 (by decide) (by decide)
      have z3 : M i 11 = 0 := hz 3 (by decide) (by decide)
      simp [allX, alM, alS, mnM, msX, vlM, e0, e1, e8, e9, e10, e11, e21, q, z1, z2, z3, f21 0 (by decide)]
    · subst e
      have z2 : M i 10 = 0 := hz 2 (by decide) (by decide)
      have z3 : M i 11 = 0 := hz 3 (by decide) (by decide)
      simp [allX, alM, alS, mnM, msX, vlM, e0, e1, e8, e9, e10, e11, e21, q, z2, z3, f21 0 (by decide), f21 1 (by decide)]
    · subst e
      have z3 : M i 11 = 0 := hz 3 (by decide) (by decide)
      simp [allX, alM, alS, mnM, msX, vlM, e0, e1, e8, e9, e10, e11, e21, q, z3, f21 0 (by decide), f21 1 (by decide), f21 2 (by decide)]
    · subst e
      simp [allX, alM, alS, mnM, msX, vlM, e0, e1, e8, e9, e10, e11, e21, q, f21 0 (by decide), f21 1 (by decide), f21 2 (by decide), f21 3 (by decide)]
  · rcases (show n = 1 ∨ n = 2 ∨ n = 3 ∨ n = 4 by omega) with e | e | e | e
    · subst e
      have z1 : M i 9 = 0 := hz 1 (by decide) (by decide)
      have z2 : M i 10 = 0 := hz 2 (by decide) (by decide)
      have z3 : M i 11 = 0 := hz 3 (by decide) (by decide)
      simp [allX, alM, alS, mnM, msX, vlM, e0, e1, e8, e9, e10, e11, e22, q, z1, z2, z3, f22 0 (by decide)]
    · subst e
      have z2 : M i 10 = 0 := hz 2 (by decide) (by decide)
      have z3 : M i 11 = 0 := hz 3 (by decide) (by decide)
      simp [allX, alM, alS, mnM, msX, vlM, e0, e1, e8, e9, e10, e11, e22, q, z2, z3, f22 0 (by decide), f22 1 (by decide)]
    · subst e
      have z3 : M i 11 = 0 := hz 3 (by decide) (by decide)
      simp [allX, alM, alS, mnM, msX, vlM, e0, e1, e8, e9, e10, e11, e22, q, z3, f22 0 (by decide), f22 1 (by decide), f22 2 (by decide)]
    · subst e
      simp [allX, alM, alS, mnM, msX, vlM, e0, e1, e8, e9, e10, e11, e22, q, f22 0 (by decide), f22 1 (by decide), f22 2 (by decide), f22 3 (by decide)]
  · simp [allX, alM, mnM, e1, q]
theorem FO_main {r m : Nat → Int32} (h : FO r m) : mainX r = 1 := by
  have e0 : r 0 = 1 := h.1 0 (by decide)
  have e1 : r 1 = 0 := h.1 1 (by decide)
  have e21 : r 21 = 1 := h.1 21 (by decide)
  simp [mainX, msX, e0, e1, e21]
theorem FO_all {R : Nat → Nat → Int32} {i : Nat} {m : Nat → Int32} (h : FO (R i) m) : allX R i = 1 := by
  have e0 : R i 0 = 1 := h.1 0 (by decide)
  have e1 : R i 1 = 0 := h.1 1 (by decide)
  have e21 : R i 21 = 1 := h.1 21 (by decide)
  have e8 : R i 8 = 0 := h.1 8 (by decide)
  have e9 : R i 9 = 0 := h.1 9 (by decide)
  have e10 : R i 10 = 0 := h.1 10 (by decide)
  have e11 : R i 11 = 0 := h.1 11 (by decide)
  simp [allX, msX, e0, e1, e21, e8, e9, e10, e11]
theorem BR_wr {n : Nat} {R M : Nat → Nat → Int32} (hn : n ≤ 4) (h1 : ∀ i : Nat, i < n → RS (R i) (M i) ∧ RG n (M i)) (h2 : ∀ i : Nat, n ≤ i → i < 4 → FO (R i) (M i)) : BR n (wr4 R) M := by
  refine ⟨fun i hi => ⟨fun p hp q2 q3 => ?_, ?_, ?_, (h1 i hi).2⟩, fun i hi h4 => ⟨fun p hp => ?_, (h2 i hi h4).2⟩⟩
  · rw [wr4_sa R i p q2 q3]; exact (h1 i hi).1 p hp q2 q3
  · rw [wr4_m R (by omega)]; exact main_eq (h1 i hi).1 (RG_rule (h1 i hi).2)
  · rw [wr4_a R (by omega)]; exact all_eq hn (fun k hk => (h1 k hk).1) hi (RG_rule (h1 i hi).2) (fun j a b => RG_z (h1 i hi).2 a b)
  · by_cases q2 : p = 2
    · subst q2; rw [wr4_m R h4, FO_main (h2 i hi h4)]; rfl
    · by_cases q3 : p = 3
      · subst q3; rw [wr4_a R h4, FO_all (h2 i hi h4)]; rfl
      · rw [wr4_sa R i p q2 q3]; exact (h2 i hi h4).1 p hp
theorem BR_ch {n : Nat} {R M : Nat → Nat → Int32} (hn : n ≤ 4) (h : BR n R M) {i : Nat} (hi : i < n) {w : Nat} {v : Int32} (h1 : loR w ≤ v.toInt) (h2 : v.toInt ≤ hiR n w) : BR n (chX R i w v) (up M i (up (M i) w v)) := by
  show BR n (wr4 (up R i (up (R i) w v))) _
  refine BR_wr hn (fun k hk => ?_) (fun k hk h4 => ?_)
  · by_cases e : k = i
    · subst e
      rw [up_at, up_at]
      exact ⟨RS_up (h.1 k hk).1 w v, RG_up (h.1 k hk).2.2.2 h1 h2⟩
    · rw [up_ne e, up_ne e]
      exact ⟨(h.1 k hk).1, (h.1 k hk).2.2.2⟩
  · rw [up_ne (by omega), up_ne (by omega)]
    exact h.2 k hk h4
theorem RO_td {n : Nat} {R M : Nat → Nat → Int32} {i : Nat} (h : RO n R M i) {q : Nat} (hq : q < 23) : R i q = tdM n M i q := by
  unfold tdM
  by_cases q2 : q = 2
  · subst q2; rw [if_pos rfl]; exact h.2.1
  · rw [if_neg q2]
    by_cases q3 : q = 3
    · subst q3; rw [if_pos rfl]; exact h.2.2.1
    · rw [if_neg q3]; exact h.1 q hq q2 q3
theorem RO_cell {n : Nat} {R M : Nat → Nat → Int32} {i : Nat} (h : RO n R M i) {j : Nat} (hj : j < 4) : cellX (R i) i j = ceM n M i j := by
  unfold cellX ceM
  rw [h.1 1 (by decide) (by decide) (by decide), h.1 0 (by decide) (by decide) (by decide), h.1 (8 + j) (by omega) (by omega) (by omega), h.1 (4 + j) (by omega) (by omega) (by omega), h.2.1, h.2.2.1]
theorem alS_congr {M M2 : Nat → Nat → Int32} {i : Nat} (hi : M i = M2 i) : ∀ {n : Nat}, (∀ k : Nat, k < n → M k = M2 k) → alS n M i = alS n M2 i
  | 0, _ => by
    show mnM (M i) = mnM (M2 i)
    rw [hi]
  | n + 1, h => by
    show alS n M i + M i (8 + n) * vlM (M n) (M i 1) = alS n M2 i + M2 i (8 + n) * vlM (M2 n) (M2 i 1)
    rw [alS_congr hi (fun k hk => h k (by omega)), hi, h n (by omega)]
theorem alS_0 {M : Nat → Nat → Int32} {i : Nat} : ∀ {n : Nat}, (∀ k : Nat, k < n → M i (8 + k) = 0) → alS n M i = mnM (M i)
  | 0, _ => rfl
  | n + 1, h => by
    show alS n M i + M i (8 + n) * vlM (M n) (M i 1) = _
    rw [alS_0 (fun k hk => h k (by omega)), h n (by omega), Int32.zero_mul, Int32.add_zero]
theorem hiR_up (n p : Nat) : hiR n p ≤ hiR (n + 1) p := by
  unfold hiR
  repeat' split
  all_goals omega
theorem RG_succ {n : Nat} {m : Nat → Int32} (h : RG n m) : RG (n + 1) m := fun p hp q2 q3 => ⟨(h p hp q2 q3).1, Int.le_trans (h p hp q2 q3).2 (hiR_up n p)⟩
theorem BR_mk {n : Nat} {R M : Nat → Nat → Int32} (hn : n < 4) (h : BR n R M) : BR (n + 1) R (up M n (up (up (up (up (M n) 0 1) 1 0) 21 1) 22 1)) := by
  obtain ⟨m2, em⟩ : ∃ z, z = up (up (up (up (M n) 0 1) 1 0) 21 1) 22 1 := ⟨_, rfl⟩
  rw [← em]
  have hf := h.2 n (Nat.le_refl n) hn
  have a0 : m2 0 = 1 := by rw [em]; rfl
  have a1 : m2 1 = 0 := by rw [em]; rfl
  have a21 : m2 21 = 1 := by rw [em]; rfl
  have a22 : m2 22 = 1 := by rw [em]; rfl
  have ao : ∀ p : Nat, 4 ≤ p → p < 21 → m2 p = 0 := fun p h4 h5 => by
    rw [em, up_ne (by omega), up_ne (by omega), up_ne (by omega), up_ne (by omega)]
    exact hf.2 p h4 h5
  have am : mnM m2 = 1 := by simp [mnM, vlM, a0, a1, a21]
  have hs : RS (R n) m2 := fun p hp q2 q3 => by
    rw [hf.1 p hp]
    by_cases p0 : p = 0
    · subst p0; rw [a0]; rfl
    · by_cases p1 : p = 1
      · subst p1; rw [a1]; rfl
      · by_cases p21 : p = 21
        · subst p21; rw [a21]; rfl
        · by_cases p22 : p = 22
          · subst p22; rw [a22]; rfl
          · rw [ao p (by omega) (by omega)]
            unfold frR
            rw [if_neg p0, if_neg q2, if_neg q3, if_neg p21, if_neg p22]
  refine ⟨fun i hi => ?_, fun i hi h4 => ?_⟩
  · by_cases e : i = n
    · subst e
      unfold RO
      rw [up_at]
      refine ⟨hs, ?_, ?_, ?_⟩
      · rw [hf.1 2 (by decide), am]; rfl
      · rw [hf.1 3 (by decide)]
        unfold alM
        rw [up_at, a1, if_neg (by decide), alS_0 (fun k hk => ?_), up_at, am]
        · rfl
        · rw [up_at]; exact ao _ (by omega) (by omega)
      · intro p hp q2 q3
        by_cases p0 : p = 0
        · subst p0; rw [a0]; exact ⟨by decide, by show (1 : Int) ≤ 6; decide⟩
        · by_cases p1 : p = 1
          · subst p1; rw [a1]; exact ⟨by decide, by show (0 : Int) ≤ 2; decide⟩
          · by_cases p21 : p = 21
            · subst p21; rw [a21]; exact ⟨by decide, by show (1 : Int) ≤ 5; decide⟩
            · by_cases p22 : p = 22
              · subst p22; rw [a22]; exact ⟨by decide, by show (1 : Int) ≤ 5; decide⟩
              · rw [ao p (by omega) (by omega)]
                have z : (0 : Int32).toInt = 0 := rfl
                rw [z]
                unfold loR hiR
                rw [if_neg p0, if_neg p21, if_neg p22, if_neg p0, if_neg p1]
                refine ⟨Int.le_refl 0, ?_⟩
                repeat' split
                all_goals decide
    · have hr := h.1 i (by omega)
      unfold RO
      rw [up_ne e]
      refine ⟨hr.1, hr.2.1, ?_, RG_succ hr.2.2.2⟩
      rw [hr.2.2.1]
      unfold alM
      rw [up_ne e]
      by_cases q : 2 ≤ M i 1
      · rw [if_pos q, if_pos q]
      · rw [if_neg q, if_neg q]
        show alS n M i = alS n _ i + up M n m2 i (8 + n) * vlM (up M n m2 n) (up M n m2 i 1)
        rw [up_ne e, RG_z hr.2.2.2 (Nat.le_refl n) hn, Int32.zero_mul, Int32.add_zero]
        exact alS_congr (up_ne e).symm (fun k hk => (up_ne (by omega)).symm)
  · rw [up_ne (by omega)]
    exact h.2 i (by omega) h4
