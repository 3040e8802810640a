/-! count, digest, way, blame -/
theorem hb_0 {r : Nat → Int32} : hbX r = 0 ↔ (¬ 0 < r 8 ∧ ¬ 0 < r 9 ∧ ¬ 0 < r 10 ∧ ¬ 0 < r 11) := by
  have o : ¬ (1 : Int32) = 0 := by decide
  unfold hbX
  by_cases a : 0 < r 8
  · rw [if_pos a]; exact ⟨fun z => absurd z o, fun z => absurd a z.1⟩
  · rw [if_neg a]
    by_cases b : 0 < r 9
    · rw [if_pos b]; exact ⟨fun z => absurd z o, fun z => absurd b z.2.1⟩
    · rw [if_neg b]
      by_cases c : 0 < r 10
      · rw [if_pos c]; exact ⟨fun z => absurd z o, fun z => absurd c z.2.2.1⟩
      · rw [if_neg c]
        by_cases d : 0 < r 11
        · rw [if_pos d]; exact ⟨fun z => absurd z o, fun z => absurd d z.2.2.2⟩
        · rw [if_neg d]; exact ⟨fun _ => ⟨a, b, c, d⟩, fun _ => rfl⟩
theorem RG_nn {n : Nat} {m : Nat → Int32} (h : RG n m) {j : Nat} (hj : j < 4) : 0 ≤ (m (8 + j)).toInt ∧ (m (8 + j)).toInt ≤ 6 := by
  have q := h (8 + j) (by omega) (by omega) (by omega)
  have e : hiR n (8 + j) ≤ (6 : Nat) := hi_need (by omega) (by omega)
  exact ⟨Int.le_trans (loR_0 _) q.1, Int.le_trans q.2 e⟩
theorem cg_sum {n : Nat} {m : Nat → Int32} (h : RG n m) : ∀ {k : Nat}, k ≤ 4 → 0 ≤ (cgS k m).toInt ∧ (cgS k m).toInt ≤ 6 * (k : Int) ∧ ((cgS k m).toInt ≤ 0 ↔ ∀ j : Nat, j < k → (m (8 + j)).toInt = 0)
  | 0, _ => ⟨by show (0 : Int) ≤ 0; decide, by show (0 : Int) ≤ 6 * 0; decide, fun _ j hj => absurd hj (Nat.not_lt_zero j), fun _ => by show (0 : Int) ≤ 0; decide⟩
  | k + 1, hk => by
    obtain ⟨a, b, c⟩ := cg_sum h (k := k) (by omega)
    have q := RG_nn h (j := k) (by omega)
    have e : (cgS (k + 1) m).toInt = (cgS k m).toInt + (m (8 + k)).toInt := by
      show (cgS k m + m (8 + k)).toInt = _
      rw [Int32.toInt_add]
      exact bmodI (by omega) (by omega)
    rw [e]
    refine ⟨by omega, by omega, fun z j hj => ?_, fun z => ?_⟩
    · by_cases ej : j = k
      · subst ej; omega
      · exact c.mp (by omega) j (by omega)
    · have := c.mpr (fun j hj => z j (by omega))
      have := z k (by omega)
      omega
theorem i_np {x : Int32} (h : 0 ≤ x.toInt) : ¬ 0 < x ↔ x.toInt = 0 := by
  have z : (0 : Int32).toInt = 0 := rfl
  rw [Int32.lt_iff_toInt_lt, z]
  omega
theorem hb_cg {n : Nat} {R M : Nat → Nat → Int32} {i : Nat} (hn : n ≤ 4) (h : RO n R M i) : hbX (R i) = 0 ↔ cgS n (M i) ≤ 0 := by
  have z : (0 : Int32).toInt = 0 := rfl
  have e8 := h.1 8 (by decide) (by decide) (by decide)
  have e9 := h.1 9 (by decide) (by decide) (by decide)
  have e10 := h.1 10 (by decide) (by decide) (by decide)
  have e11 := h.1 11 (by decide) (by decide) (by decide)
  have q := h.2.2.2
  have n0 := (RG_nn q (j := 0) (by decide)).1
  have n1 := (RG_nn q (j := 1) (by decide)).1
  have n2 := (RG_nn q (j := 2) (by decide)).1
  have n3 := (RG_nn q (j := 3) (by decide)).1
  have c := (cg_sum q hn).2.2
  rw [hb_0, e8, e9, e10, e11, Int32.le_iff_toInt_le, z, c, i_np n0, i_np n1, i_np n2, i_np n3]
  refine ⟨fun ⟨a0, a1, a2, a3⟩ j hj => ?_, fun a => ?_⟩
  · rcases (show j = 0 ∨ j = 1 ∨ j = 2 ∨ j = 3 by omega) with e | e | e | e <;> subst e <;> assumption
  · have g : ∀ j : Nat, j < 4 → (M i (8 + j)).toInt = 0 := fun j hj => by
      by_cases hjn : j < n
      · exact a j hjn
      · rw [RG_z q (by omega) hj]; rfl
    exact ⟨g 0 (by decide), g 1 (by decide), g 2 (by decide), g 3 (by decide)⟩
theorem cb_eq {n : Nat} {R M : Nat → Nat → Int32} (hn : n ≤ 4) (h : ∀ i : Nat, i < n → RO n R M i) : ∀ {k : Nat}, k ≤ n → cbX k R = cgM k n M
  | 0, _ => rfl
  | k + 1, hk => by
    show (if hbX (R k) = 0 then cbX k R else cbX k R + 1) = cgM k n M + (if cgS n (M k) ≤ 0 then 0 else 1)
    rw [cb_eq hn h (by omega)]
    have q := hb_cg hn (h k (by omega))
    by_cases z : hbX (R k) = 0
    · rw [if_pos z, if_pos (q.mp z), Int32.add_zero]
    · rw [if_neg z, if_neg (fun y => z (q.mpr y))]
theorem ce_st (c : Int32) (L : List Int32) (f : Int32) : ceX (c :: L) f = ceX L (f + (if c = 0 then 0 else 1)) := by
  show ceX L (if c = 0 then f else f + 1) = _
  by_cases z : c = 0
  · rw [if_pos z, if_pos z, Int32.add_zero]
  · rw [if_neg z, if_neg z]
theorem ce2_1 (z0 : Int32) : ceX [z0] 0 = c3M_1 (fun q => [z0].getD q 0) := by
  rw [ce_st]
  show (0 + (if z0 = 0 then 0 else 1)) = ((((((((((((((((0 + (if z0 = 0 then 0 else 1)) + 0) + 0) + 0) + 0) + 0) + 0) + 0) + 0) + 0) + 0) + 0) + 0) + 0) + 0) + 0)
  simp only [Int32.add_zero]
theorem ce2_2 (z0 z1 z2 z3 : Int32) : ceX [z0, z1, z2, z3] 0 = c3M_2 (fun q => [z0, z1, z2, z3].getD q 0) := by
  rw [ce_st, ce_st, ce_st, ce_st]
  show ((((0 + (if z0 = 0 then 0 else 1)) + (if z1 = 0 then 0 else 1)) + (if z2 = 0 then 0 else 1)) + (if z3 = 0 then 0 else 1)) = ((((((((((((((((0 + (if z0 = 0 then 0 else 1)) + (if z1 = 0 then 0 else 1)) + 0) + 0) + (if z2 = 0 then 0 else 1)) + (if z3 = 0 then 0 else 1)) + 0) + 0) + 0) + 0) + 0) + 0) + 0) + 0) + 0) + 0)
  simp only [Int32.add_zero]
theorem ce2_3 (z0 z1 z2 z3 z4 z5 z6 z7 z8 : Int32) : ceX [z0, z1, z2, z3, z4, z5, z6, z7, z8] 0 = c3M_3 (fun q => [z0, z1, z2, z3, z4, z5, z6, z7, z8].getD q 0) := by
  rw [ce_st, ce_st, ce_st, ce_st, ce_st, ce_st, ce_st, ce_st, ce_st]
  show (((((((((0 + (if z0 = 0 then 0 else 1)) + (if z1 = 0 then 0 else 1)) + (if z2 = 0 then 0 else 1)) + (if z3 = 0 then 0 else 1)) + (if z4 = 0 then 0 else 1)) + (if z5 = 0 then 0 else 1)) + (if z6 = 0 then 0 else 1)) + (if z7 = 0 then 0 else 1)) + (if z8 = 0 then 0 else 1)) = ((((((((((((((((0 + (if z0 = 0 then 0 else 1)) + (if z1 = 0 then 0 else 1)) + (if z2 = 0 then 0 else 1)) + 0) + (if z3 = 0 then 0 else 1)) + (if z4 = 0 then 0 else 1)) + (if z5 = 0 then 0 else 1)) + 0) + (if z6 = 0 then 0 else 1)) + (if z7 = 0 then 0 else 1)) + (if z8 = 0 then 0 else 1)) + 0) + 0) + 0) + 0) + 0)
  simp only [Int32.add_zero]
theorem ce2_4 (z0 z1 z2 z3 z4 z5 z6 z7 z8 z9 z10 z11 z12 z13 z14 z15 : Int32) : ceX [z0, z1, z2, z3, z4, z5, z6, z7, z8, z9, z10, z11, z12, z13, z14, z15] 0 = c3M_4 (fun q => [z0, z1, z2, z3, z4, z5, z6, z7, z8, z9, z10, z11, z12, z13, z14, z15].getD q 0) := by
  rw [ce_st, ce_st, ce_st, ce_st, ce_st, ce_st, ce_st, ce_st, ce_st, ce_st, ce_st, ce_st, ce_st, ce_st, ce_st, ce_st]
  show ((((((((((((((((0 + (if z0 = 0 then 0 else 1)) + (if z1 = 0 then 0 else 1)) + (if z2 = 0 then 0 else 1)) + (if z3 = 0 then 0 else 1)) + (if z4 = 0 then 0 else 1)) + (if z5 = 0 then 0 else 1)) + (if z6 = 0 then 0 else 1)) + (if z7 = 0 then 0 else 1)) + (if z8 = 0 then 0 else 1)) + (if z9 = 0 then 0 else 1)) + (if z10 = 0 then 0 else 1)) + (if z11 = 0 then 0 else 1)) + (if z12 = 0 then 0 else 1)) + (if z13 = 0 then 0 else 1)) + (if z14 = 0 then 0 else 1)) + (if z15 = 0 then 0 else 1)) = ((((((((((((((((0 + (if z0 = 0 then 0 else 1)) + (if z1 = 0 then 0 else 1)) + (if z2 = 0 then 0 else 1)) + (if z3 = 0 then 0 else 1)) + (if z4 = 0 then 0 else 1)) + (if z5 = 0 then 0 else 1)) + (if z6 = 0 then 0 else 1)) + (if z7 = 0 then 0 else 1)) + (if z8 = 0 then 0 else 1)) + (if z9 = 0 then 0 else 1)) + (if z10 = 0 then 0 else 1)) + (if z11 = 0 then 0 else 1)) + (if z12 = 0 then 0 else 1)) + (if z13 = 0 then 0 else 1)) + (if z14 = 0 then 0 else 1)) + (if z15 = 0 then 0 else 1))
  rfl
theorem dg_congr {n : Nat} {f g : Nat → Nat → Int32} {kb : Nat → Nat → Int32} {vv : Int32} {a b : Int64} (h : ∀ i : Nat, i < n → ∀ q : Nat, q < 23 → f i q = g i q) (e : a = b) : dgL n f kb vv a = dgL n g kb vv b := by
  subst e
  have e1 : (List.range n).flatMap (fun i => (List.range 23).map (fun q => (f i q).toInt64)) = (List.range n).flatMap (fun i => (List.range 23).map (fun q => (g i q).toInt64)) := by
    rw [List.flatMap_def, List.flatMap_def]
    exact congrArg List.flatten (List.map_congr_left (fun i hi => List.map_congr_left (fun q hq => congrArg Int32.toInt64 (h i (List.mem_range.mp hi) q (List.mem_range.mp hq)))))
  unfold dgL
  rw [e1]
theorem ta_at {n : Nat} (c : Nat → Nat → Int64) {j i : Nat} (hj : j < n) (hi : i < n) (hn : n ≤ 4) : taM n c (4 * j + i) = c j i := by
  have e1 : (4 * j + i) / 4 = j := by omega
  have e2 : (4 * j + i) % 4 = i := by omega
  unfold taM
  rw [e1, e2, if_pos hj, if_pos hi]
theorem neg64 {x : Int32} (h : bi x 1080) : (-x).toInt64 = -x.toInt64 := by
  have r := bi_rng h
  refine Int64.toInt_inj.mp ?_
  rw [Int32.toInt_toInt64, Int32.toInt_neg, bmodI (by omega) (by omega), negL (bi_bd h) (by decide), Int32.toInt_toInt64]
section
variable {l : Launch} {D : va_G} {ca : Nat → ClassId} {ad ae : Nat → Nat}

theorem s_count (a : Int32) {X M : mW} (hI : IX X M) : STi (KX2_count l D ca ad) (KX3_count l D ca ae) [.int a] X M := by
  obtain ⟨n, vs, be, de, sz, ro, co, mi, T, B, bk, df, wo, un, h, bo, ta, tr, r2, ot, Bm, rfl, rfl, hI⟩ := hI
  have hn := hI.1
  have hvs := hI.2.1
  by_cases q_a : 0 ≤ a ∧ a < 4
  rotate_left
  · exact st_i (ix_mk hI) (x_count_O q_a) (m_count_O q_a) rfl
  obtain ⟨q, hq, rfl⟩ := arg_lt (n := 4) (by omega) q_a
  have hB := hI.2.2.1
  rcases (show q = 0 ∨ q = 1 ∨ q = 2 ∨ q = 3 by omega) with e | e | e | e
  · subst e; exact st_i (ix_mk hI) x_count_0 m_count_0 rfl
  · subst e; exact st_i (ix_mk hI) x_count_1 m_count_1 rfl
  · subst e
    rcases (show n = 0 ∨ n = 1 ∨ n = 2 ∨ n = 3 ∨ n = 4 by omega) with e | e | e | e | e
    · subst e; exact st_i (ix_mk hI) x_count2_0 m_count2_0 (cb_eq (by decide) hB.1 (Nat.le_refl 0))
    · subst e; exact st_i (ix_mk hI) x_count2_1 m_count2_1 (cb_eq (by decide) hB.1 (Nat.le_refl 1))
    · subst e; exact st_i (ix_mk hI) x_count2_2 m_count2_2 (cb_eq (by decide) hB.1 (Nat.le_refl 2))
    · subst e; exact st_i (ix_mk hI) x_count2_3 m_count2_3 (cb_eq (by decide) hB.1 (Nat.le_refl 3))
    · subst e; exact st_i (ix_mk hI) x_count2_4 m_count2_4 (cb_eq (by decide) hB.1 (Nat.le_refl 4))
  · subst e
    rcases (show n = 0 ∨ n = 1 ∨ n = 2 ∨ n = 3 ∨ n = 4 by omega) with e | e | e | e | e
    · subst e; exact st_i (ix_mk hI) x_count3_0 (m_c3_0 (c := fun q => [].getD q 0) (fun _ => rfl)) rfl
    · subst e; exact st_i (ix_mk hI) x_count3_1 (m_c3_1 (c := fun q => [ceM 1 (Bm 6) 0 0].getD q 0) (fun _ => rfl)) (by rw [RO_cell (hB.1 0 (by decide)) (j := 0) (by decide)]; exact ce2_1 _)
    · subst e; exact st_i (ix_mk hI) x_count3_2 (m_c3_2 (c := fun q => [ceM 2 (Bm 6) 0 0, ceM 2 (Bm 6) 1 0, ceM 2 (Bm 6) 0 1, ceM 2 (Bm 6) 1 1].getD q 0) (fun _ => rfl)) (by rw [RO_cell (hB.1 0 (by decide)) (j := 0) (by decide), RO_cell (hB.1 1 (by decide)) (j := 0) (by decide), RO_cell (hB.1 0 (by decide)) (j := 1) (by decide), RO_cell (hB.1 1 (by decide)) (j := 1) (by decide)]; exact ce2_2 _ _ _ _)
    · subst e; exact st_i (ix_mk hI) x_count3_3 (m_c3_3 (c := fun q => [ceM 3 (Bm 6) 0 0, ceM 3 (Bm 6) 1 0, ceM 3 (Bm 6) 2 0, ceM 3 (Bm 6) 0 1, ceM 3 (Bm 6) 1 1, ceM 3 (Bm 6) 2 1, ceM 3 (Bm 6) 0 2, ceM 3 (Bm 6) 1 2, ceM 3 (Bm 6) 2 2].getD q 0) (fun _ => rfl)) (by rw [RO_cell (hB.1 0 (by decide)) (j := 0) (by decide), RO_cell (hB.1 1 (by decide)) (j := 0) (by decide), RO_cell (hB.1 2 (by decide)) (j := 0) (by decide), RO_cell (hB.1 0 (by decide)) (j := 1) (by decide), RO_cell (hB.1 1 (by decide)) (j := 1) (by decide), RO_cell (hB.1 2 (by decide)) (j := 1) (by decide), RO_cell (hB.1 0 (by decide)) (j := 2) (by decide), RO_cell (hB.1 1 (by decide)) (j := 2) (by decide), RO_cell (hB.1 2 (by decide)) (j := 2) (by decide)]; exact ce2_3 _ _ _ _ _ _ _ _ _)
    · subst e; exact st_i (ix_mk hI) x_count3_4 (m_c3_4 (c := fun q => [ceM 4 (Bm 6) 0 0, ceM 4 (Bm 6) 1 0, ceM 4 (Bm 6) 2 0, ceM 4 (Bm 6) 3 0, ceM 4 (Bm 6) 0 1, ceM 4 (Bm 6) 1 1, ceM 4 (Bm 6) 2 1, ceM 4 (Bm 6) 3 1, ceM 4 (Bm 6) 0 2, ceM 4 (Bm 6) 1 2, ceM 4 (Bm 6) 2 2, ceM 4 (Bm 6) 3 2, ceM 4 (Bm 6) 0 3, ceM 4 (Bm 6) 1 3, ceM 4 (Bm 6) 2 3, ceM 4 (Bm 6) 3 3].getD q 0) (fun _ => rfl)) (by rw [RO_cell (hB.1 0 (by decide)) (j := 0) (by decide), RO_cell (hB.1 1 (by decide)) (j := 0) (by decide), RO_cell (hB.1 2 (by decide)) (j := 0) (by decide), RO_cell (hB.1 3 (by decide)) (j := 0) (by decide), RO_cell (hB.1 0 (by decide)) (j := 1) (by decide), RO_cell (hB.1 1 (by decide)) (j := 1) (by decide), RO_cell (hB.1 2 (by decide)) (j := 1) (by decide), RO_cell (hB.1 3 (by decide)) (j := 1) (by decide), RO_cell (hB.1 0 (by decide)) (j := 2) (by decide), RO_cell (hB.1 1 (by decide)) (j := 2) (by decide), RO_cell (hB.1 2 (by decide)) (j := 2) (by decide), RO_cell (hB.1 3 (by decide)) (j := 2) (by decide), RO_cell (hB.1 0 (by decide)) (j := 3) (by decide), RO_cell (hB.1 1 (by decide)) (j := 3) (by decide), RO_cell (hB.1 2 (by decide)) (j := 3) (by decide), RO_cell (hB.1 3 (by decide)) (j := 3) (by decide)]; exact ce2_4 _ _ _ _ _ _ _ _ _ _ _ _ _ _ _ _)
theorem s_digest {X M : mW} (hI : IX X M) : STl (KX2_digest l D ca ad) (KX3_digest l D ca ae) [] X M := by
  obtain ⟨n, vs, be, de, sz, ro, co, mi, T, B, bk, df, wo, un, h, bo, ta, tr, r2, ot, Bm, rfl, rfl, hI⟩ := hI
  have hn := hI.1
  have hvs := hI.2.1
  obtain ⟨be2, de2, sz2, ro2, co2, mi2, T2, cx⟩ := x_digest (l := l) (D := D) (ca := ca) (ad := ad) (n := n) (vs := vs) (be := be) (de := de) (sz := sz) (ro := ro) (co := co) (mi := mi) (T := T) (B := B) (hd := bk) (df := df) hn
  have cm := m_digest (l := l) (D := D) (ca := ca) (ad := ae) (n := n) (vs := vs) (wo := wo) (un := un) (h := h) (bo := bo) (ta := ta) (tr := tr) (ro := r2) (ot := ot) (Bm := Bm) (bk := bk) hn
  exact st_l (ix_mk hI) cx cm (congrArg (dgS 151) (dg_congr (fun i hi q hq => RO_td (hI.2.2.1.1 i hi) hq) (de_eq hn (MX_now hn hI.2.2.1) T)))
theorem s_way (a0 c0 a1 p1 c1 : Int32) {X M : mW} (hI : IX X M) : STl (KX2_way l D ca ad) (KX3_way l D ca ae) [.int a0, .int c0, .int a1, .int p1, .int c1] X M := by
  obtain ⟨n, vs, be, de, sz, ro, co, mi, T, B, bk, df, wo, un, h, bo, ta, tr, r2, ot, Bm, rfl, rfl, hI⟩ := hI
  have hn := hI.1
  have hvs := hI.2.1
  by_cases q_a0 : 0 ≤ a0 ∧ a0 < 4
  rotate_left
  · exact st_l (ix_mk hI) (x_way_U1 q_a0) (m_way_U1 q_a0) rfl
  obtain ⟨b, hb, rfl⟩ := arg_lt (n := 4) (by omega) q_a0
  by_cases q_c0 : 0 ≤ c0 ∧ c0 < 3
  rotate_left
  · exact st_l (ix_mk hI) (x_way_U2 hb q_c0) (m_way_U2 hb q_c0) rfl
  obtain ⟨k, hk, rfl⟩ := arg_lt (n := 3) (by omega) q_c0
  by_cases q_a1 : 0 ≤ a1 ∧ a1 < Int32.ofNat n
  rotate_left
  · exact st_l (ix_mk hI) (x_way_U3 hb hk q_a1) (m_way_U3 hb hk hn q_a1) rfl
  obtain ⟨a, ha, rfl⟩ := arg_lt (by omega) q_a1
  have hm := MX_now hn hI.2.2.1
  have tn := tn_eq hn hm
  have tt : ∀ j i : Nat, j < n → i < n → TnM n Bm 4 0 (4 * j + i) = (cellX (B 6 i) i j).toInt64 := fun j i hj hi => by rw [tn]; exact ta_at _ hj hi hn
  have t5 : ∀ j : Nat, j < n → TnM n Bm 4 0 (5 * j) = (cellX (B 6 j) j j).toInt64 := fun j hj => by rw [show 5 * j = 4 * j + j by omega]; exact tt j j hj hj
  have cb := cc_bd hn hm
  have cn : ∀ j i : Nat, j < n → i < n → (-(cellX (B 6 i) i j)).toInt64 = -(cellX (B 6 i) i j).toInt64 := fun j i hj hi => neg64 (by rw [RO_cell (hm i hi).1 (by omega)]; exact ce_bi hn (hm i hi).1.2.2.2 (hm i hi).2 (by omega))
  have hbd : bd ((bk b a).toInt64) 20 := bi_bd (RI_bi hI hb a (by omega))
  have eb : ∀ i : Nat, i < n → bd (emM (Bm (bkM 4 0 i) i) k 1) 3000 := fun i hi => em_bd (hm i hi).1.2.2.2 hk (by decide)
  have ee : ∀ i : Nat, i < n → emX (B 6 i) k 1 = emM (Bm (bkM 4 0 i) i) k 1 := fun i hi => em_eq (hm i hi).1 hk (by decide)
  by_cases p0 : p1 = -1
  · subst p0
    by_cases c0 : c1 = -1
    · subst c0
      have ed : ((((cellX (B 6 a) a a).toInt64) * 1) * 1) = (TnM n Bm 4 0 (5 * a)) := by rw [t5 a ha, Int64.mul_one, Int64.mul_one]
      by_cases h0 : (TnM n Bm 4 0 (5 * a)) = 0
      · obtain ⟨wo3, bo3, ta3, tr3, cm⟩ := m_way_Ba (l := l) (D := D) (ca := ca) (ad := ae) (n := n) (vs := vs) (wo := wo) (un := un) (h := h) (bo := bo) (ta := ta) (tr := tr) (ro := r2) (ot := ot) (Bm := Bm) (bk := bk) hb hk ha hn h0
        exact st_l (ix_mk hI) (x_way_Ba (l := l) (D := D) (ca := ca) (ad := ad) (n := n) (vs := vs) (be := be) (de := de) (sz := sz) (ro := ro) (co := co) (mi := mi) (T := T) (B := B) (hd := bk) (df := df) hb hk ha hn (by rw [ed]; exact h0)) cm rfl
      · obtain ⟨wo3, bo3, ta3, tr3, cm⟩ := m_way_a (l := l) (D := D) (ca := ca) (ad := ae) (n := n) (vs := vs) (wo := wo) (un := un) (h := h) (bo := bo) (ta := ta) (tr := tr) (ro := r2) (ot := ot) (Bm := Bm) (bk := bk) hb hk ha hn h0
        refine st_l (ix_mk hI) (x_way_a (l := l) (D := D) (ca := ca) (ad := ad) (n := n) (vs := vs) (be := be) (de := de) (sz := sz) (ro := ro) (co := co) (mi := mi) (T := T) (B := B) (hd := bk) (df := df) hb hk ha hn (by rw [ed]; exact h0)) cm ?_
        rw [ed, ee a ha, Int64.mul_one, Int64.mul_one]
        exact wy_eq (A := 8999999999999999) (bd_le (bd_mul hbd (eb a ha) (by decide)) (by decide)) (by decide) h0 (bd_le ((by rw [t5 a ha]; exact cb a a ha ha)) (by decide))
    · by_cases q_c : 0 ≤ c1 ∧ c1 < Int32.ofNat n
      · obtain ⟨c, hc, rfl⟩ := arg_lt (by omega) q_c
        exact st_l (ix_mk hI) (x_way_O1 hb hk ha hn hc) (m_way_O1 hb hk ha hn hc) rfl
      · exact st_l (ix_mk hI) (x_way_U5n hb hk ha hn c0 q_c) (m_way_U5n hb hk ha hn c0 q_c) rfl
  · by_cases q_p : 0 ≤ p1 ∧ p1 < Int32.ofNat n
    rotate_left
    · exact st_l (ix_mk hI) (x_way_U4 hb hk ha hn p0 q_p) (m_way_U4 hb hk ha hn p0 q_p) rfl
    obtain ⟨p, hp, rfl⟩ := arg_lt (by omega) q_p
    by_cases c0 : c1 = -1
    · subst c0
      by_cases eap : a = p
      · subst eap; exact st_l (ix_mk hI) (x_way_O2n hb hk ha hn) (m_way_O2n hb hk ha hn) rfl
      · skip
        have ed : ((((cellX (B 6 a) a a).toInt64) * ((cellX (B 6 p) p p).toInt64)) * 1) = ((TnM n Bm 4 0 (5 * a)) * (TnM n Bm 4 0 (5 * p))) := by rw [t5 a ha, t5 p hp, Int64.mul_one]
        by_cases h0 : ((TnM n Bm 4 0 (5 * a)) * (TnM n Bm 4 0 (5 * p))) = 0
        · obtain ⟨wo3, bo3, ta3, tr3, cm⟩ := m_way_Bb (l := l) (D := D) (ca := ca) (ad := ae) (n := n) (vs := vs) (wo := wo) (un := un) (h := h) (bo := bo) (ta := ta) (tr := tr) (ro := r2) (ot := ot) (Bm := Bm) (bk := bk) hb hk ha hn hp eap h0
          exact st_l (ix_mk hI) (x_way_Bb (l := l) (D := D) (ca := ca) (ad := ad) (n := n) (vs := vs) (be := be) (de := de) (sz := sz) (ro := ro) (co := co) (mi := mi) (T := T) (B := B) (hd := bk) (df := df) hb hk ha hn hp eap (by rw [ed]; exact h0)) cm rfl
        · obtain ⟨wo3, bo3, ta3, tr3, cm⟩ := m_way_b (l := l) (D := D) (ca := ca) (ad := ae) (n := n) (vs := vs) (wo := wo) (un := un) (h := h) (bo := bo) (ta := ta) (tr := tr) (ro := r2) (ot := ot) (Bm := Bm) (bk := bk) hb hk ha hn hp eap h0
          refine st_l (ix_mk hI) (x_way_b (l := l) (D := D) (ca := ca) (ad := ad) (n := n) (vs := vs) (be := be) (de := de) (sz := sz) (ro := ro) (co := co) (mi := mi) (T := T) (B := B) (hd := bk) (df := df) hb hk ha hn hp eap (by rw [ed]; exact h0)) cm ?_
          rw [ed, tt p a hp ha, cn p a hp ha, ee p hp, Int64.mul_one]
          exact wy_eq (A := 8999999999999999) (bd_le (bd_mul (bd_mul hbd (bd_neg (cb p a hp ha) (by decide)) (by decide)) (eb p hp) (by decide)) (by decide)) (by decide) h0 (bd_le (bd_mul (by rw [t5 a ha]; exact cb a a ha ha) (by rw [t5 p hp]; exact cb p p hp hp) (by decide)) (by decide))
    · by_cases q_c : 0 ≤ c1 ∧ c1 < Int32.ofNat n
      rotate_left
      · exact st_l (ix_mk hI) (x_way_U5 hb hk ha hn hp c0 q_c) (m_way_U5 hb hk ha hn hp c0 q_c) rfl
      obtain ⟨c, hc, rfl⟩ := arg_lt (by omega) q_c
      by_cases eap : a = p
      · subst eap; exact st_l (ix_mk hI) (x_way_O2 hb hk ha hn hc) (m_way_O2 hb hk ha hn hc) rfl
      · by_cases epc : p = c
        · subst epc; exact st_l (ix_mk hI) (x_way_O3 hb hk ha hn hp eap) (m_way_O3 hb hk ha hn hp eap) rfl
        · skip
          have ed : ((((cellX (B 6 a) a a).toInt64) * ((cellX (B 6 p) p p).toInt64)) * ((cellX (B 6 c) c c).toInt64)) = (((TnM n Bm 4 0 (5 * a)) * (TnM n Bm 4 0 (5 * p))) * (TnM n Bm 4 0 (5 * c))) := by rw [t5 a ha, t5 p hp, t5 c hc]
          by_cases h0 : (((TnM n Bm 4 0 (5 * a)) * (TnM n Bm 4 0 (5 * p))) * (TnM n Bm 4 0 (5 * c))) = 0
          · obtain ⟨wo3, bo3, ta3, tr3, cm⟩ := m_way_Bc (l := l) (D := D) (ca := ca) (ad := ae) (n := n) (vs := vs) (wo := wo) (un := un) (h := h) (bo := bo) (ta := ta) (tr := tr) (ro := r2) (ot := ot) (Bm := Bm) (bk := bk) hb hk ha hn hp eap hc epc h0
            exact st_l (ix_mk hI) (x_way_Bc (l := l) (D := D) (ca := ca) (ad := ad) (n := n) (vs := vs) (be := be) (de := de) (sz := sz) (ro := ro) (co := co) (mi := mi) (T := T) (B := B) (hd := bk) (df := df) hb hk ha hn hp eap hc epc (by rw [ed]; exact h0)) cm rfl
          · obtain ⟨wo3, bo3, ta3, tr3, cm⟩ := m_way_c (l := l) (D := D) (ca := ca) (ad := ae) (n := n) (vs := vs) (wo := wo) (un := un) (h := h) (bo := bo) (ta := ta) (tr := tr) (ro := r2) (ot := ot) (Bm := Bm) (bk := bk) hb hk ha hn hp eap hc epc h0
            refine st_l (ix_mk hI) (x_way_c (l := l) (D := D) (ca := ca) (ad := ad) (n := n) (vs := vs) (be := be) (de := de) (sz := sz) (ro := ro) (co := co) (mi := mi) (T := T) (B := B) (hd := bk) (df := df) hb hk ha hn hp eap hc epc (by rw [ed]; exact h0)) cm ?_
            rw [ed, tt p a hp ha, tt c p hc hp, cn p a hp ha, cn c p hc hp, ee c hc]
            exact wy_eq (A := 8999999999999999) (bd_le (bd_mul (bd_mul (bd_mul hbd (bd_neg (cb p a hp ha) (by decide)) (by decide)) (bd_neg (cb c p hc hp) (by decide)) (by decide)) (eb c hc) (by decide)) (by decide)) (by decide) h0 (bd_le (bd_mul (bd_mul (by rw [t5 a ha]; exact cb a a ha ha) (by rw [t5 p hp]; exact cb p p hp hp) (by decide)) (by rw [t5 c hc]; exact cb c c hc hc) (by decide)) (by decide))
end
