section
variable {l : Launch} {D : va_G} {ca : Nat → ClassId} {ad : Nat → Nat}

set_option maxRecDepth 20000 in
theorem x_blame_A_0_0 {n vs : Nat} {be de : Int64} {sz : Int32} {ro co mi : Nat → Int64} {T : Nat → Nat → Int64} {B : Nat → Nat → Nat → Int32} {hd : Nat → Nat → Int32} {df : Nat → Int32} (hv : 0 < vs) (hvs : vs ≤ 6) (hi : 0 < n) (hn : n ≤ 4) {b : Nat} (hb : b < 4) {k : Nat} (hk : k < 3) (h1 : detX n (lyT n ((cpX (cpX B 7 6 0 1) 7 0 1 4) 7) T) = 0) : ∃ (be4 de4 : Int64) (sz4 : Int32) (ro4 co4 mi4 : Nat → Int64) (T4 : Nat → Nat → Int64), KX2_blame l D ca ad [.ref 0, .int 0, .int (Int32.ofNat b), .int (Int32.ofNat k), .int 0] (XW (Int32.ofNat n) (Int32.ofNat vs) be de sz ro co mi T B hd df) (some (.long (-9000000000000000004))) (XW (Int32.ofNat n) (Int32.ofNat vs) be4 de4 sz4 ro4 co4 mi4 T4 (cpX (cpX (cpX (cpX B 7 6 0 1) 7 0 1 4) 7 6 0 0) 7 0 0 4) hd df) := by
  obtain ⟨B1, eB⟩ : ∃ z, z = (cpX (cpX B 7 6 0 1) 7 0 1 4) := ⟨_, rfl⟩
  obtain ⟨B3, eB3⟩ : ∃ z, z = (cpX (cpX B1 7 6 0 0) 7 0 0 4) := ⟨_, rfl⟩
  rw [← eB, ← eB3]
  obtain ⟨be1, de1, sz1, ro1, co1, mi1, T1, hk1⟩ := x_mixed_B_0_1 (l := l) (D := D) (ca := ca) (ad := ad) (vs := vs) (be := be) (de := de) (sz := sz) (ro := ro) (co := co) (mi := mi) (df := df) hn hb hk h1
  rw [← eB] at hk1
  by_cases h2 : detX n (lyT n ((cpX (cpX B1 7 6 0 0) 7 0 0 4) 7) T1) = 0
  · obtain ⟨be3, de3, sz3, ro3, co3, mi3, T3, hk3⟩ := x_mixed_B_0_0 (l := l) (D := D) (ca := ca) (ad := ad) (vs := vs) (be := be1) (de := de1) (sz := sz1) (ro := ro1) (co := co1) (mi := mi1) (T := T1) (B := B1) (df := df) hn hb hk h2
    rw [← eB3] at hk3
    refine ⟨be3, de3, sz3, ro3, co3, mi3, T3, ?_⟩
    refine PX2_blame (Nat.le_of_ble_eq_true rfl) ?_
    intro G hT hC hR
    refine mB hT 2 rfl ?_
    refine hC.1 _ 0 [_] _ _ _ _ _ (c_isVersion_t (i := 0) hv hvs) rfl rfl (Nat.le_of_ble_eq_true rfl) rfl ?_
    refine mB hT 2 rfl ?_
    refine hC.2.1 _ [_] _ _ _ _ (c_isBasket_t hb) rfl (Nat.le_of_ble_eq_true rfl) rfl ?_
    refine mB hT 2 rfl ?_
    refine hC.2.2.1 _ [_] _ _ _ _ (c_isStuff_t hk) rfl (Nat.le_of_ble_eq_true rfl) rfl ?_
    refine mB hT 3 rfl ?_
    refine hC.2.2.2.1 _ 0 [_] _ _ _ _ _ (c_isMaking_t (i := 0) hi hn) rfl rfl (Nat.le_of_ble_eq_true rfl) rfl ?_
    refine mB hT 8 rfl ?_
    refine hC.2.2.2.2.1 _ 0 [_, _, _, _] _ _ _ _ _ (hk1) rfl rfl (Nat.le_of_ble_eq_true rfl) rfl ?_
    refine mB hT 6 rfl ?_
    refine hC.2.2.2.2.2 _ 0 [_, _, _, _] _ _ _ _ _ (hk3) rfl rfl (Nat.le_of_ble_eq_true rfl) rfl ?_
    refine mB hT 6 rfl ?_
    exact hR _ (by decide) _ _ _ rfl rfl
  · obtain ⟨be3, de3, sz3, ro3, co3, mi3, T3, hk3⟩ := x_mixed_0_0 (l := l) (D := D) (ca := ca) (ad := ad) (vs := vs) (be := be1) (de := de1) (sz := sz1) (ro := ro1) (co := co1) (mi := mi1) (T := T1) (B := B1) (df := df) hn hb hk h2
    rw [← eB3] at hk3
    generalize thX _ _ = a2 at hk3
    refine ⟨be3, de3, sz3, ro3, co3, mi3, T3, ?_⟩
    refine PX2_blame (Nat.le_of_ble_eq_true rfl) ?_
    intro G hT hC hR
    refine mB hT 2 rfl ?_
    refine hC.1 _ 0 [_] _ _ _ _ _ (c_isVersion_t (i := 0) hv hvs) rfl rfl (Nat.le_of_ble_eq_true rfl) rfl ?_
    refine mB hT 2 rfl ?_
    refine hC.2.1 _ [_] _ _ _ _ (c_isBasket_t hb) rfl (Nat.le_of_ble_eq_true rfl) rfl ?_
    refine mB hT 2 rfl ?_
    refine hC.2.2.1 _ [_] _ _ _ _ (c_isStuff_t hk) rfl (Nat.le_of_ble_eq_true rfl) rfl ?_
    refine mB hT 3 rfl ?_
    refine hC.2.2.2.1 _ 0 [_] _ _ _ _ _ (c_isMaking_t (i := 0) hi hn) rfl rfl (Nat.le_of_ble_eq_true rfl) rfl ?_
    refine mB hT 8 rfl ?_
    refine hC.2.2.2.2.1 _ 0 [_, _, _, _] _ _ _ _ _ (hk1) rfl rfl (Nat.le_of_ble_eq_true rfl) rfl ?_
    refine mB hT 6 rfl ?_
    refine hC.2.2.2.2.2 _ 0 [_, _, _, _] _ _ _ _ _ (hk3) rfl rfl (Nat.le_of_ble_eq_true rfl) rfl ?_
    refine mB hT 6 rfl ?_
    exact hR _ (by decide) _ _ _ rfl rfl
set_option maxRecDepth 20000 in
theorem x_blame_B_0_0 {n vs : Nat} {be de : Int64} {sz : Int32} {ro co mi : Nat → Int64} {T : Nat → Nat → Int64} {B : Nat → Nat → Nat → Int32} {hd : Nat → Nat → Int32} {df : Nat → Int32} (hv : 0 < vs) (hvs : vs ≤ 6) (hi : 0 < n) (hn : n ≤ 4) {b : Nat} (hb : b < 4) {k : Nat} (hk : k < 3) (h1 : ¬ detX n (lyT n ((cpX (cpX B 7 6 0 1) 7 0 1 4) 7) T) = 0) (h2a : ∀ T2 : Nat → Nat → Int64, detX n (lyT n ((cpX (cpX (cpX (cpX B 7 6 0 1) 7 0 1 4) 7 6 0 0) 7 0 0 4) 7) T2) = 0) : ∃ (be4 de4 : Int64) (sz4 : Int32) (ro4 co4 mi4 : Nat → Int64) (T4 : Nat → Nat → Int64), KX2_blame l D ca ad [.ref 0, .int 0, .int (Int32.ofNat b), .int (Int32.ofNat k), .int 0] (XW (Int32.ofNat n) (Int32.ofNat vs) be de sz ro co mi T B hd df) (some (.long (-9000000000000000004))) (XW (Int32.ofNat n) (Int32.ofNat vs) be4 de4 sz4 ro4 co4 mi4 T4 (cpX (cpX (cpX (cpX B 7 6 0 1) 7 0 1 4) 7 6 0 0) 7 0 0 4) hd df) := by
  obtain ⟨B1, eB⟩ : ∃ z, z = (cpX (cpX B 7 6 0 1) 7 0 1 4) := ⟨_, rfl⟩
  obtain ⟨B3, eB3⟩ : ∃ z, z = (cpX (cpX B1 7 6 0 0) 7 0 0 4) := ⟨_, rfl⟩
  rw [← eB] at h2a
  rw [← eB, ← eB3]
  obtain ⟨be1, de1, sz1, ro1, co1, mi1, T1, hk1⟩ := x_mixed_0_1 (l := l) (D := D) (ca := ca) (ad := ad) (vs := vs) (be := be) (de := de) (sz := sz) (ro := ro) (co := co) (mi := mi) (df := df) hn hb hk h1
  rw [← eB] at hk1
  generalize thX _ _ = a1 at hk1
  have h2 := h2a T1
  obtain ⟨be3, de3, sz3, ro3, co3, mi3, T3, hk3⟩ := x_mixed_B_0_0 (l := l) (D := D) (ca := ca) (ad := ad) (vs := vs) (be := be1) (de := de1) (sz := sz1) (ro := ro1) (co := co1) (mi := mi1) (T := T1) (B := B1) (df := df) hn hb hk h2
  rw [← eB3] at hk3
  refine ⟨be3, de3, sz3, ro3, co3, mi3, T3, ?_⟩
  refine PX2_blame (Nat.le_of_ble_eq_true rfl) ?_
  intro G hT hC hR
  refine mB hT 2 rfl ?_
  refine hC.1 _ 0 [_] _ _ _ _ _ (c_isVersion_t (i := 0) hv hvs) rfl rfl (Nat.le_of_ble_eq_true rfl) rfl ?_
  refine mB hT 2 rfl ?_
  refine hC.2.1 _ [_] _ _ _ _ (c_isBasket_t hb) rfl (Nat.le_of_ble_eq_true rfl) rfl ?_
  refine mB hT 2 rfl ?_
  refine hC.2.2.1 _ [_] _ _ _ _ (c_isStuff_t hk) rfl (Nat.le_of_ble_eq_true rfl) rfl ?_
  refine mB hT 3 rfl ?_
  refine hC.2.2.2.1 _ 0 [_] _ _ _ _ _ (c_isMaking_t (i := 0) hi hn) rfl rfl (Nat.le_of_ble_eq_true rfl) rfl ?_
  refine mB hT 8 rfl ?_
  refine hC.2.2.2.2.1 _ 0 [_, _, _, _] _ _ _ _ _ (hk1) rfl rfl (Nat.le_of_ble_eq_true rfl) rfl ?_
  refine mB hT 6 rfl ?_
  refine hC.2.2.2.2.2 _ 0 [_, _, _, _] _ _ _ _ _ (hk3) rfl rfl (Nat.le_of_ble_eq_true rfl) rfl ?_
  refine mB hT 5 rfl ?_
  refine mIf (fun h1 => ?_) (fun h1 => ?_)
  · refine mNf (lv2 := [(7, .long (-9000000000000000004)), (5, .long a1), (0, .ref 0), (1, .int 0), (2, .int (Int32.ofNat b)), (3, .int (Int32.ofNat k)), (4, .int 0)]) (st2 := []) rfl rfl ?_
    refine mB hT 1 rfl ?_
    exact hR _ (by decide) _ _ _ rfl rfl
  · refine mNf (lv2 := [(7, .long (-9000000000000000004)), (5, .long a1), (0, .ref 0), (1, .int 0), (2, .int (Int32.ofNat b)), (3, .int (Int32.ofNat k)), (4, .int 0)]) (st2 := []) rfl rfl ?_
    refine mB hT 5 rfl ?_
    exact hR _ (by decide) _ _ _ rfl rfl
set_option maxRecDepth 20000 in
theorem x_blame_C_0_0 {n vs : Nat} {be de : Int64} {sz : Int32} {ro co mi : Nat → Int64} {T : Nat → Nat → Int64} {B : Nat → Nat → Nat → Int32} {hd : Nat → Nat → Int32} {df : Nat → Int32} (hv : 0 < vs) (hvs : vs ≤ 6) (hi : 0 < n) (hn : n ≤ 4) {b : Nat} (hb : b < 4) {k : Nat} (hk : k < 3) (h1 : ¬ detX n (lyT n ((cpX (cpX B 7 6 0 1) 7 0 1 4) 7) T) = 0) (h2a : ∀ T2 : Nat → Nat → Int64, ¬ detX n (lyT n ((cpX (cpX (cpX (cpX B 7 6 0 1) 7 0 1 4) 7 6 0 0) 7 0 0 4) 7) T2) = 0) (ha : ¬ (thX (smX n ((cpX (cpX B 7 6 0 1) 7 0 1 4) 7) (roX n (lyT n ((cpX (cpX B 7 6 0 1) 7 0 1 4) 7) T) (hd b) ro) k 1) (absX (detX n (lyT n ((cpX (cpX B 7 6 0 1) 7 0 1 4) 7) T)))) = -9000000000000000004) (hb2 : ∀ (T2 : Nat → Nat → Int64) (ro2 : Nat → Int64), ¬ (thX (smX n ((cpX (cpX (cpX (cpX B 7 6 0 1) 7 0 1 4) 7 6 0 0) 7 0 0 4) 7) (roX n (lyT n ((cpX (cpX (cpX (cpX B 7 6 0 1) 7 0 1 4) 7 6 0 0) 7 0 0 4) 7) T2) (hd b) ro2) k 1) (absX (detX n (lyT n ((cpX (cpX (cpX (cpX B 7 6 0 1) 7 0 1 4) 7 6 0 0) 7 0 0 4) 7) T2)))) = -9000000000000000004) : ∃ (T2 : Nat → Nat → Int64) (ro2 : Nat → Int64), ∃ (be4 de4 : Int64) (sz4 : Int32) (ro4 co4 mi4 : Nat → Int64) (T4 : Nat → Nat → Int64), KX2_blame l D ca ad [.ref 0, .int 0, .int (Int32.ofNat b), .int (Int32.ofNat k), .int 0] (XW (Int32.ofNat n) (Int32.ofNat vs) be de sz ro co mi T B hd df) (some (.long ((thX (smX n ((cpX (cpX B 7 6 0 1) 7 0 1 4) 7) (roX n (lyT n ((cpX (cpX B 7 6 0 1) 7 0 1 4) 7) T) (hd b) ro) k 1) (absX (detX n (lyT n ((cpX (cpX B 7 6 0 1) 7 0 1 4) 7) T)))) - (thX (smX n ((cpX (cpX (cpX (cpX B 7 6 0 1) 7 0 1 4) 7 6 0 0) 7 0 0 4) 7) (roX n (lyT n ((cpX (cpX (cpX (cpX B 7 6 0 1) 7 0 1 4) 7 6 0 0) 7 0 0 4) 7) T2) (hd b) ro2) k 1) (absX (detX n (lyT n ((cpX (cpX (cpX (cpX B 7 6 0 1) 7 0 1 4) 7 6 0 0) 7 0 0 4) 7) T2))))))) (XW (Int32.ofNat n) (Int32.ofNat vs) be4 de4 sz4 ro4 co4 mi4 T4 (cpX (cpX (cpX (cpX B 7 6 0 1) 7 0 1 4) 7 6 0 0) 7 0 0 4) hd df) := by
  obtain ⟨B1, eB⟩ : ∃ z, z = (cpX (cpX B 7 6 0 1) 7 0 1 4) := ⟨_, rfl⟩
  obtain ⟨B3, eB3⟩ : ∃ z, z = (cpX (cpX B1 7 6 0 0) 7 0 0 4) := ⟨_, rfl⟩
  obtain ⟨be1, de1, sz1, ro1, co1, mi1, T1, hk1⟩ := x_mixed_0_1 (l := l) (D := D) (ca := ca) (ad := ad) (vs := vs) (be := be) (de := de) (sz := sz) (ro := ro) (co := co) (mi := mi) (df := df) hn hb hk h1
  refine ⟨T1, ro1, ?_⟩
  have hb3 := hb2 T1 ro1
  rw [← eB] at h2a hk1 hb3
  rw [← eB, ← eB3]
  have h2 := h2a T1
  obtain ⟨be3, de3, sz3, ro3, co3, mi3, T3, hk3⟩ := x_mixed_0_0 (l := l) (D := D) (ca := ca) (ad := ad) (vs := vs) (be := be1) (de := de1) (sz := sz1) (ro := ro1) (co := co1) (mi := mi1) (T := T1) (B := B1) (df := df) hn hb hk h2
  rw [← eB3] at hk3
  rw [← eB3] at hb3
  rw [← eB] at ha
  obtain ⟨a1, ea1⟩ : ∃ z, z = (thX (smX n (B1 7) (roX n (lyT n (B1 7) T) (hd b) ro) k 1) (absX (detX n (lyT n (B1 7) T)))) := ⟨_, rfl⟩
  obtain ⟨a2, ea2⟩ : ∃ z, z = (thX (smX n (B3 7) (roX n (lyT n (B3 7) T1) (hd b) ro1) k 1) (absX (detX n (lyT n (B3 7) T1)))) := ⟨_, rfl⟩
  rw [← ea1] at hk1 ha ⊢
  rw [← ea2] at hk3 hb3 ⊢
  refine ⟨be3, de3, sz3, ro3, co3, mi3, T3, ?_⟩
  refine PX2_blame (Nat.le_of_ble_eq_true rfl) ?_
  intro G hT hC hR
  refine mB hT 2 rfl ?_
  refine hC.1 _ 0 [_] _ _ _ _ _ (c_isVersion_t (i := 0) hv hvs) rfl rfl (Nat.le_of_ble_eq_true rfl) rfl ?_
  refine mB hT 2 rfl ?_
  refine hC.2.1 _ [_] _ _ _ _ (c_isBasket_t hb) rfl (Nat.le_of_ble_eq_true rfl) rfl ?_
  refine mB hT 2 rfl ?_
  refine hC.2.2.1 _ [_] _ _ _ _ (c_isStuff_t hk) rfl (Nat.le_of_ble_eq_true rfl) rfl ?_
  refine mB hT 3 rfl ?_
  refine hC.2.2.2.1 _ 0 [_] _ _ _ _ _ (c_isMaking_t (i := 0) hi hn) rfl rfl (Nat.le_of_ble_eq_true rfl) rfl ?_
  refine mB hT 8 rfl ?_
  refine hC.2.2.2.2.1 _ 0 [_, _, _, _] _ _ _ _ _ (hk1) rfl rfl (Nat.le_of_ble_eq_true rfl) rfl ?_
  refine mB hT 6 rfl ?_
  refine hC.2.2.2.2.2 _ 0 [_, _, _, _] _ _ _ _ _ (hk3) rfl rfl (Nat.le_of_ble_eq_true rfl) rfl ?_
  refine mB hT 5 rfl ?_
  refine mIf (fun hp => absurd hp (fun q => ha (lc_eq.mp q))) (fun _ => ?_)
  refine mNf (lv2 := [(7, .long a2), (5, .long a1), (0, .ref 0), (1, .int 0), (2, .int (Int32.ofNat b)), (3, .int (Int32.ofNat k)), (4, .int 0)]) (st2 := []) rfl rfl ?_
  refine mB hT 4 rfl ?_
  refine mIf (fun hp => absurd hp (fun q => hb3 (lc_eq.mp q))) (fun _ => ?_)
  refine mB hT 3 rfl ?_
  exact hR _ (by decide) _ _ _ rfl rfl
set_option maxRecDepth 20000 in
theorem x_blame_A_0_1 {n vs : Nat} {be de : Int64} {sz : Int32} {ro co mi : Nat → Int64} {T : Nat → Nat → Int64} {B : Nat → Nat → Nat → Int32} {hd : Nat → Nat → Int32} {df : Nat → Int32} (hv : 0 < vs) (hvs : vs ≤ 6) (hi : 1 < n) (hn : n ≤ 4) {b : Nat} (hb : b < 4) {k : Nat} (hk : k < 3) (h1 : detX n (lyT n ((cpX (cpX B 7 6 0 2) 7 0 2 4) 7) T) = 0) : ∃ (be4 de4 : Int64) (sz4 : Int32) (ro4 co4 mi4 : Nat → Int64) (T4 : Nat → Nat → Int64), KX2_blame l D ca ad [.ref 0, .int 0, .int (Int32.ofNat b), .int (Int32.ofNat k), .int 1] (XW (Int32.ofNat n) (Int32.ofNat vs) be de sz ro co mi T B hd df) (some (.long (-9000000000000000004))) (XW (Int32.ofNat n) (Int32.ofNat vs) be4 de4 sz4 ro4 co4 mi4 T4 (cpX (cpX (cpX (cpX B 7 6 0 2) 7 0 2 4) 7 6 0 1) 7 0 1 4) hd df) := by
  obtain ⟨B1, eB⟩ : ∃ z, z = (cpX (cpX B 7 6 0 2) 7 0 2 4) := ⟨_, rfl⟩
  obtain ⟨B3, eB3⟩ : ∃ z, z = (cpX (cpX B1 7 6 0 1) 7 0 1 4) := ⟨_, rfl⟩
  rw [← eB, ← eB3]
  obtain ⟨be1, de1, sz1, ro1, co1, mi1, T1, hk1⟩ := x_mixed_B_0_2 (l := l) (D := D) (ca := ca) (ad := ad) (vs := vs) (be := be) (de := de) (sz := sz) (ro := ro) (co := co) (mi := mi) (df := df) hn hb hk h1
  rw [← eB] at hk1
  by_cases h2 : detX n (lyT n ((cpX (cpX B1 7 6 0 1) 7 0 1 4) 7) T1) = 0
  · obtain ⟨be3, de3, sz3, ro3, co3, mi3, T3, hk3⟩ := x_mixed_B_0_1 (l := l) (D := D) (ca := ca) (ad := ad) (vs := vs) (be := be1) (de := de1) (sz := sz1) (ro := ro1) (co := co1) (mi := mi1) (T := T1) (B := B1) (df := df) hn hb hk h2
    rw [← eB3] at hk3
    refine ⟨be3, de3, sz3, ro3, co3, mi3, T3, ?_⟩
    refine PX2_blame (Nat.le_of_ble_eq_true rfl) ?_
    intro G hT hC hR
    refine mB hT 2 rfl ?_
    refine hC.1 _ 0 [_] _ _ _ _ _ (c_isVersion_t (i := 0) hv hvs) rfl rfl (Nat.le_of_ble_eq_true rfl) rfl ?_
    refine mB hT 2 rfl ?_
    refine hC.2.1 _ [_] _ _ _ _ (c_isBasket_t hb) rfl (Nat.le_of_ble_eq_true rfl) rfl ?_
    refine mB hT 2 rfl ?_
    refine hC.2.2.1 _ [_] _ _ _ _ (c_isStuff_t hk) rfl (Nat.le_of_ble_eq_true rfl) rfl ?_
    refine mB hT 3 rfl ?_
    refine hC.2.2.2.1 _ 0 [_] _ _ _ _ _ (c_isMaking_t (i := 1) hi hn) rfl rfl (Nat.le_of_ble_eq_true rfl) rfl ?_
    refine mB hT 8 rfl ?_
    refine hC.2.2.2.2.1 _ 0 [_, _, _, _] _ _ _ _ _ (hk1) rfl rfl (Nat.le_of_ble_eq_true rfl) rfl ?_
    refine mB hT 6 rfl ?_
    refine hC.2.2.2.2.2 _ 0 [_, _, _, _] _ _ _ _ _ (hk3) rfl rfl (Nat.le_of_ble_eq_true rfl) rfl ?_
    refine mB hT 6 rfl ?_
    exact hR _ (by decide) _ _ _ rfl rfl
  · obtain ⟨be3, de3, sz3, ro3, co3, mi3, T3, hk3⟩ := x_mixed_0_1 (l := l) (D := D) (ca := ca) (ad := ad) (vs := vs) (be := be1) (de := de1) (sz := sz1) (ro := ro1) (co := co1) (mi := mi1) (T := T1) (B := B1) (df := df) hn hb hk h2
    rw [← eB3] at hk3
    generalize thX _ _ = a2 at hk3
    refine ⟨be3, de3, sz3, ro3, co3, mi3, T3, ?_⟩
    refine PX2_blame (Nat.le_of_ble_eq_true rfl) ?_
    intro G hT hC hR
    refine mB hT 2 rfl ?_
    refine hC.1 _ 0 [_] _ _ _ _ _ (c_isVersion_t (i := 0) hv hvs) rfl rfl (Nat.le_of_ble_eq_true rfl) rfl ?_
    refine mB hT 2 rfl ?_
    refine hC.2.1 _ [_] _ _ _ _ (c_isBasket_t hb) rfl (Nat.le_of_ble_eq_true rfl) rfl ?_
    refine mB hT 2 rfl ?_
    refine hC.2.2.1 _ [_] _ _ _ _ (c_isStuff_t hk) rfl (Nat.le_of_ble_eq_true rfl) rfl ?_
    refine mB hT 3 rfl ?_
    refine hC.2.2.2.1 _ 0 [_] _ _ _ _ _ (c_isMaking_t (i := 1) hi hn) rfl rfl (Nat.le_of_ble_eq_true rfl) rfl ?_
    refine mB hT 8 rfl ?_
    refine hC.2.2.2.2.1 _ 0 [_, _, _, _] _ _ _ _ _ (hk1) rfl rfl (Nat.le_of_ble_eq_true rfl) rfl ?_
    refine mB hT 6 rfl ?_
    refine hC.2.2.2.2.2 _ 0 [_, _, _, _] _ _ _ _ _ (hk3) rfl rfl (Nat.le_of_ble_eq_true rfl) rfl ?_
    refine mB hT 6 rfl ?_
    exact hR _ (by decide) _ _ _ rfl rfl
set_option maxRecDepth 20000 in
theorem x_blame_B_0_1 {n vs : Nat} {be de : Int64} {sz : Int32} {ro co mi : Nat → Int64} {T : Nat → Nat → Int64} {B : Nat → Nat → Nat → Int32} {hd : Nat → Nat → Int32} {df : Nat → Int32} (hv : 0 < vs) (hvs : vs ≤ 6) (hi : 1 < n) (hn : n ≤ 4) {b : Nat} (hb : b < 4) {k : Nat} (hk : k < 3) (h1 : ¬ detX n (lyT n ((cpX (cpX B 7 6 0 2) 7 0 2 4) 7) T) = 0) (h2a : ∀ T2 : Nat → Nat → Int64, detX n (lyT n ((cpX (cpX (cpX (cpX B 7 6 0 2) 7 0 2 4) 7 6 0 1) 7 0 1 4) 7) T2) = 0) : ∃ (be4 de4 : Int64) (sz4 : Int32) (ro4 co4 mi4 : Nat → Int64) (T4 : Nat → Nat → Int64), KX2_blame l D ca ad [.ref 0, .int 0, .int (Int32.ofNat b), .int (Int32.ofNat k), .int 1] (XW (Int32.ofNat n) (Int32.ofNat vs) be de sz ro co mi T B hd df) (some (.long (-9000000000000000004))) (XW (Int32.ofNat n) (Int32.ofNat vs) be4 de4 sz4 ro4 co4 mi4 T4 (cpX (cpX (cpX (cpX B 7 6 0 2) 7 0 2 4) 7 6 0 1) 7 0 1 4) hd df) := by
  obtain ⟨B1, eB⟩ : ∃ z, z = (cpX (cpX B 7 6 0 2) 7 0 2 4) := ⟨_, rfl⟩
  obtain ⟨B3, eB3⟩ : ∃ z, z = (cpX (cpX B1 7 6 0 1) 7 0 1 4) := ⟨_, rfl⟩
  rw [← eB] at h2a
  rw [← eB, ← eB3]
  obtain ⟨be1, de1, sz1, ro1, co1, mi1, T1, hk1⟩ := x_mixed_0_2 (l := l) (D := D) (ca := ca) (ad := ad) (vs := vs) (be := be) (de := de) (sz := sz) (ro := ro) (co := co) (mi := mi) (df := df) hn hb hk h1
  rw [← eB] at hk1
  generalize thX _ _ = a1 at hk1
  have h2 := h2a T1
  obtain ⟨be3, de3, sz3, ro3, co3, mi3, T3, hk3⟩ := x_mixed_B_0_1 (l := l) (D := D) (ca := ca) (ad := ad) (vs := vs) (be := be1) (de := de1) (sz := sz1) (ro := ro1) (co := co1) (mi := mi1) (T := T1) (B := B1) (df := df) hn hb hk h2
  rw [← eB3] at hk3
  refine ⟨be3, de3, sz3, ro3, co3, mi3, T3, ?_⟩
  refine PX2_blame (Nat.le_of_ble_eq_true rfl) ?_
  intro G hT hC hR
  refine mB hT 2 rfl ?_
  refine hC.1 _ 0 [_] _ _ _ _ _ (c_isVersion_t (i := 0) hv hvs) rfl rfl (Nat.le_of_ble_eq_true rfl) rfl ?_
  refine mB hT 2 rfl ?_
  refine hC.2.1 _ [_] _ _ _ _ (c_isBasket_t hb) rfl (Nat.le_of_ble_eq_true rfl) rfl ?_
  refine mB hT 2 rfl ?_
  refine hC.2.2.1 _ [_] _ _ _ _ (c_isStuff_t hk) rfl (Nat.le_of_ble_eq_true rfl) rfl ?_
  refine mB hT 3 rfl ?_
  refine hC.2.2.2.1 _ 0 [_] _ _ _ _ _ (c_isMaking_t (i := 1) hi hn) rfl rfl (Nat.le_of_ble_eq_true rfl) rfl ?_
  refine mB hT 8 rfl ?_
  refine hC.2.2.2.2.1 _ 0 [_, _, _, _] _ _ _ _ _ (hk1) rfl rfl (Nat.le_of_ble_eq_true rfl) rfl ?_
  refine mB hT 6 rfl ?_
  refine hC.2.2.2.2.2 _ 0 [_, _, _, _] _ _ _ _ _ (hk3) rfl rfl (Nat.le_of_ble_eq_true rfl) rfl ?_
  refine mB hT 5 rfl ?_
  refine mIf (fun h1 => ?_) (fun h1 => ?_)
  · refine mNf (lv2 := [(7, .long (-9000000000000000004)), (5, .long a1), (0, .ref 0), (1, .int 0), (2, .int (Int32.ofNat b)), (3, .int (Int32.ofNat k)), (4, .int 1)]) (st2 := []) rfl rfl ?_
    refine mB hT 1 rfl ?_
    exact hR _ (by decide) _ _ _ rfl rfl
  · refine mNf (lv2 := [(7, .long (-9000000000000000004)), (5, .long a1), (0, .ref 0), (1, .int 0), (2, .int (Int32.ofNat b)), (3, .int (Int32.ofNat k)), (4, .int 1)]) (st2 := []) rfl rfl ?_
    refine mB hT 5 rfl ?_
    exact hR _ (by decide) _ _ _ rfl rfl
set_option maxRecDepth 20000 in
theorem x_blame_C_0_1 {n vs : Nat} {be de : Int64} {sz : Int32} {ro co mi : Nat → Int64} {T : Nat → Nat → Int64} {B : Nat → Nat → Nat → Int32} {hd : Nat → Nat → Int32} {df : Nat → Int32} (hv : 0 < vs) (hvs : vs ≤ 6) (hi : 1 < n) (hn : n ≤ 4) {b : Nat} (hb : b < 4) {k : Nat} (hk : k < 3) (h1 : ¬ detX n (lyT n ((cpX (cpX B 7 6 0 2) 7 0 2 4) 7) T) = 0) (h2a : ∀ T2 : Nat → Nat → Int64, ¬ detX n (lyT n ((cpX (cpX (cpX (cpX B 7 6 0 2) 7 0 2 4) 7 6 0 1) 7 0 1 4) 7) T2) = 0) (ha : ¬ (thX (smX n ((cpX (cpX B 7 6 0 2) 7 0 2 4) 7) (roX n (lyT n ((cpX (cpX B 7 6 0 2) 7 0 2 4) 7) T) (hd b) ro) k 1) (absX (detX n (lyT n ((cpX (cpX B 7 6 0 2) 7 0 2 4) 7) T)))) = -9000000000000000004) (hb2 : ∀ (T2 : Nat → Nat → Int64) (ro2 : Nat → Int64), ¬ (thX (smX n ((cpX (cpX (cpX (cpX B 7 6 0 2) 7 0 2 4) 7 6 0 1) 7 0 1 4) 7) (roX n (lyT n ((cpX (cpX (cpX (cpX B 7 6 0 2) 7 0 2 4) 7 6 0 1) 7 0 1 4) 7) T2) (hd b) ro2) k 1) (absX (detX n (lyT n ((cpX (cpX (cpX (cpX B 7 6 0 2) 7 0 2 4) 7 6 0 1) 7 0 1 4) 7) T2)))) = -9000000000000000004) : ∃ (T2 : Nat → Nat → Int64) (ro2 : Nat → Int64), ∃ (be4 de4 : Int64) (sz4 : Int32) (ro4 co4 mi4 : Nat → Int64) (T4 : Nat → Nat → Int64), KX2_blame l D ca ad [.ref 0, .int 0, .int (Int32.ofNat b), .int (Int32.ofNat k), .int 1] (XW (Int32.ofNat n) (Int32.ofNat vs) be de sz ro co mi T B hd df) (some (.long ((thX (smX n ((cpX (cpX B 7 6 0 2) 7 0 2 4) 7) (roX n (lyT n ((cpX (cpX B 7 6 0 2) 7 0 2 4) 7) T) (hd b) ro) k 1) (absX (detX n (lyT n ((cpX (cpX B 7 6 0 2) 7 0 2 4) 7) T)))) - (thX (smX n ((cpX (cpX (cpX (cpX B 7 6 0 2) 7 0 2 4) 7 6 0 1) 7 0 1 4) 7) (roX n (lyT n ((cpX (cpX (cpX (cpX B 7 6 0 2) 7 0 2 4) 7 6 0 1) 7 0 1 4) 7) T2) (hd b) ro2) k 1) (absX (detX n (lyT n ((cpX (cpX (cpX (cpX B 7 6 0 2) 7 0 2 4) 7 6 0 1) 7 0 1 4) 7) T2))))))) (XW (Int32.ofNat n) (Int32.ofNat vs) be4 de4 sz4 ro4 co4 mi4 T4 (cpX (cpX (cpX (cpX B 7 6 0 2) 7 0 2 4) 7 6 0 1) 7 0 1 4) hd df) := by
  obtain ⟨B1, eB⟩ : ∃ z, z = (cpX (cpX B 7 6 0 2) 7 0 2 4) := ⟨_, rfl⟩
  obtain ⟨B3, eB3⟩ : ∃ z, z = (cpX (cpX B1 7 6 0 1) 7 0 1 4) := ⟨_, rfl⟩
  obtain ⟨be1, de1, sz1, ro1, co1, mi1, T1, hk1⟩ := x_mixed_0_2 (l := l) (D := D) (ca := ca) (ad := ad) (vs := vs) (be := be) (de := de) (sz := sz) (ro := ro) (co := co) (mi := mi) (df := df) hn hb hk h1
  refine ⟨T1, ro1, ?_⟩
  have hb3 := hb2 T1 ro1
  rw [← eB] at h2a hk1 hb3
  rw [← eB, ← eB3]
  have h2 := h2a T1
  obtain ⟨be3, de3, sz3, ro3, co3, mi3, T3, hk3⟩ := x_mixed_0_1 (l := l) (D := D) (ca := ca) (ad := ad) (vs := vs) (be := be1) (de := de1) (sz := sz1) (ro := ro1) (co := co1) (mi := mi1) (T := T1) (B := B1) (df := df) hn hb hk h2
  rw [← eB3] at hk3
  rw [← eB3] at hb3
  rw [← eB] at ha
  obtain ⟨a1, ea1⟩ : ∃ z, z = (thX (smX n (B1 7) (roX n (lyT n (B1 7) T) (hd b) ro) k 1) (absX (detX n (lyT n (B1 7) T)))) := ⟨_, rfl⟩
  obtain ⟨a2, ea2⟩ : ∃ z, z = (thX (smX n (B3 7) (roX n (lyT n (B3 7) T1) (hd b) ro1) k 1) (absX (detX n (lyT n (B3 7) T1)))) := ⟨_, rfl⟩
  rw [← ea1] at hk1 ha ⊢
  rw [← ea2] at hk3 hb3 ⊢
  refine ⟨be3, de3, sz3, ro3, co3, mi3, T3, ?_⟩
  refine PX2_blame (Nat.le_of_ble_eq_true rfl) ?_
  intro G hT hC hR
  refine mB hT 2 rfl ?_
  refine hC.1 _ 0 [_] _ _ _ _ _ (c_isVersion_t (i := 0) hv hvs) rfl rfl (Nat.le_of_ble_eq_true rfl) rfl ?_
  refine mB hT 2 rfl ?_
  refine hC.2.1 _ [_] _ _ _ _ (c_isBasket_t hb) rfl (Nat.le_of_ble_eq_true rfl) rfl ?_
  refine mB hT 2 rfl ?_
  refine hC.2.2.1 _ [_] _ _ _ _ (c_isStuff_t hk) rfl (Nat.le_of_ble_eq_true rfl) rfl ?_
  refine mB hT 3 rfl ?_
  refine hC.2.2.2.1 _ 0 [_] _ _ _ _ _ (c_isMaking_t (i := 1) hi hn) rfl rfl (Nat.le_of_ble_eq_true rfl) rfl ?_
  refine mB hT 8 rfl ?_
  refine hC.2.2.2.2.1 _ 0 [_, _, _, _] _ _ _ _ _ (hk1) rfl rfl (Nat.le_of_ble_eq_true rfl) rfl ?_
  refine mB hT 6 rfl ?_
  refine hC.2.2.2.2.2 _ 0 [_, _, _, _] _ _ _ _ _ (hk3) rfl rfl (Nat.le_of_ble_eq_true rfl) rfl ?_
  refine mB hT 5 rfl ?_
  refine mIf (fun hp => absurd hp (fun q => ha (lc_eq.mp q))) (fun _ => ?_)
  refine mNf (lv2 := [(7, .long a2), (5, .long a1), (0, .ref 0), (1, .int 0), (2, .int (Int32.ofNat b)), (3, .int (Int32.ofNat k)), (4, .int 1)]) (st2 := []) rfl rfl ?_
  refine mB hT 4 rfl ?_
  refine mIf (fun hp => absurd hp (fun q => hb3 (lc_eq.mp q))) (fun _ => ?_)
  refine mB hT 3 rfl ?_
  exact hR _ (by decide) _ _ _ rfl rfl
set_option maxRecDepth 20000 in
theorem x_blame_A_0_2 {n vs : Nat} {be de : Int64} {sz : Int32} {ro co mi : Nat → Int64} {T : Nat → Nat → Int64} {B : Nat → Nat → Nat → Int32} {hd : Nat → Nat → Int32} {df : Nat → Int32} (hv : 0 < vs) (hvs : vs ≤ 6) (hi : 2 < n) (hn : n ≤ 4) {b : Nat} (hb : b < 4) {k : Nat} (hk : k < 3) (h1 : detX n (lyT n ((cpX (cpX B 7 6 0 3) 7 0 3 4) 7) T) = 0) : ∃ (be4 de4 : Int64) (sz4 : Int32) (ro4 co4 mi4 : Nat → Int64) (T4 : Nat → Nat → Int64), KX2_blame l D ca ad [.ref 0, .int 0, .int (Int32.ofNat b), .int (Int32.ofNat k), .int 2] (XW (Int32.ofNat n) (Int32.ofNat vs) be de sz ro co mi T B hd df) (some (.long (-9000000000000000004))) (XW (Int32.ofNat n) (Int32.ofNat vs) be4 de4 sz4 ro4 co4 mi4 T4 (cpX (cpX (cpX (cpX B 7 6 0 3) 7 0 3 4) 7 6 0 2) 7 0 2 4) hd df) := by
  obtain ⟨B1, eB⟩ : ∃ z, z = (cpX (cpX B 7 6 0 3) 7 0 3 4) := ⟨_, rfl⟩
  obtain ⟨B3, eB3⟩ : ∃ z, z = (cpX (cpX B1 7 6 0 2) 7 0 2 4) := ⟨_, rfl⟩
  rw [← eB, ← eB3]
  obtain ⟨be1, de1, sz1, ro1, co1, mi1, T1, hk1⟩ := x_mixed_B_0_3 (l := l) (D := D) (ca := ca) (ad := ad) (vs := vs) (be := be) (de := de) (sz := sz) (ro := ro) (co := co) (mi := mi) (df := df) hn hb hk h1
  rw [← eB] at hk1
  by_cases h2 : detX n (lyT n ((cpX (cpX B1 7 6 0 2) 7 0 2 4) 7) T1) = 0
  · obtain ⟨be3, de3, sz3, ro3, co3, mi3, T3, hk3⟩ := x_mixed_B_0_2 (l := l) (D := D) (ca := ca) (ad := ad) (vs := vs) (be := be1) (de := de1) (sz := sz1) (ro := ro1) (co := co1) (mi := mi1) (T := T1) (B := B1) (df := df) hn hb hk h2
    rw [← eB3] at hk3
    refine ⟨be3, de3, sz3, ro3, co3, mi3, T3, ?_⟩
    refine PX2_blame (Nat.le_of_ble_eq_true rfl) ?_
    intro G hT hC hR
    refine mB hT 2 rfl ?_
    refine hC.1 _ 0 [_] _ _ _ _ _ (c_isVersion_t (i := 0) hv hvs) rfl rfl (Nat.le_of_ble_eq_true rfl) rfl ?_
    refine mB hT 2 rfl ?_
    refine hC.2.1 _ [_] _ _ _ _ (c_isBasket_t hb) rfl (Nat.le_of_ble_eq_true rfl) rfl ?_
    refine mB hT 2 rfl ?_
    refine hC.2.2.1 _ [_] _ _ _ _ (c_isStuff_t hk) rfl (Nat.le_of_ble_eq_true rfl) rfl ?_
    refine mB hT 3 rfl ?_
    refine hC.2.2.2.1 _ 0 [_] _ _ _ _ _ (c_isMaking_t (i := 2) hi hn) rfl rfl (Nat.le_of_ble_eq_true rfl) rfl ?_
    refine mB hT 8 rfl ?_
    refine hC.2.2.2.2.1 _ 0 [_, _, _, _] _ _ _ _ _ (hk1) rfl rfl (Nat.le_of_ble_eq_true rfl) rfl ?_
    refine mB hT 6 rfl ?_
    refine hC.2.2.2.2.2 _ 0 [_, _, _, _] _ _ _ _ _ (hk3) rfl rfl (Nat.le_of_ble_eq_true rfl) rfl ?_
    refine mB hT 6 rfl ?_
    exact hR _ (by decide) _ _ _ rfl rfl
  · obtain ⟨be3, de3, sz3, ro3, co3, mi3, T3, hk3⟩ := x_mixed_0_2 (l := l) (D := D) (ca := ca) (ad := ad) (vs := vs) (be := be1) (de := de1) (sz := sz1) (ro := ro1) (co := co1) (mi := mi1) (T := T1) (B := B1) (df := df) hn hb hk h2
    rw [← eB3] at hk3
    generalize thX _ _ = a2 at hk3
    refine ⟨be3, de3, sz3, ro3, co3, mi3, T3, ?_⟩
    refine PX2_blame (Nat.le_of_ble_eq_true rfl) ?_
    intro G hT hC hR
    refine mB hT 2 rfl ?_
    refine hC.1 _ 0 [_] _ _ _ _ _ (c_isVersion_t (i := 0) hv hvs) rfl rfl (Nat.le_of_ble_eq_true rfl) rfl ?_
    refine mB hT 2 rfl ?_
    refine hC.2.1 _ [_] _ _ _ _ (c_isBasket_t hb) rfl (Nat.le_of_ble_eq_true rfl) rfl ?_
    refine mB hT 2 rfl ?_
    refine hC.2.2.1 _ [_] _ _ _ _ (c_isStuff_t hk) rfl (Nat.le_of_ble_eq_true rfl) rfl ?_
    refine mB hT 3 rfl ?_
    refine hC.2.2.2.1 _ 0 [_] _ _ _ _ _ (c_isMaking_t (i := 2) hi hn) rfl rfl (Nat.le_of_ble_eq_true rfl) rfl ?_
    refine mB hT 8 rfl ?_
    refine hC.2.2.2.2.1 _ 0 [_, _, _, _] _ _ _ _ _ (hk1) rfl rfl (Nat.le_of_ble_eq_true rfl) rfl ?_
    refine mB hT 6 rfl ?_
    refine hC.2.2.2.2.2 _ 0 [_, _, _, _] _ _ _ _ _ (hk3) rfl rfl (Nat.le_of_ble_eq_true rfl) rfl ?_
    refine mB hT 6 rfl ?_
    exact hR _ (by decide) _ _ _ rfl rfl
set_option maxRecDepth 20000 in
theorem x_blame_B_0_2 {n vs : Nat} {be de : Int64} {sz : Int32} {ro co mi : Nat → Int64} {T : Nat → Nat → Int64} {B : Nat → Nat → Nat → Int32} {hd : Nat → Nat → Int32} {df : Nat → Int32} (hv : 0 < vs) (hvs : vs ≤ 6) (hi : 2 < n) (hn : n ≤ 4) {b : Nat} (hb : b < 4) {k : Nat} (hk : k < 3) (h1 : ¬ detX n (lyT n ((cpX (cpX B 7 6 0 3) 7 0 3 4) 7) T) = 0) (h2a : ∀ T2 : Nat → Nat → Int64, detX n (lyT n ((cpX (cpX (cpX (cpX B 7 6 0 3) 7 0 3 4) 7 6 0 2) 7 0 2 4) 7) T2) = 0) : ∃ (be4 de4 : Int64) (sz4 : Int32) (ro4 co4 mi4 : Nat → Int64) (T4 : Nat → Nat → Int64), KX2_blame l D ca ad [.ref 0, .int 0, .int (Int32.ofNat b), .int (Int32.ofNat k), .int 2] (XW (Int32.ofNat n) (Int32.ofNat vs) be de sz ro co mi T B hd df) (some (.long (-9000000000000000004))) (XW (Int32.ofNat n) (Int32.ofNat vs) be4 de4 sz4 ro4 co4 mi4 T4 (cpX (cpX (cpX (cpX B 7 6 0 3) 7 0 3 4) 7 6 0 2) 7 0 2 4) hd df) := by
  obtain ⟨B1, eB⟩ : ∃ z, z = (cpX (cpX B 7 6 0 3) 7 0 3 4) := ⟨_, rfl⟩
  obtain ⟨B3, eB3⟩ : ∃ z, z = (cpX (cpX B1 7 6 0 2) 7 0 2 4) := ⟨_, rfl⟩
  rw [← eB] at h2a
  rw [← eB, ← eB3]
  obtain ⟨be1, de1, sz1, ro1, co1, mi1, T1, hk1⟩ := x_mixed_0_3 (l := l) (D := D) (ca := ca) (ad := ad) (vs := vs) (be := be) (de := de) (sz := sz) (ro := ro) (co := co) (mi := mi) (df := df) hn hb hk h1
  rw [← eB] at hk1
  generalize thX _ _ = a1 at hk1
  have h2 := h2a T1
  obtain ⟨be3, de3, sz3, ro3, co3, mi3, T3, hk3⟩ := x_mixed_B_0_2 (l := l) (D := D) (ca := ca) (ad := ad) (vs := vs) (be := be1) (de := de1) (sz := sz1) (ro := ro1) (co := co1) (mi := mi1) (T := T1) (B := B1) (df := df) hn hb hk h2
  rw [← eB3] at hk3
  refine ⟨be3, de3, sz3, ro3, co3, mi3, T3, ?_⟩
  refine PX2_blame (Nat.le_of_ble_eq_true rfl) ?_
  intro G hT hC hR
  refine mB hT 2 rfl ?_
  refine hC.1 _ 0 [_] _ _ _ _ _ (c_isVersion_t (i := 0) hv hvs) rfl rfl (Nat.le_of_ble_eq_true rfl) rfl ?_
  refine mB hT 2 rfl ?_
  refine hC.2.1 _ [_] _ _ _ _ (c_isBasket_t hb) rfl (Nat.le_of_ble_eq_true rfl) rfl ?_
  refine mB hT 2 rfl ?_
  refine hC.2.2.1 _ [_] _ _ _ _ (c_isStuff_t hk) rfl (Nat.le_of_ble_eq_true rfl) rfl ?_
  refine mB hT 3 rfl ?_
  refine hC.2.2.2.1 _ 0 [_] _ _ _ _ _ (c_isMaking_t (i := 2) hi hn) rfl rfl (Nat.le_of_ble_eq_true rfl) rfl ?_
  refine mB hT 8 rfl ?_
  refine hC.2.2.2.2.1 _ 0 [_, _, _, _] _ _ _ _ _ (hk1) rfl rfl (Nat.le_of_ble_eq_true rfl) rfl ?_
  refine mB hT 6 rfl ?_
  refine hC.2.2.2.2.2 _ 0 [_, _, _, _] _ _ _ _ _ (hk3) rfl rfl (Nat.le_of_ble_eq_true rfl) rfl ?_
  refine mB hT 5 rfl ?_
  refine mIf (fun h1 => ?_) (fun h1 => ?_)
  · refine mNf (lv2 := [(7, .long (-9000000000000000004)), (5, .long a1), (0, .ref 0), (1, .int 0), (2, .int (Int32.ofNat b)), (3, .int (Int32.ofNat k)), (4, .int 2)]) (st2 := []) rfl rfl ?_
    refine mB hT 1 rfl ?_
    exact hR _ (by decide) _ _ _ rfl rfl
  · refine mNf (lv2 := [(7, .long (-9000000000000000004)), (5, .long a1), (0, .ref 0), (1, .int 0), (2, .int (Int32.ofNat b)), (3, .int (Int32.ofNat k)), (4, .int 2)]) (st2 := []) rfl rfl ?_
    refine mB hT 5 rfl ?_
    exact hR _ (by decide) _ _ _ rfl rfl
set_option maxRecDepth 20000 in
theorem x_blame_C_0_2 {n vs : Nat} {be de : Int64} {sz : Int32} {ro co mi : Nat → Int64} {T : Nat → Nat → Int64} {B : Nat → Nat → Nat → Int32} {hd : Nat → Nat → Int32} {df : Nat → Int32} (hv : 0 < vs) (hvs : vs ≤ 6) (hi : 2 < n) (hn : n ≤ 4) {b : Nat} (hb : b < 4) {k : Nat} (hk : k < 3) (h1 : ¬ detX n (lyT n ((cpX (cpX B 7 6 0 3) 7 0 3 4) 7) T) = 0) (h2a : ∀ T2 : Nat → Nat → Int64, ¬ detX n (lyT n ((cpX (cpX (cpX (cpX B 7 6 0 3) 7 0 3 4) 7 6 0 2) 7 0 2 4) 7) T2) = 0) (ha : ¬ (thX (smX n ((cpX (cpX B 7 6 0 3) 7 0 3 4) 7) (roX n (lyT n ((cpX (cpX B 7 6 0 3) 7 0 3 4) 7) T) (hd b) ro) k 1) (absX (detX n (lyT n ((cpX (cpX B 7 6 0 3) 7 0 3 4) 7) T)))) = -9000000000000000004) (hb2 : ∀ (T2 : Nat → Nat → Int64) (ro2 : Nat → Int64), ¬ (thX (smX n ((cpX (cpX (cpX (cpX B 7 6 0 3) 7 0 3 4) 7 6 0 2) 7 0 2 4) 7) (roX n (lyT n ((cpX (cpX (cpX (cpX B 7 6 0 3) 7 0 3 4) 7 6 0 2) 7 0 2 4) 7) T2) (hd b) ro2) k 1) (absX (detX n (lyT n ((cpX (cpX (cpX (cpX B 7 6 0 3) 7 0 3 4) 7 6 0 2) 7 0 2 4) 7) T2)))) = -9000000000000000004) : ∃ (T2 : Nat → Nat → Int64) (ro2 : Nat → Int64), ∃ (be4 de4 : Int64) (sz4 : Int32) (ro4 co4 mi4 : Nat → Int64) (T4 : Nat → Nat → Int64), KX2_blame l D ca ad [.ref 0, .int 0, .int (Int32.ofNat b), .int (Int32.ofNat k), .int 2] (XW (Int32.ofNat n) (Int32.ofNat vs) be de sz ro co mi T B hd df) (some (.long ((thX (smX n ((cpX (cpX B 7 6 0 3) 7 0 3 4) 7) (roX n (lyT n ((cpX (cpX B 7 6 0 3) 7 0 3 4) 7) T) (hd b) ro) k 1) (absX (detX n (lyT n ((cpX (cpX B 7 6 0 3) 7 0 3 4) 7) T)))) - (thX (smX n ((cpX (cpX (cpX (cpX B 7 6 0 3) 7 0 3 4) 7 6 0 2) 7 0 2 4) 7) (roX n (lyT n ((cpX (cpX (cpX (cpX B 7 6 0 3) 7 0 3 4) 7 6 0 2) 7 0 2 4) 7) T2) (hd b) ro2) k 1) (absX (detX n (lyT n ((cpX (cpX (cpX (cpX B 7 6 0 3) 7 0 3 4) 7 6 0 2) 7 0 2 4) 7) T2))))))) (XW (Int32.ofNat n) (Int32.ofNat vs) be4 de4 sz4 ro4 co4 mi4 T4 (cpX (cpX (cpX (cpX B 7 6 0 3) 7 0 3 4) 7 6 0 2) 7 0 2 4) hd df) := by
  obtain ⟨B1, eB⟩ : ∃ z, z = (cpX (cpX B 7 6 0 3) 7 0 3 4) := ⟨_, rfl⟩
  obtain ⟨B3, eB3⟩ : ∃ z, z = (cpX (cpX B1 7 6 0 2) 7 0 2 4) := ⟨_, rfl⟩
  obtain ⟨be1, de1, sz1, ro1, co1, mi1, T1, hk1⟩ := x_mixed_0_3 (l := l) (D := D) (ca := ca) (ad := ad) (vs := vs) (be := be) (de := de) (sz := sz) (ro := ro) (co := co) (mi := mi) (df := df) hn hb hk h1
  refine ⟨T1, ro1, ?_⟩
  have hb3 := hb2 T1 ro1
  rw [← eB] at h2a hk1 hb3
  rw [← eB, ← eB3]
  have h2 := h2a T1
  obtain ⟨be3, de3, sz3, ro3, co3, mi3, T3, hk3⟩ := x_mixed_0_2 (l := l) (D := D) (ca := ca) (ad := ad) (vs := vs) (be := be1) (de := de1) (sz := sz1) (ro := ro1) (co := co1) (mi := mi1) (T := T1) (B := B1) (df := df) hn hb hk h2
  rw [← eB3] at hk3
  rw [← eB3] at hb3
  rw [← eB] at ha
  obtain ⟨a1, ea1⟩ : ∃ z, z = (thX (smX n (B1 7) (roX n (lyT n (B1 7) T) (hd b) ro) k 1) (absX (detX n (lyT n (B1 7) T)))) := ⟨_, rfl⟩
  obtain ⟨a2, ea2⟩ : ∃ z, z = (thX (smX n (B3 7) (roX n (lyT n (B3 7) T1) (hd b) ro1) k 1) (absX (detX n (lyT n (B3 7) T1)))) := ⟨_, rfl⟩
  rw [← ea1] at hk1 ha ⊢
  rw [← ea2] at hk3 hb3 ⊢
  refine ⟨be3, de3, sz3, ro3, co3, mi3, T3, ?_⟩
  refine PX2_blame (Nat.le_of_ble_eq_true rfl) ?_
  intro G hT hC hR
  refine mB hT 2 rfl ?_
  refine hC.1 _ 0 [_] _ _ _ _ _ (c_isVersion_t (i := 0) hv hvs) rfl rfl (Nat.le_of_ble_eq_true rfl) rfl ?_
  refine mB hT 2 rfl ?_
  refine hC.2.1 _ [_] _ _ _ _ (c_isBasket_t hb) rfl (Nat.le_of_ble_eq_true rfl) rfl ?_
  refine mB hT 2 rfl ?_
  refine hC.2.2.1 _ [_] _ _ _ _ (c_isStuff_t hk) rfl (Nat.le_of_ble_eq_true rfl) rfl ?_
  refine mB hT 3 rfl ?_
  refine hC.2.2.2.1 _ 0 [_] _ _ _ _ _ (c_isMaking_t (i := 2) hi hn) rfl rfl (Nat.le_of_ble_eq_true rfl) rfl ?_
  refine mB hT 8 rfl ?_
  refine hC.2.2.2.2.1 _ 0 [_, _, _, _] _ _ _ _ _ (hk1) rfl rfl (Nat.le_of_ble_eq_true rfl) rfl ?_
  refine mB hT 6 rfl ?_
  refine hC.2.2.2.2.2 _ 0 [_, _, _, _] _ _ _ _ _ (hk3) rfl rfl (Nat.le_of_ble_eq_true rfl) rfl ?_
  refine mB hT 5 rfl ?_
  refine mIf (fun hp => absurd hp (fun q => ha (lc_eq.mp q))) (fun _ => ?_)
  refine mNf (lv2 := [(7, .long a2), (5, .long a1), (0, .ref 0), (1, .int 0), (2, .int (Int32.ofNat b)), (3, .int (Int32.ofNat k)), (4, .int 2)]) (st2 := []) rfl rfl ?_
  refine mB hT 4 rfl ?_
  refine mIf (fun hp => absurd hp (fun q => hb3 (lc_eq.mp q))) (fun _ => ?_)
  refine mB hT 3 rfl ?_
  exact hR _ (by decide) _ _ _ rfl rfl
set_option maxRecDepth 20000 in
theorem x_blame_A_0_3 {n vs : Nat} {be de : Int64} {sz : Int32} {ro co mi : Nat → Int64} {T : Nat → Nat → Int64} {B : Nat → Nat → Nat → Int32} {hd : Nat → Nat → Int32} {df : Nat → Int32} (hv : 0 < vs) (hvs : vs ≤ 6) (hi : 3 < n) (hn : n ≤ 4) {b : Nat} (hb : b < 4) {k : Nat} (hk : k < 3) (h1 : detX n (lyT n ((cpX (cpX B 7 6 0 4) 7 0 4 4) 7) T) = 0) : ∃ (be4 de4 : Int64) (sz4 : Int32) (ro4 co4 mi4 : Nat → Int64) (T4 : Nat → Nat → Int64), KX2_blame l D ca ad [.ref 0, .int 0, .int (Int32.ofNat b), .int (Int32.ofNat k), .int 3] (XW (Int32.ofNat n) (Int32.ofNat vs) be de sz ro co mi T B hd df) (some (.long (-9000000000000000004))) (XW (Int32.ofNat n) (Int32.ofNat vs) be4 de4 sz4 ro4 co4 mi4 T4 (cpX (cpX (cpX (cpX B 7 6 0 4) 7 0 4 4) 7 6 0 3) 7 0 3 4) hd df) := by
  obtain ⟨B1, eB⟩ : ∃ z, z = (cpX (cpX B 7 6 0 4) 7 0 4 4) := ⟨_, rfl⟩
  obtain ⟨B3, eB3⟩ : ∃ z, z = (cpX (cpX B1 7 6 0 3) 7 0 3 4) := ⟨_, rfl⟩
  rw [← eB, ← eB3]
  obtain ⟨be1, de1, sz1, ro1, co1, mi1, T1, hk1⟩ := x_mixed_B_0_4 (l := l) (D := D) (ca := ca) (ad := ad) (vs := vs) (be := be) (de := de) (sz := sz) (ro := ro) (co := co) (mi := mi) (df := df) hn hb hk h1
  rw [← eB] at hk1
  by_cases h2 : detX n (lyT n ((cpX (cpX B1 7 6 0 3) 7 0 3 4) 7) T1) = 0
  · obtain ⟨be3, de3, sz3, ro3, co3, mi3, T3, hk3⟩ := x_mixed_B_0_3 (l := l) (D := D) (ca := ca) (ad := ad) (vs := vs) (be := be1) (de := de1) (sz := sz1) (ro := ro1) (co := co1) (mi := mi1) (T := T1) (B := B1) (df := df) hn hb hk h2
    rw [← eB3] at hk3
    refine ⟨be3, de3, sz3, ro3, co3, mi3, T3, ?_⟩
    refine PX2_blame (Nat.le_of_ble_eq_true rfl) ?_
    intro G hT hC hR
    refine mB hT 2 rfl ?_
    refine hC.1 _ 0 [_] _ _ _ _ _ (c_isVersion_t (i := 0) hv hvs) rfl rfl (Nat.le_of_ble_eq_true rfl) rfl ?_
    refine mB hT 2 rfl ?_
    refine hC.2.1 _ [_] _ _ _ _ (c_isBasket_t hb) rfl (Nat.le_of_ble_eq_true rfl) rfl ?_
    refine mB hT 2 rfl ?_
    refine hC.2.2.1 _ [_] _ _ _ _ (c_isStuff_t hk) rfl (Nat.le_of_ble_eq_true rfl) rfl ?_
    refine mB hT 3 rfl ?_
    refine hC.2.2.2.1 _ 0 [_] _ _ _ _ _ (c_isMaking_t (i := 3) hi hn) rfl rfl (Nat.le_of_ble_eq_true rfl) rfl ?_
    refine mB hT 8 rfl ?_
    refine hC.2.2.2.2.1 _ 0 [_, _, _, _] _ _ _ _ _ (hk1) rfl rfl (Nat.le_of_ble_eq_true rfl) rfl ?_
    refine mB hT 6 rfl ?_
    refine hC.2.2.2.2.2 _ 0 [_, _, _, _] _ _ _ _ _ (hk3) rfl rfl (Nat.le_of_ble_eq_true rfl) rfl ?_
    refine mB hT 6 rfl ?_
    exact hR _ (by decide) _ _ _ rfl rfl
  · obtain ⟨be3, de3, sz3, ro3, co3, mi3, T3, hk3⟩ := x_mixed_0_3 (l := l) (D := D) (ca := ca) (ad := ad) (vs := vs) (be := be1) (de := de1) (sz := sz1) (ro := ro1) (co := co1) (mi := mi1) (T := T1) (B := B1) (df := df) hn hb hk h2
    rw [← eB3] at hk3
    generalize thX _ _ = a2 at hk3
    refine ⟨be3, de3, sz3, ro3, co3, mi3, T3, ?_⟩
    refine PX2_blame (Nat.le_of_ble_eq_true rfl) ?_
    intro G hT hC hR
    refine mB hT 2 rfl ?_
    refine hC.1 _ 0 [_] _ _ _ _ _ (c_isVersion_t (i := 0) hv hvs) rfl rfl (Nat.le_of_ble_eq_true rfl) rfl ?_
    refine mB hT 2 rfl ?_
    refine hC.2.1 _ [_] _ _ _ _ (c_isBasket_t hb) rfl (Nat.le_of_ble_eq_true rfl) rfl ?_
    refine mB hT 2 rfl ?_
    refine hC.2.2.1 _ [_] _ _ _ _ (c_isStuff_t hk) rfl (Nat.le_of_ble_eq_true rfl) rfl ?_
    refine mB hT 3 rfl ?_
    refine hC.2.2.2.1 _ 0 [_] _ _ _ _ _ (c_isMaking_t (i := 3) hi hn) rfl rfl (Nat.le_of_ble_eq_true rfl) rfl ?_
    refine mB hT 8 rfl ?_
    refine hC.2.2.2.2.1 _ 0 [_, _, _, _] _ _ _ _ _ (hk1) rfl rfl (Nat.le_of_ble_eq_true rfl) rfl ?_
    refine mB hT 6 rfl ?_
    refine hC.2.2.2.2.2 _ 0 [_, _, _, _] _ _ _ _ _ (hk3) rfl rfl (Nat.le_of_ble_eq_true rfl) rfl ?_
    refine mB hT 6 rfl ?_
    exact hR _ (by decide) _ _ _ rfl rfl
set_option maxRecDepth 20000 in
theorem x_blame_B_0_3 {n vs : Nat} {be de : Int64} {sz : Int32} {ro co mi : Nat → Int64} {T : Nat → Nat → Int64} {B : Nat → Nat → Nat → Int32} {hd : Nat → Nat → Int32} {df : Nat → Int32} (hv : 0 < vs) (hvs : vs ≤ 6) (hi : 3 < n) (hn : n ≤ 4) {b : Nat} (hb : b < 4) {k : Nat} (hk : k < 3) (h1 : ¬ detX n (lyT n ((cpX (cpX B 7 6 0 4) 7 0 4 4) 7) T) = 0) (h2a : ∀ T2 : Nat → Nat → Int64, detX n (lyT n ((cpX (cpX (cpX (cpX B 7 6 0 4) 7 0 4 4) 7 6 0 3) 7 0 3 4) 7) T2) = 0) : ∃ (be4 de4 : Int64) (sz4 : Int32) (ro4 co4 mi4 : Nat → Int64) (T4 : Nat → Nat → Int64), KX2_blame l D ca ad [.ref 0, .int 0, .int (Int32.ofNat b), .int (Int32.ofNat k), .int 3] (XW (Int32.ofNat n) (Int32.ofNat vs) be de sz ro co mi T B hd df) (some (.long (-9000000000000000004))) (XW (Int32.ofNat n) (Int32.ofNat vs) be4 de4 sz4 ro4 co4 mi4 T4 (cpX (cpX (cpX (cpX B 7 6 0 4) 7 0 4 4) 7 6 0 3) 7 0 3 4) hd df) := by
  obtain ⟨B1, eB⟩ : ∃ z, z = (cpX (cpX B 7 6 0 4) 7 0 4 4) := ⟨_, rfl⟩
  obtain ⟨B3, eB3⟩ : ∃ z, z = (cpX (cpX B1 7 6 0 3) 7 0 3 4) := ⟨_, rfl⟩
  rw [← eB] at h2a
  rw [← eB, ← eB3]
  obtain ⟨be1, de1, sz1, ro1, co1, mi1, T1, hk1⟩ := x_mixed_0_4 (l := l) (D := D) (ca := ca) (ad := ad) (vs := vs) (be := be) (de := de) (sz := sz) (ro := ro) (co := co) (mi := mi) (df := df) hn hb hk h1
  rw [← eB] at hk1
  generalize thX _ _ = a1 at hk1
  have h2 := h2a T1
  obtain ⟨be3, de3, sz3, ro3, co3, mi3, T3, hk3⟩ := x_mixed_B_0_3 (l := l) (D := D) (ca := ca) (ad := ad) (vs := vs) (be := be1) (de := de1) (sz := sz1) (ro := ro1) (co := co1) (mi := mi1) (T := T1) (B := B1) (df := df) hn hb hk h2
  rw [← eB3] at hk3
  refine ⟨be3, de3, sz3, ro3, co3, mi3, T3, ?_⟩
  refine PX2_blame (Nat.le_of_ble_eq_true rfl) ?_
  intro G hT hC hR
  refine mB hT 2 rfl ?_
  refine hC.1 _ 0 [_] _ _ _ _ _ (c_isVersion_t (i := 0) hv hvs) rfl rfl (Nat.le_of_ble_eq_true rfl) rfl ?_
  refine mB hT 2 rfl ?_
  refine hC.2.1 _ [_] _ _ _ _ (c_isBasket_t hb) rfl (Nat.le_of_ble_eq_true rfl) rfl ?_
  refine mB hT 2 rfl ?_
  refine hC.2.2.1 _ [_] _ _ _ _ (c_isStuff_t hk) rfl (Nat.le_of_ble_eq_true rfl) rfl ?_
  refine mB hT 3 rfl ?_
  refine hC.2.2.2.1 _ 0 [_] _ _ _ _ _ (c_isMaking_t (i := 3) hi hn) rfl rfl (Nat.le_of_ble_eq_true rfl) rfl ?_
  refine mB hT 8 rfl ?_
  refine hC.2.2.2.2.1 _ 0 [_, _, _, _] _ _ _ _ _ (hk1) rfl rfl (Nat.le_of_ble_eq_true rfl) rfl ?_
  refine mB hT 6 rfl ?_
  refine hC.2.2.2.2.2 _ 0 [_, _, _, _] _ _ _ _ _ (hk3) rfl rfl (Nat.le_of_ble_eq_true rfl) rfl ?_
  refine mB hT 5 rfl ?_
  refine mIf (fun h1 => ?_) (fun h1 => ?_)
  · refine mNf (lv2 := [(7, .long (-9000000000000000004)), (5, .long a1), (0, .ref 0), (1, .int 0), (2, .int (Int32.ofNat b)), (3, .int (Int32.ofNat k)), (4, .int 3)]) (st2 := []) rfl rfl ?_
    refine mB hT 1 rfl ?_
    exact hR _ (by decide) _ _ _ rfl rfl
  · refine mNf (lv2 := [(7, .long (-9000000000000000004)), (5, .long a1), (0, .ref 0), (1, .int 0), (2, .int (Int32.ofNat b)), (3, .int (Int32.ofNat k)), (4, .int 3)]) (st2 := []) rfl rfl ?_
    refine mB hT 5 rfl ?_
    exact hR _ (by decide) _ _ _ rfl rfl
set_option maxRecDepth 20000 in
theorem x_blame_C_0_3 {n vs : Nat} {be de : Int64} {sz : Int32} {ro co mi : Nat → Int64} {T : Nat → Nat → Int64} {B : Nat → Nat → Nat → Int32} {hd : Nat → Nat → Int32} {df : Nat → Int32} (hv : 0 < vs) (hvs : vs ≤ 6) (hi : 3 < n) (hn : n ≤ 4) {b : Nat} (hb : b < 4) {k : Nat} (hk : k < 3) (h1 : ¬ detX n (lyT n ((cpX (cpX B 7 6 0 4) 7 0 4 4) 7) T) = 0) (h2a : ∀ T2 : Nat → Nat → Int64, ¬ detX n (lyT n ((cpX (cpX (cpX (cpX B 7 6 0 4) 7 0 4 4) 7 6 0 3) 7 0 3 4) 7) T2) = 0) (ha : ¬ (thX (smX n ((cpX (cpX B 7 6 0 4) 7 0 4 4) 7) (roX n (lyT n ((cpX (cpX B 7 6 0 4) 7 0 4 4) 7) T) (hd b) ro) k 1) (absX (detX n (lyT n ((cpX (cpX B 7 6 0 4) 7 0 4 4) 7) T)))) = -9000000000000000004) (hb2 : ∀ (T2 : Nat → Nat → Int64) (ro2 : Nat → Int64), ¬ (thX (smX n ((cpX (cpX (cpX (cpX B 7 6 0 4) 7 0 4 4) 7 6 0 3) 7 0 3 4) 7) (roX n (lyT n ((cpX (cpX (cpX (cpX B 7 6 0 4) 7 0 4 4) 7 6 0 3) 7 0 3 4) 7) T2) (hd b) ro2) k 1) (absX (detX n (lyT n ((cpX (cpX (cpX (cpX B 7 6 0 4) 7 0 4 4) 7 6 0 3) 7 0 3 4) 7) T2)))) = -9000000000000000004) : ∃ (T2 : Nat → Nat → Int64) (ro2 : Nat → Int64), ∃ (be4 de4 : Int64) (sz4 : Int32) (ro4 co4 mi4 : Nat → Int64) (T4 : Nat → Nat → Int64), KX2_blame l D ca ad [.ref 0, .int 0, .int (Int32.ofNat b), .int (Int32.ofNat k), .int 3] (XW (Int32.ofNat n) (Int32.ofNat vs) be de sz ro co mi T B hd df) (some (.long ((thX (smX n ((cpX (cpX B 7 6 0 4) 7 0 4 4) 7) (roX n (lyT n ((cpX (cpX B 7 6 0 4) 7 0 4 4) 7) T) (hd b) ro) k 1) (absX (detX n (lyT n ((cpX (cpX B 7 6 0 4) 7 0 4 4) 7) T)))) - (thX (smX n ((cpX (cpX (cpX (cpX B 7 6 0 4) 7 0 4 4) 7 6 0 3) 7 0 3 4) 7) (roX n (lyT n ((cpX (cpX (cpX (cpX B 7 6 0 4) 7 0 4 4) 7 6 0 3) 7 0 3 4) 7) T2) (hd b) ro2) k 1) (absX (detX n (lyT n ((cpX (cpX (cpX (cpX B 7 6 0 4) 7 0 4 4) 7 6 0 3) 7 0 3 4) 7) T2))))))) (XW (Int32.ofNat n) (Int32.ofNat vs) be4 de4 sz4 ro4 co4 mi4 T4 (cpX (cpX (cpX (cpX B 7 6 0 4) 7 0 4 4) 7 6 0 3) 7 0 3 4) hd df) := by
  obtain ⟨B1, eB⟩ : ∃ z, z = (cpX (cpX B 7 6 0 4) 7 0 4 4) := ⟨_, rfl⟩
  obtain ⟨B3, eB3⟩ : ∃ z, z = (cpX (cpX B1 7 6 0 3) 7 0 3 4) := ⟨_, rfl⟩
  obtain ⟨be1, de1, sz1, ro1, co1, mi1, T1, hk1⟩ := x_mixed_0_4 (l := l) (D := D) (ca := ca) (ad := ad) (vs := vs) (be := be) (de := de) (sz := sz) (ro := ro) (co := co) (mi := mi) (df := df) hn hb hk h1
  refine ⟨T1, ro1, ?_⟩
  have hb3 := hb2 T1 ro1
  rw [← eB] at h2a hk1 hb3
  rw [← eB, ← eB3]
  have h2 := h2a T1
  obtain ⟨be3, de3, sz3, ro3, co3, mi3, T3, hk3⟩ := x_mixed_0_3 (l := l) (D := D) (ca := ca) (ad := ad) (vs := vs) (be := be1) (de := de1) (sz := sz1) (ro := ro1) (co := co1) (mi := mi1) (T := T1) (B := B1) (df := df) hn hb hk h2
  rw [← eB3] at hk3
  rw [← eB3] at hb3
  rw [← eB] at ha
  obtain ⟨a1, ea1⟩ : ∃ z, z = (thX (smX n (B1 7) (roX n (lyT n (B1 7) T) (hd b) ro) k 1) (absX (detX n (lyT n (B1 7) T)))) := ⟨_, rfl⟩
  obtain ⟨a2, ea2⟩ : ∃ z, z = (thX (smX n (B3 7) (roX n (lyT n (B3 7) T1) (hd b) ro1) k 1) (absX (detX n (lyT n (B3 7) T1)))) := ⟨_, rfl⟩
  rw [← ea1] at hk1 ha ⊢
  rw [← ea2] at hk3 hb3 ⊢
  refine ⟨be3, de3, sz3, ro3, co3, mi3, T3, ?_⟩
  refine PX2_blame (Nat.le_of_ble_eq_true rfl) ?_
  intro G hT hC hR
  refine mB hT 2 rfl ?_
  refine hC.1 _ 0 [_] _ _ _ _ _ (c_isVersion_t (i := 0) hv hvs) rfl rfl (Nat.le_of_ble_eq_true rfl) rfl ?_
  refine mB hT 2 rfl ?_
  refine hC.2.1 _ [_] _ _ _ _ (c_isBasket_t hb) rfl (Nat.le_of_ble_eq_true rfl) rfl ?_
  refine mB hT 2 rfl ?_
  refine hC.2.2.1 _ [_] _ _ _ _ (c_isStuff_t hk) rfl (Nat.le_of_ble_eq_true rfl) rfl ?_
  refine mB hT 3 rfl ?_
  refine hC.2.2.2.1 _ 0 [_] _ _ _ _ _ (c_isMaking_t (i := 3) hi hn) rfl rfl (Nat.le_of_ble_eq_true rfl) rfl ?_
  refine mB hT 8 rfl ?_
  refine hC.2.2.2.2.1 _ 0 [_, _, _, _] _ _ _ _ _ (hk1) rfl rfl (Nat.le_of_ble_eq_true rfl) rfl ?_
  refine mB hT 6 rfl ?_
  refine hC.2.2.2.2.2 _ 0 [_, _, _, _] _ _ _ _ _ (hk3) rfl rfl (Nat.le_of_ble_eq_true rfl) rfl ?_
  refine mB hT 5 rfl ?_
  refine mIf (fun hp => absurd hp (fun q => ha (lc_eq.mp q))) (fun _ => ?_)
  refine mNf (lv2 := [(7, .long a2), (5, .long a1), (0, .ref 0), (1, .int 0), (2, .int (Int32.ofNat b)), (3, .int (Int32.ofNat k)), (4, .int 3)]) (st2 := []) rfl rfl ?_
  refine mB hT 4 rfl ?_
  refine mIf (fun hp => absurd hp (fun q => hb3 (lc_eq.mp q))) (fun _ => ?_)
  refine mB hT 3 rfl ?_
  exact hR _ (by decide) _ _ _ rfl rfl
set_option maxRecDepth 20000 in
theorem x_blame_A_1_0 {n vs : Nat} {be de : Int64} {sz : Int32} {ro co mi : Nat → Int64} {T : Nat → Nat → Int64} {B : Nat → Nat → Nat → Int32} {hd : Nat → Nat → Int32} {df : Nat → Int32} (hv : 1 < vs) (hvs : vs ≤ 6) (hi : 0 < n) (hn : n ≤ 4) {b : Nat} (hb : b < 4) {k : Nat} (hk : k < 3) (h1 : detX n (lyT n ((cpX (cpX B 7 6 0 1) 7 1 1 4) 7) T) = 0) : ∃ (be4 de4 : Int64) (sz4 : Int32) (ro4 co4 mi4 : Nat → Int64) (T4 : Nat → Nat → Int64), KX2_blame l D ca ad [.ref 0, .int 1, .int (Int32.ofNat b), .int (Int32.ofNat k), .int 0] (XW (Int32.ofNat n) (Int32.ofNat vs) be de sz ro co mi T B hd df) (some (.long (-9000000000000000004))) (XW (Int32.ofNat n) (Int32.ofNat vs) be4 de4 sz4 ro4 co4 mi4 T4 (cpX (cpX (cpX (cpX B 7 6 0 1) 7 1 1 4) 7 6 0 0) 7 1 0 4) hd df) := by
  obtain ⟨B1, eB⟩ : ∃ z, z = (cpX (cpX B 7 6 0 1) 7 1 1 4) := ⟨_, rfl⟩
  obtain ⟨B3, eB3⟩ : ∃ z, z = (cpX (cpX B1 7 6 0 0) 7 1 0 4) := ⟨_, rfl⟩
  rw [← eB, ← eB3]
  obtain ⟨be1, de1, sz1, ro1, co1, mi1, T1, hk1⟩ := x_mixed_B_1_1 (l := l) (D := D) (ca := ca) (ad := ad) (vs := vs) (be := be) (de := de) (sz := sz) (ro := ro) (co := co) (mi := mi) (df := df) hn hb hk h1
  rw [← eB] at hk1
  by_cases h2 : detX n (lyT n ((cpX (cpX B1 7 6 0 0) 7 1 0 4) 7) T1) = 0
  · obtain ⟨be3, de3, sz3, ro3, co3, mi3, T3, hk3⟩ := x_mixed_B_1_0 (l := l) (D := D) (ca := ca) (ad := ad) (vs := vs) (be := be1) (de := de1) (sz := sz1) (ro := ro1) (co := co1) (mi := mi1) (T := T1) (B := B1) (df := df) hn hb hk h2
    rw [← eB3] at hk3
    refine ⟨be3, de3, sz3, ro3, co3, mi3, T3, ?_⟩
    refine PX2_blame (Nat.le_of_ble_eq_true rfl) ?_
    intro G hT hC hR
    refine mB hT 2 rfl ?_
    refine hC.1 _ 0 [_] _ _ _ _ _ (c_isVersion_t (i := 1) hv hvs) rfl rfl (Nat.le_of_ble_eq_true rfl) rfl ?_
    refine mB hT 2 rfl ?_
    refine hC.2.1 _ [_] _ _ _ _ (c_isBasket_t hb) rfl (Nat.le_of_ble_eq_true rfl) rfl ?_
    refine mB hT 2 rfl ?_
    refine hC.2.2.1 _ [_] _ _ _ _ (c_isStuff_t hk) rfl (Nat.le_of_ble_eq_true rfl) rfl ?_
    refine mB hT 3 rfl ?_
    refine hC.2.2.2.1 _ 0 [_] _ _ _ _ _ (c_isMaking_t (i := 0) hi hn) rfl rfl (Nat.le_of_ble_eq_true rfl) rfl ?_
    refine mB hT 8 rfl ?_
    refine hC.2.2.2.2.1 _ 0 [_, _, _, _] _ _ _ _ _ (hk1) rfl rfl (Nat.le_of_ble_eq_true rfl) rfl ?_
    refine mB hT 6 rfl ?_
    refine hC.2.2.2.2.2 _ 0 [_, _, _, _] _ _ _ _ _ (hk3) rfl rfl (Nat.le_of_ble_eq_true rfl) rfl ?_
    refine mB hT 6 rfl ?_
    exact hR _ (by decide) _ _ _ rfl rfl
  · obtain ⟨be3, de3, sz3, ro3, co3, mi3, T3, hk3⟩ := x_mixed_1_0 (l := l) (D := D) (ca := ca) (ad := ad) (vs := vs) (be := be1) (de := de1) (sz := sz1) (ro := ro1) (co := co1) (mi := mi1) (T := T1) (B := B1) (df := df) hn hb hk h2
    rw [← eB3] at hk3
    generalize thX _ _ = a2 at hk3
    refine ⟨be3, de3, sz3, ro3, co3, mi3, T3, ?_⟩
    refine PX2_blame (Nat.le_of_ble_eq_true rfl) ?_
    intro G hT hC hR
    refine mB hT 2 rfl ?_
    refine hC.1 _ 0 [_] _ _ _ _ _ (c_isVersion_t (i := 1) hv hvs) rfl rfl (Nat.le_of_ble_eq_true rfl) rfl ?_
    refine mB hT 2 rfl ?_
    refine hC.2.1 _ [_] _ _ _ _ (c_isBasket_t hb) rfl (Nat.le_of_ble_eq_true rfl) rfl ?_
    refine mB hT 2 rfl ?_
    refine hC.2.2.1 _ [_] _ _ _ _ (c_isStuff_t hk) rfl (Nat.le_of_ble_eq_true rfl) rfl ?_
    refine mB hT 3 rfl ?_
    refine hC.2.2.2.1 _ 0 [_] _ _ _ _ _ (c_isMaking_t (i := 0) hi hn) rfl rfl (Nat.le_of_ble_eq_true rfl) rfl ?_
    refine mB hT 8 rfl ?_
    refine hC.2.2.2.2.1 _ 0 [_, _, _, _] _ _ _ _ _ (hk1) rfl rfl (Nat.le_of_ble_eq_true rfl) rfl ?_
    refine mB hT 6 rfl ?_
    refine hC.2.2.2.2.2 _ 0 [_, _, _, _] _ _ _ _ _ (hk3) rfl rfl (Nat.le_of_ble_eq_true rfl) rfl ?_
    refine mB hT 6 rfl ?_
    exact hR _ (by decide) _ _ _ rfl rfl
set_option maxRecDepth 20000 in
theorem x_blame_B_1_0 {n vs : Nat} {be de : Int64} {sz : Int32} {ro co mi : Nat → Int64} {T : Nat → Nat → Int64} {B : Nat → Nat → Nat → Int32} {hd : Nat → Nat → Int32} {df : Nat → Int32} (hv : 1 < vs) (hvs : vs ≤ 6) (hi : 0 < n) (hn : n ≤ 4) {b : Nat} (hb : b < 4) {k : Nat} (hk : k < 3) (h1 : ¬ detX n (lyT n ((cpX (cpX B 7 6 0 1) 7 1 1 4) 7) T) = 0) (h2a : ∀ T2 : Nat → Nat → Int64, detX n (lyT n ((cpX (cpX (cpX (cpX B 7 6 0 1) 7 1 1 4) 7 6 0 0) 7 1 0 4) 7) T2) = 0) : ∃ (be4 de4 : Int64) (sz4 : Int32) (ro4 co4 mi4 : Nat → Int64) (T4 : Nat → Nat → Int64), KX2_blame l D ca ad [.ref 0, .int 1, .int (Int32.ofNat b), .int (Int32.ofNat k), .int 0] (XW (Int32.ofNat n) (Int32.ofNat vs) be de sz ro co mi T B hd df) (some (.long (-9000000000000000004))) (XW (Int32.ofNat n) (Int32.ofNat vs) be4 de4 sz4 ro4 co4 mi4 T4 (cpX (cpX (cpX (cpX B 7 6 0 1) 7 1 1 4) 7 6 0 0) 7 1 0 4) hd df) := by
  obtain ⟨B1, eB⟩ : ∃ z, z = (cpX (cpX B 7 6 0 1) 7 1 1 4) := ⟨_, rfl⟩
  obtain ⟨B3, eB3⟩ : ∃ z, z = (cpX (cpX B1 7 6 0 0) 7 1 0 4) := ⟨_, rfl⟩
  rw [← eB] at h2a
  rw [← eB, ← eB3]
  obtain ⟨be1, de1, sz1, ro1, co1, mi1, T1, hk1⟩ := x_mixed_1_1 (l := l) (D := D) (ca := ca) (ad := ad) (vs := vs) (be := be) (de := de) (sz := sz) (ro := ro) (co := co) (mi := mi) (df := df) hn hb hk h1
  rw [← eB] at hk1
  generalize thX _ _ = a1 at hk1
  have h2 := h2a T1
  obtain ⟨be3, de3, sz3, ro3, co3, mi3, T3, hk3⟩ := x_mixed_B_1_0 (l := l) (D := D) (ca := ca) (ad := ad) (vs := vs) (be := be1) (de := de1) (sz := sz1) (ro := ro1) (co := co1) (mi := mi1) (T := T1) (B := B1) (df := df) hn hb hk h2
  rw [← eB3] at hk3
  refine ⟨be3, de3, sz3, ro3, co3, mi3, T3, ?_⟩
  refine PX2_blame (Nat.le_of_ble_eq_true rfl) ?_
  intro G hT hC hR
  refine mB hT 2 rfl ?_
  refine hC.1 _ 0 [_] _ _ _ _ _ (c_isVersion_t (i := 1) hv hvs) rfl rfl (Nat.le_of_ble_eq_true rfl) rfl ?_
  refine mB hT 2 rfl ?_
  refine hC.2.1 _ [_] _ _ _ _ (c_isBasket_t hb) rfl (Nat.le_of_ble_eq_true rfl) rfl ?_
  refine mB hT 2 rfl ?_
  refine hC.2.2.1 _ [_] _ _ _ _ (c_isStuff_t hk) rfl (Nat.le_of_ble_eq_true rfl) rfl ?_
  refine mB hT 3 rfl ?_
  refine hC.2.2.2.1 _ 0 [_] _ _ _ _ _ (c_isMaking_t (i := 0) hi hn) rfl rfl (Nat.le_of_ble_eq_true rfl) rfl ?_
  refine mB hT 8 rfl ?_
  refine hC.2.2.2.2.1 _ 0 [_, _, _, _] _ _ _ _ _ (hk1) rfl rfl (Nat.le_of_ble_eq_true rfl) rfl ?_
  refine mB hT 6 rfl ?_
  refine hC.2.2.2.2.2 _ 0 [_, _, _, _] _ _ _ _ _ (hk3) rfl rfl (Nat.le_of_ble_eq_true rfl) rfl ?_
  refine mB hT 5 rfl ?_
  refine mIf (fun h1 => ?_) (fun h1 => ?_)
  · refine mNf (lv2 := [(7, .long (-9000000000000000004)), (5, .long a1), (0, .ref 0), (1, .int 1), (2, .int (Int32.ofNat b)), (3, .int (Int32.ofNat k)), (4, .int 0)]) (st2 := []) rfl rfl ?_
    refine mB hT 1 rfl ?_
    exact hR _ (by decide) _ _ _ rfl rfl
  · refine mNf (lv2 := [(7, .long (-9000000000000000004)), (5, .long a1), (0, .ref 0), (1, .int 1), (2, .int (Int32.ofNat b)), (3, .int (Int32.ofNat k)), (4, .int 0)]) (st2 := []) rfl rfl ?_
    refine mB hT 5 rfl ?_
    exact hR _ (by decide) _ _ _ rfl rfl
set_option maxRecDepth 20000 in
theorem x_blame_C_1_0 {n vs : Nat} {be de : Int64} {sz : Int32} {ro co mi : Nat → Int64} {T : Nat → Nat → Int64} {B : Nat → Nat → Nat → Int32} {hd : Nat → Nat → Int32} {df : Nat → Int32} (hv : 1 < vs) (hvs : vs ≤ 6) (hi : 0 < n) (hn : n ≤ 4) {b : Nat} (hb : b < 4) {k : Nat} (hk : k < 3) (h1 : ¬ detX n (lyT n ((cpX (cpX B 7 6 0 1) 7 1 1 4) 7) T) = 0) (h2a : ∀ T2 : Nat → Nat → Int64, ¬ detX n (lyT n ((cpX (cpX (cpX (cpX B 7 6 0 1) 7 1 1 4) 7 6 0 0) 7 1 0 4) 7) T2) = 0) (ha : ¬ (thX (smX n ((cpX (cpX B 7 6 0 1) 7 1 1 4) 7) (roX n (lyT n ((cpX (cpX B 7 6 0 1) 7 1 1 4) 7) T) (hd b) ro) k 1) (absX (detX n (lyT n ((cpX (cpX B 7 6 0 1) 7 1 1 4) 7) T)))) = -9000000000000000004) (hb2 : ∀ (T2 : Nat → Nat → Int64) (ro2 : Nat → Int64), ¬ (thX (smX n ((cpX (cpX (cpX (cpX B 7 6 0 1) 7 1 1 4) 7 6 0 0) 7 1 0 4) 7) (roX n (lyT n ((cpX (cpX (cpX (cpX B 7 6 0 1) 7 1 1 4) 7 6 0 0) 7 1 0 4) 7) T2) (hd b) ro2) k 1) (absX (detX n (lyT n ((cpX (cpX (cpX (cpX B 7 6 0 1) 7 1 1 4) 7 6 0 0) 7 1 0 4) 7) T2)))) = -9000000000000000004) : ∃ (T2 : Nat → Nat → Int64) (ro2 : Nat → Int64), ∃ (be4 de4 : Int64) (sz4 : Int32) (ro4 co4 mi4 : Nat → Int64) (T4 : Nat → Nat → Int64), KX2_blame l D ca ad [.ref 0, .int 1, .int (Int32.ofNat b), .int (Int32.ofNat k), .int 0] (XW (Int32.ofNat n) (Int32.ofNat vs) be de sz ro co mi T B hd df) (some (.long ((thX (smX n ((cpX (cpX B 7 6 0 1) 7 1 1 4) 7) (roX n (lyT n ((cpX (cpX B 7 6 0 1) 7 1 1 4) 7) T) (hd b) ro) k 1) (absX (detX n (lyT n ((cpX (cpX B 7 6 0 1) 7 1 1 4) 7) T)))) - (thX (smX n ((cpX (cpX (cpX (cpX B 7 6 0 1) 7 1 1 4) 7 6 0 0) 7 1 0 4) 7) (roX n (lyT n ((cpX (cpX (cpX (cpX B 7 6 0 1) 7 1 1 4) 7 6 0 0) 7 1 0 4) 7) T2) (hd b) ro2) k 1) (absX (detX n (lyT n ((cpX (cpX (cpX (cpX B 7 6 0 1) 7 1 1 4) 7 6 0 0) 7 1 0 4) 7) T2))))))) (XW (Int32.ofNat n) (Int32.ofNat vs) be4 de4 sz4 ro4 co4 mi4 T4 (cpX (cpX (cpX (cpX B 7 6 0 1) 7 1 1 4) 7 6 0 0) 7 1 0 4) hd df) := by
  obtain ⟨B1, eB⟩ : ∃ z, z = (cpX (cpX B 7 6 0 1) 7 1 1 4) := ⟨_, rfl⟩
  obtain ⟨B3, eB3⟩ : ∃ z, z = (cpX (cpX B1 7 6 0 0) 7 1 0 4) := ⟨_, rfl⟩
  obtain ⟨be1, de1, sz1, ro1, co1, mi1, T1, hk1⟩ := x_mixed_1_1 (l := l) (D := D) (ca := ca) (ad := ad) (vs := vs) (be := be) (de := de) (sz := sz) (ro := ro) (co := co) (mi := mi) (df := df) hn hb hk h1
  refine ⟨T1, ro1, ?_⟩
  have hb3 := hb2 T1 ro1
  rw [← eB] at h2a hk1 hb3
  rw [← eB, ← eB3]
  have h2 := h2a T1
  obtain ⟨be3, de3, sz3, ro3, co3, mi3, T3, hk3⟩ := x_mixed_1_0 (l := l) (D := D) (ca := ca) (ad := ad) (vs := vs) (be := be1) (de := de1) (sz := sz1) (ro := ro1) (co := co1) (mi := mi1) (T := T1) (B := B1) (df := df) hn hb hk h2
  rw [← eB3] at hk3
  rw [← eB3] at hb3
  rw [← eB] at ha
  obtain ⟨a1, ea1⟩ : ∃ z, z = (thX (smX n (B1 7) (roX n (lyT n (B1 7) T) (hd b) ro) k 1) (absX (detX n (lyT n (B1 7) T)))) := ⟨_, rfl⟩
  obtain ⟨a2, ea2⟩ : ∃ z, z = (thX (smX n (B3 7) (roX n (lyT n (B3 7) T1) (hd b) ro1) k 1) (absX (detX n (lyT n (B3 7) T1)))) := ⟨_, rfl⟩
  rw [← ea1] at hk1 ha ⊢
  rw [← ea2] at hk3 hb3 ⊢
  refine ⟨be3, de3, sz3, ro3, co3, mi3, T3, ?_⟩
  refine PX2_blame (Nat.le_of_ble_eq_true rfl) ?_
  intro G hT hC hR
  refine mB hT 2 rfl ?_
  refine hC.1 _ 0 [_] _ _ _ _ _ (c_isVersion_t (i := 1) hv hvs) rfl rfl (Nat.le_of_ble_eq_true rfl) rfl ?_
  refine mB hT 2 rfl ?_
  refine hC.2.1 _ [_] _ _ _ _ (c_isBasket_t hb) rfl (Nat.le_of_ble_eq_true rfl) rfl ?_
  refine mB hT 2 rfl ?_
  refine hC.2.2.1 _ [_] _ _ _ _ (c_isStuff_t hk) rfl (Nat.le_of_ble_eq_true rfl) rfl ?_
  refine mB hT 3 rfl ?_
  refine hC.2.2.2.1 _ 0 [_] _ _ _ _ _ (c_isMaking_t (i := 0) hi hn) rfl rfl (Nat.le_of_ble_eq_true rfl) rfl ?_
  refine mB hT 8 rfl ?_
  refine hC.2.2.2.2.1 _ 0 [_, _, _, _] _ _ _ _ _ (hk1) rfl rfl (Nat.le_of_ble_eq_true rfl) rfl ?_
  refine mB hT 6 rfl ?_
  refine hC.2.2.2.2.2 _ 0 [_, _, _, _] _ _ _ _ _ (hk3) rfl rfl (Nat.le_of_ble_eq_true rfl) rfl ?_
  refine mB hT 5 rfl ?_
  refine mIf (fun hp => absurd hp (fun q => ha (lc_eq.mp q))) (fun _ => ?_)
  refine mNf (lv2 := [(7, .long a2), (5, .long a1), (0, .ref 0), (1, .int 1), (2, .int (Int32.ofNat b)), (3, .int (Int32.ofNat k)), (4, .int 0)]) (st2 := []) rfl rfl ?_
  refine mB hT 4 rfl ?_
  refine mIf (fun hp => absurd hp (fun q => hb3 (lc_eq.mp q))) (fun _ => ?_)
  refine mB hT 3 rfl ?_
  exact hR _ (by decide) _ _ _ rfl rfl
set_option maxRecDepth 20000 in
theorem x_blame_A_1_1 {n vs : Nat} {be de : Int64} {sz : Int32} {ro co mi : Nat → Int64} {T : Nat → Nat → Int64} {B : Nat → Nat → Nat → Int32} {hd : Nat → Nat → Int32} {df : Nat → Int32} (hv : 1 < vs) (hvs : vs ≤ 6) (hi : 1 < n) (hn : n ≤ 4) {b : Nat} (hb : b < 4) {k : Nat} (hk : k < 3) (h1 : detX n (lyT n ((cpX (cpX B 7 6 0 2) 7 1 2 4) 7) T) = 0) : ∃ (be4 de4 : Int64) (sz4 : Int32) (ro4 co4 mi4 : Nat → Int64) (T4 : Nat → Nat → Int64), KX2_blame l D ca ad [.ref 0, .int 1, .int (Int32.ofNat b), .int (Int32.ofNat k), .int 1] (XW (Int32.ofNat n) (Int32.ofNat vs) be de sz ro co mi T B hd df) (some (.long (-9000000000000000004))) (XW (Int32.ofNat n) (Int32.ofNat vs) be4 de4 sz4 ro4 co4 mi4 T4 (cpX (cpX (cpX (cpX B 7 6 0 2) 7 1 2 4) 7 6 0 1) 7 1 1 4) hd df) := by
  obtain ⟨B1, eB⟩ : ∃ z, z = (cpX (cpX B 7 6 0 2) 7 1 2 4) := ⟨_, rfl⟩
  obtain ⟨B3, eB3⟩ : ∃ z, z = (cpX (cpX B1 7 6 0 1) 7 1 1 4) := ⟨_, rfl⟩
  rw [← eB, ← eB3]
  obtain ⟨be1, de1, sz1, ro1, co1, mi1, T1, hk1⟩ := x_mixed_B_1_2 (l := l) (D := D) (ca := ca) (ad := ad) (vs := vs) (be := be) (de := de) (sz := sz) (ro := ro) (co := co) (mi := mi) (df := df) hn hb hk h1
  rw [← eB] at hk1
  by_cases h2 : detX n (lyT n ((cpX (cpX B1 7 6 0 1) 7 1 1 4) 7) T1) = 0
  · obtain ⟨be3, de3, sz3, ro3, co3, mi3, T3, hk3⟩ := x_mixed_B_1_1 (l := l) (D := D) (ca := ca) (ad := ad) (vs := vs) (be := be1) (de := de1) (sz := sz1) (ro := ro1) (co := co1) (mi := mi1) (T := T1) (B := B1) (df := df) hn hb hk h2
    rw [← eB3] at hk3
    refine ⟨be3, de3, sz3, ro3, co3, mi3, T3, ?_⟩
    refine PX2_blame (Nat.le_of_ble_eq_true rfl) ?_
    intro G hT hC hR
    refine mB hT 2 rfl ?_
    refine hC.1 _ 0 [_] _ _ _ _ _ (c_isVersion_t (i := 1) hv hvs) rfl rfl (Nat.le_of_ble_eq_true rfl) rfl ?_
    refine mB hT 2 rfl ?_
    refine hC.2.1 _ [_] _ _ _ _ (c_isBasket_t hb) rfl (Nat.le_of_ble_eq_true rfl) rfl ?_
    refine mB hT 2 rfl ?_
    refine hC.2.2.1 _ [_] _ _ _ _ (c_isStuff_t hk) rfl (Nat.le_of_ble_eq_true rfl) rfl ?_
    refine mB hT 3 rfl ?_
    refine hC.2.2.2.1 _ 0 [_] _ _ _ _ _ (c_isMaking_t (i := 1) hi hn) rfl rfl (Nat.le_of_ble_eq_true rfl) rfl ?_
    refine mB hT 8 rfl ?_
    refine hC.2.2.2.2.1 _ 0 [_, _, _, _] _ _ _ _ _ (hk1) rfl rfl (Nat.le_of_ble_eq_true rfl) rfl ?_
    refine mB hT 6 rfl ?_
    refine hC.2.2.2.2.2 _ 0 [_, _, _, _] _ _ _ _ _ (hk3) rfl rfl (Nat.le_of_ble_eq_true rfl) rfl ?_
    refine mB hT 6 rfl ?_
    exact hR _ (by decide) _ _ _ rfl rfl
  · obtain ⟨be3, de3, sz3, ro3, co3, mi3, T3, hk3⟩ := x_mixed_1_1 (l := l) (D := D) (ca := ca) (ad := ad) (vs := vs) (be := be1) (de := de1) (sz := sz1) (ro := ro1) (co := co1) (mi := mi1) (T := T1) (B := B1) (df := df) hn hb hk h2
    rw [← eB3] at hk3
    generalize thX _ _ = a2 at hk3
    refine ⟨be3, de3, sz3, ro3, co3, mi3, T3, ?_⟩
    refine PX2_blame (Nat.le_of_ble_eq_true rfl) ?_
    intro G hT hC hR
    refine mB hT 2 rfl ?_
    refine hC.1 _ 0 [_] _ _ _ _ _ (c_isVersion_t (i := 1) hv hvs) rfl rfl (Nat.le_of_ble_eq_true rfl) rfl ?_
    refine mB hT 2 rfl ?_
    refine hC.2.1 _ [_] _ _ _ _ (c_isBasket_t hb) rfl (Nat.le_of_ble_eq_true rfl) rfl ?_
    refine mB hT 2 rfl ?_
    refine hC.2.2.1 _ [_] _ _ _ _ (c_isStuff_t hk) rfl (Nat.le_of_ble_eq_true rfl) rfl ?_
    refine mB hT 3 rfl ?_
    refine hC.2.2.2.1 _ 0 [_] _ _ _ _ _ (c_isMaking_t (i := 1) hi hn) rfl rfl (Nat.le_of_ble_eq_true rfl) rfl ?_
    refine mB hT 8 rfl ?_
    refine hC.2.2.2.2.1 _ 0 [_, _, _, _] _ _ _ _ _ (hk1) rfl rfl (Nat.le_of_ble_eq_true rfl) rfl ?_
    refine mB hT 6 rfl ?_
    refine hC.2.2.2.2.2 _ 0 [_, _, _, _] _ _ _ _ _ (hk3) rfl rfl (Nat.le_of_ble_eq_true rfl) rfl ?_
    refine mB hT 6 rfl ?_
    exact hR _ (by decide) _ _ _ rfl rfl
set_option maxRecDepth 20000 in
theorem x_blame_B_1_1 {n vs : Nat} {be de : Int64} {sz : Int32} {ro co mi : Nat → Int64} {T : Nat → Nat → Int64} {B : Nat → Nat → Nat → Int32} {hd : Nat → Nat → Int32} {df : Nat → Int32} (hv : 1 < vs) (hvs : vs ≤ 6) (hi : 1 < n) (hn : n ≤ 4) {b : Nat} (hb : b < 4) {k : Nat} (hk : k < 3) (h1 : ¬ detX n (lyT n ((cpX (cpX B 7 6 0 2) 7 1 2 4) 7) T) = 0) (h2a : ∀ T2 : Nat → Nat → Int64, detX n (lyT n ((cpX (cpX (cpX (cpX B 7 6 0 2) 7 1 2 4) 7 6 0 1) 7 1 1 4) 7) T2) = 0) : ∃ (be4 de4 : Int64) (sz4 : Int32) (ro4 co4 mi4 : Nat → Int64) (T4 : Nat → Nat → Int64), KX2_blame l D ca ad [.ref 0, .int 1, .int (Int32.ofNat b), .int (Int32.ofNat k), .int 1] (XW (Int32.ofNat n) (Int32.ofNat vs) be de sz ro co mi T B hd df) (some (.long (-9000000000000000004))) (XW (Int32.ofNat n) (Int32.ofNat vs) be4 de4 sz4 ro4 co4 mi4 T4 (cpX (cpX (cpX (cpX B 7 6 0 2) 7 1 2 4) 7 6 0 1) 7 1 1 4) hd df) := by
  obtain ⟨B1, eB⟩ : ∃ z, z = (cpX (cpX B 7 6 0 2) 7 1 2 4) := ⟨_, rfl⟩
  obtain ⟨B3, eB3⟩ : ∃ z, z = (cpX (cpX B1 7 6 0 1) 7 1 1 4) := ⟨_, rfl⟩
  rw [← eB] at h2a
  rw [← eB, ← eB3]
  obtain ⟨be1, de1, sz1, ro1, co1, mi1, T1, hk1⟩ := x_mixed_1_2 (l := l) (D := D) (ca := ca) (ad := ad) (vs := vs) (be := be) (de := de) (sz := sz) (ro := ro) (co := co) (mi := mi) (df := df) hn hb hk h1
  rw [← eB] at hk1
  generalize thX _ _ = a1 at hk1
  have h2 := h2a T1
  obtain ⟨be3, de3, sz3, ro3, co3, mi3, T3, hk3⟩ := x_mixed_B_1_1 (l := l) (D := D) (ca := ca) (ad := ad) (vs := vs) (be := be1) (de := de1) (sz := sz1) (ro := ro1) (co := co1) (mi := mi1) (T := T1) (B := B1) (df := df) hn hb hk h2
  rw [← eB3] at hk3
  refine ⟨be3, de3, sz3, ro3, co3, mi3, T3, ?_⟩
  refine PX2_blame (Nat.le_of_ble_eq_true rfl) ?_
  intro G hT hC hR
  refine mB hT 2 rfl ?_
  refine hC.1 _ 0 [_] _ _ _ _ _ (c_isVersion_t (i := 1) hv hvs) rfl rfl (Nat.le_of_ble_eq_true rfl) rfl ?_
  refine mB hT 2 rfl ?_
  refine hC.2.1 _ [_] _ _ _ _ (c_isBasket_t hb) rfl (Nat.le_of_ble_eq_true rfl) rfl ?_
  refine mB hT 2 rfl ?_
  refine hC.2.2.1 _ [_] _ _ _ _ (c_isStuff_t hk) rfl (Nat.le_of_ble_eq_true rfl) rfl ?_
  refine mB hT 3 rfl ?_
  refine hC.2.2.2.1 _ 0 [_] _ _ _ _ _ (c_isMaking_t (i := 1) hi hn) rfl rfl (Nat.le_of_ble_eq_true rfl) rfl ?_
  refine mB hT 8 rfl ?_
  refine hC.2.2.2.2.1 _ 0 [_, _, _, _] _ _ _ _ _ (hk1) rfl rfl (Nat.le_of_ble_eq_true rfl) rfl ?_
  refine mB hT 6 rfl ?_
  refine hC.2.2.2.2.2 _ 0 [_, _, _, _] _ _ _ _ _ (hk3) rfl rfl (Nat.le_of_ble_eq_true rfl) rfl ?_
  refine mB hT 5 rfl ?_
  refine mIf (fun h1 => ?_) (fun h1 => ?_)
  · refine mNf (lv2 := [(7, .long (-9000000000000000004)), (5, .long a1), (0, .ref 0), (1, .int 1), (2, .int (Int32.ofNat b)), (3, .int (Int32.ofNat k)), (4, .int 1)]) (st2 := []) rfl rfl ?_
    refine mB hT 1 rfl ?_
    exact hR _ (by decide) _ _ _ rfl rfl
  · refine mNf (lv2 := [(7, .long (-9000000000000000004)), (5, .long a1), (0, .ref 0), (1, .int 1), (2, .int (Int32.ofNat b)), (3, .int (Int32.ofNat k)), (4, .int 1)]) (st2 := []) rfl rfl ?_
    refine mB hT 5 rfl ?_
    exact hR _ (by decide) _ _ _ rfl rfl
set_option maxRecDepth 20000 in
theorem x_blame_C_1_1 {n vs : Nat} {be de : Int64} {sz : Int32} {ro co mi : Nat → Int64} {T : Nat → Nat → Int64} {B : Nat → Nat → Nat → Int32} {hd : Nat → Nat → Int32} {df : Nat → Int32} (hv : 1 < vs) (hvs : vs ≤ 6) (hi : 1 < n) (hn : n ≤ 4) {b : Nat} (hb : b < 4) {k : Nat} (hk : k < 3) (h1 : ¬ detX n (lyT n ((cpX (cpX B 7 6 0 2) 7 1 2 4) 7) T) = 0) (h2a : ∀ T2 : Nat → Nat → Int64, ¬ detX n (lyT n ((cpX (cpX (cpX (cpX B 7 6 0 2) 7 1 2 4) 7 6 0 1) 7 1 1 4) 7) T2) = 0) (ha : ¬ (thX (smX n ((cpX (cpX B 7 6 0 2) 7 1 2 4) 7) (roX n (lyT n ((cpX (cpX B 7 6 0 2) 7 1 2 4) 7) T) (hd b) ro) k 1) (absX (detX n (lyT n ((cpX (cpX B 7 6 0 2) 7 1 2 4) 7) T)))) = -9000000000000000004) (hb2 : ∀ (T2 : Nat → Nat → Int64) (ro2 : Nat → Int64), ¬ (thX (smX n ((cpX (cpX (cpX (cpX B 7 6 0 2) 7 1 2 4) 7 6 0 1) 7 1 1 4) 7) (roX n (lyT n ((cpX (cpX (cpX (cpX B 7 6 0 2) 7 1 2 4) 7 6 0 1) 7 1 1 4) 7) T2) (hd b) ro2) k 1) (absX (detX n (lyT n ((cpX (cpX (cpX (cpX B 7 6 0 2) 7 1 2 4) 7 6 0 1) 7 1 1 4) 7) T2)))) = -9000000000000000004) : ∃ (T2 : Nat → Nat → Int64) (ro2 : Nat → Int64), ∃ (be4 de4 : Int64) (sz4 : Int32) (ro4 co4 mi4 : Nat → Int64) (T4 : Nat → Nat → Int64), KX2_blame l D ca ad [.ref 0, .int 1, .int (Int32.ofNat b), .int (Int32.ofNat k), .int 1] (XW (Int32.ofNat n) (Int32.ofNat vs) be de sz ro co mi T B hd df) (some (.long ((thX (smX n ((cpX (cpX B 7 6 0 2) 7 1 2 4) 7) (roX n (lyT n ((cpX (cpX B 7 6 0 2) 7 1 2 4) 7) T) (hd b) ro) k 1) (absX (detX n (lyT n ((cpX (cpX B 7 6 0 2) 7 1 2 4) 7) T)))) - (thX (smX n ((cpX (cpX (cpX (cpX B 7 6 0 2) 7 1 2 4) 7 6 0 1) 7 1 1 4) 7) (roX n (lyT n ((cpX (cpX (cpX (cpX B 7 6 0 2) 7 1 2 4) 7 6 0 1) 7 1 1 4) 7) T2) (hd b) ro2) k 1) (absX (detX n (lyT n ((cpX (cpX (cpX (cpX B 7 6 0 2) 7 1 2 4) 7 6 0 1) 7 1 1 4) 7) T2))))))) (XW (Int32.ofNat n) (Int32.ofNat vs) be4 de4 sz4 ro4 co4 mi4 T4 (cpX (cpX (cpX (cpX B 7 6 0 2) 7 1 2 4) 7 6 0 1) 7 1 1 4) hd df) := by
  obtain ⟨B1, eB⟩ : ∃ z, z = (cpX (cpX B 7 6 0 2) 7 1 2 4) := ⟨_, rfl⟩
  obtain ⟨B3, eB3⟩ : ∃ z, z = (cpX (cpX B1 7 6 0 1) 7 1 1 4) := ⟨_, rfl⟩
  obtain ⟨be1, de1, sz1, ro1, co1, mi1, T1, hk1⟩ := x_mixed_1_2 (l := l) (D := D) (ca := ca) (ad := ad) (vs := vs) (be := be) (de := de) (sz := sz) (ro := ro) (co := co) (mi := mi) (df := df) hn hb hk h1
  refine ⟨T1, ro1, ?_⟩
  have hb3 := hb2 T1 ro1
  rw [← eB] at h2a hk1 hb3
  rw [← eB, ← eB3]
  have h2 := h2a T1
  obtain ⟨be3, de3, sz3, ro3, co3, mi3, T3, hk3⟩ := x_mixed_1_1 (l := l) (D := D) (ca := ca) (ad := ad) (vs := vs) (be := be1) (de := de1) (sz := sz1) (ro := ro1) (co := co1) (mi := mi1) (T := T1) (B := B1) (df := df) hn hb hk h2
  rw [← eB3] at hk3
  rw [← eB3] at hb3
  rw [← eB] at ha
  obtain ⟨a1, ea1⟩ : ∃ z, z = (thX (smX n (B1 7) (roX n (lyT n (B1 7) T) (hd b) ro) k 1) (absX (detX n (lyT n (B1 7) T)))) := ⟨_, rfl⟩
  obtain ⟨a2, ea2⟩ : ∃ z, z = (thX (smX n (B3 7) (roX n (lyT n (B3 7) T1) (hd b) ro1) k 1) (absX (detX n (lyT n (B3 7) T1)))) := ⟨_, rfl⟩
  rw [← ea1] at hk1 ha ⊢
  rw [← ea2] at hk3 hb3 ⊢
  refine ⟨be3, de3, sz3, ro3, co3, mi3, T3, ?_⟩
  refine PX2_blame (Nat.le_of_ble_eq_true rfl) ?_
  intro G hT hC hR
  refine mB hT 2 rfl ?_
  refine hC.1 _ 0 [_] _ _ _ _ _ (c_isVersion_t (i := 1) hv hvs) rfl rfl (Nat.le_of_ble_eq_true rfl) rfl ?_
  refine mB hT 2 rfl ?_
  refine hC.2.1 _ [_] _ _ _ _ (c_isBasket_t hb) rfl (Nat.le_of_ble_eq_true rfl) rfl ?_
  refine mB hT 2 rfl ?_
  refine hC.2.2.1 _ [_] _ _ _ _ (c_isStuff_t hk) rfl (Nat.le_of_ble_eq_true rfl) rfl ?_
  refine mB hT 3 rfl ?_
  refine hC.2.2.2.1 _ 0 [_] _ _ _ _ _ (c_isMaking_t (i := 1) hi hn) rfl rfl (Nat.le_of_ble_eq_true rfl) rfl ?_
  refine mB hT 8 rfl ?_
  refine hC.2.2.2.2.1 _ 0 [_, _, _, _] _ _ _ _ _ (hk1) rfl rfl (Nat.le_of_ble_eq_true rfl) rfl ?_
  refine mB hT 6 rfl ?_
  refine hC.2.2.2.2.2 _ 0 [_, _, _, _] _ _ _ _ _ (hk3) rfl rfl (Nat.le_of_ble_eq_true rfl) rfl ?_
  refine mB hT 5 rfl ?_
  refine mIf (fun hp => absurd hp (fun q => ha (lc_eq.mp q))) (fun _ => ?_)
  refine mNf (lv2 := [(7, .long a2), (5, .long a1), (0, .ref 0), (1, .int 1), (2, .int (Int32.ofNat b)), (3, .int (Int32.ofNat k)), (4, .int 1)]) (st2 := []) rfl rfl ?_
  refine mB hT 4 rfl ?_
  refine mIf (fun hp => absurd hp (fun q => hb3 (lc_eq.mp q))) (fun _ => ?_)
  refine mB hT 3 rfl ?_
  exact hR _ (by decide) _ _ _ rfl rfl
set_option maxRecDepth 20000 in
theorem x_blame_A_1_2 {n vs : Nat} {be de : Int64} {sz : Int32} {ro co mi : Nat → Int64} {T : Nat → Nat → Int64} {B : Nat → Nat → Nat → Int32} {hd : Nat → Nat → Int32} {df : Nat → Int32} (hv : 1 < vs) (hvs : vs ≤ 6) (hi : 2 < n) (hn : n ≤ 4) {b : Nat} (hb : b < 4) {k : Nat} (hk : k < 3) (h1 : detX n (lyT n ((cpX (cpX B 7 6 0 3) 7 1 3 4) 7) T) = 0) : ∃ (be4 de4 : Int64) (sz4 : Int32) (ro4 co4 mi4 : Nat → Int64) (T4 : Nat → Nat → Int64), KX2_blame l D ca ad [.ref 0, .int 1, .int (Int32.ofNat b), .int (Int32.ofNat k), .int 2] (XW (Int32.ofNat n) (Int32.ofNat vs) be de sz ro co mi T B hd df) (some (.long (-9000000000000000004))) (XW (Int32.ofNat n) (Int32.ofNat vs) be4 de4 sz4 ro4 co4 mi4 T4 (cpX (cpX (cpX (cpX B 7 6 0 3) 7 1 3 4) 7 6 0 2) 7 1 2 4) hd df) := by
  obtain ⟨B1, eB⟩ : ∃ z, z = (cpX (cpX B 7 6 0 3) 7 1 3 4) := ⟨_, rfl⟩
  obtain ⟨B3, eB3⟩ : ∃ z, z = (cpX (cpX B1 7 6 0 2) 7 1 2 4) := ⟨_, rfl⟩
  rw [← eB, ← eB3]
  obtain ⟨be1, de1, sz1, ro1, co1, mi1, T1, hk1⟩ := x_mixed_B_1_3 (l := l) (D := D) (ca := ca) (ad := ad) (vs := vs) (be := be) (de := de) (sz := sz) (ro := ro) (co := co) (mi := mi) (df := df) hn hb hk h1
  rw [← eB] at hk1
  by_cases h2 : detX n (lyT n ((cpX (cpX B1 7 6 0 2) 7 1 2 4) 7) T1) = 0
  · obtain ⟨be3, de3, sz3, ro3, co3, mi3, T3, hk3⟩ := x_mixed_B_1_2 (l := l) (D := D) (ca := ca) (ad := ad) (vs := vs) (be := be1) (de := de1) (sz := sz1) (ro := ro1) (co := co1) (mi := mi1) (T := T1) (B := B1) (df := df) hn hb hk h2
    rw [← eB3] at hk3
    refine ⟨be3, de3, sz3, ro3, co3, mi3, T3, ?_⟩
    refine PX2_blame (Nat.le_of_ble_eq_true rfl) ?_
    intro G hT hC hR
    refine mB hT 2 rfl ?_
    refine hC.1 _ 0 [_] _ _ _ _ _ (c_isVersion_t (i := 1) hv hvs) rfl rfl (Nat.le_of_ble_eq_true rfl) rfl ?_
    refine mB hT 2 rfl ?_
    refine hC.2.1 _ [_] _ _ _ _ (c_isBasket_t hb) rfl (Nat.le_of_ble_eq_true rfl) rfl ?_
    refine mB hT 2 rfl ?_
    refine hC.2.2.1 _ [_] _ _ _ _ (c_isStuff_t hk) rfl (Nat.le_of_ble_eq_true rfl) rfl ?_
    refine mB hT 3 rfl ?_
    refine hC.2.2.2.1 _ 0 [_] _ _ _ _ _ (c_isMaking_t (i := 2) hi hn) rfl rfl (Nat.le_of_ble_eq_true rfl) rfl ?_
    refine mB hT 8 rfl ?_
    refine hC.2.2.2.2.1 _ 0 [_, _, _, _] _ _ _ _ _ (hk1) rfl rfl (Nat.le_of_ble_eq_true rfl) rfl ?_
    refine mB hT 6 rfl ?_
    refine hC.2.2.2.2.2 _ 0 [_, _, _, _] _ _ _ _ _ (hk3) rfl rfl (Nat.le_of_ble_eq_true rfl) rfl ?_
    refine mB hT 6 rfl ?_
    exact hR _ (by decide) _ _ _ rfl rfl
  · obtain ⟨be3, de3, sz3, ro3, co3, mi3, T3, hk3⟩ := x_mixed_1_2 (l := l) (D := D) (ca := ca) (ad := ad) (vs := vs) (be := be1) (de := de1) (sz := sz1) (ro := ro1) (co := co1) (mi := mi1) (T := T1) (B := B1) (df := df) hn hb hk h2
    rw [← eB3] at hk3
    generalize thX _ _ = a2 at hk3
    refine ⟨be3, de3, sz3, ro3, co3, mi3, T3, ?_⟩
    refine PX2_blame (Nat.le_of_ble_eq_true rfl) ?_
    intro G hT hC hR
    refine mB hT 2 rfl ?_
    refine hC.1 _ 0 [_] _ _ _ _ _ (c_isVersion_t (i := 1) hv hvs) rfl rfl (Nat.le_of_ble_eq_true rfl) rfl ?_
    refine mB hT 2 rfl ?_
    refine hC.2.1 _ [_] _ _ _ _ (c_isBasket_t hb) rfl (Nat.le_of_ble_eq_true rfl) rfl ?_
    refine mB hT 2 rfl ?_
    refine hC.2.2.1 _ [_] _ _ _ _ (c_isStuff_t hk) rfl (Nat.le_of_ble_eq_true rfl) rfl ?_
    refine mB hT 3 rfl ?_
    refine hC.2.2.2.1 _ 0 [_] _ _ _ _ _ (c_isMaking_t (i := 2) hi hn) rfl rfl (Nat.le_of_ble_eq_true rfl) rfl ?_
    refine mB hT 8 rfl ?_
    refine hC.2.2.2.2.1 _ 0 [_, _, _, _] _ _ _ _ _ (hk1) rfl rfl (Nat.le_of_ble_eq_true rfl) rfl ?_
    refine mB hT 6 rfl ?_
    refine hC.2.2.2.2.2 _ 0 [_, _, _, _] _ _ _ _ _ (hk3) rfl rfl (Nat.le_of_ble_eq_true rfl) rfl ?_
    refine mB hT 6 rfl ?_
    exact hR _ (by decide) _ _ _ rfl rfl
set_option maxRecDepth 20000 in
theorem x_blame_B_1_2 {n vs : Nat} {be de : Int64} {sz : Int32} {ro co mi : Nat → Int64} {T : Nat → Nat → Int64} {B : Nat → Nat → Nat → Int32} {hd : Nat → Nat → Int32} {df : Nat → Int32} (hv : 1 < vs) (hvs : vs ≤ 6) (hi : 2 < n) (hn : n ≤ 4) {b : Nat} (hb : b < 4) {k : Nat} (hk : k < 3) (h1 : ¬ detX n (lyT n ((cpX (cpX B 7 6 0 3) 7 1 3 4) 7) T) = 0) (h2a : ∀ T2 : Nat → Nat → Int64, detX n (lyT n ((cpX (cpX (cpX (cpX B 7 6 0 3) 7 1 3 4) 7 6 0 2) 7 1 2 4) 7) T2) = 0) : ∃ (be4 de4 : Int64) (sz4 : Int32) (ro4 co4 mi4 : Nat → Int64) (T4 : Nat → Nat → Int64), KX2_blame l D ca ad [.ref 0, .int 1, .int (Int32.ofNat b), .int (Int32.ofNat k), .int 2] (XW (Int32.ofNat n) (Int32.ofNat vs) be de sz ro co mi T B hd df) (some (.long (-9000000000000000004))) (XW (Int32.ofNat n) (Int32.ofNat vs) be4 de4 sz4 ro4 co4 mi4 T4 (cpX (cpX (cpX (cpX B 7 6 0 3) 7 1 3 4) 7 6 0 2) 7 1 2 4) hd df) := by
  obtain ⟨B1, eB⟩ : ∃ z, z = (cpX (cpX B 7 6 0 3) 7 1 3 4) := ⟨_, rfl⟩
  obtain ⟨B3, eB3⟩ : ∃ z, z = (cpX (cpX B1 7 6 0 2) 7 1 2 4) := ⟨_, rfl⟩
  rw [← eB] at h2a
  rw [← eB, ← eB3]
  obtain ⟨be1, de1, sz1, ro1, co1, mi1, T1, hk1⟩ := x_mixed_1_3 (l := l) (D := D) (ca := ca) (ad := ad) (vs := vs) (be := be) (de := de) (sz := sz) (ro := ro) (co := co) (mi := mi) (df := df) hn hb hk h1
  rw [← eB] at hk1
  generalize thX _ _ = a1 at hk1
  have h2 := h2a T1
  obtain ⟨be3, de3, sz3, ro3, co3, mi3, T3, hk3⟩ := x_mixed_B_1_2 (l := l) (D := D) (ca := ca) (ad := ad) (vs := vs) (be := be1) (de := de1) (sz := sz1) (ro := ro1) (co := co1) (mi := mi1) (T := T1) (B := B1) (df := df) hn hb hk h2
  rw [← eB3] at hk3
  refine ⟨be3, de3, sz3, ro3, co3, mi3, T3, ?_⟩
  refine PX2_blame (Nat.le_of_ble_eq_true rfl) ?_
  intro G hT hC hR
  refine mB hT 2 rfl ?_
  refine hC.1 _ 0 [_] _ _ _ _ _ (c_isVersion_t (i := 1) hv hvs) rfl rfl (Nat.le_of_ble_eq_true rfl) rfl ?_
  refine mB hT 2 rfl ?_
  refine hC.2.1 _ [_] _ _ _ _ (c_isBasket_t hb) rfl (Nat.le_of_ble_eq_true rfl) rfl ?_
  refine mB hT 2 rfl ?_
  refine hC.2.2.1 _ [_] _ _ _ _ (c_isStuff_t hk) rfl (Nat.le_of_ble_eq_true rfl) rfl ?_
  refine mB hT 3 rfl ?_
  refine hC.2.2.2.1 _ 0 [_] _ _ _ _ _ (c_isMaking_t (i := 2) hi hn) rfl rfl (Nat.le_of_ble_eq_true rfl) rfl ?_
  refine mB hT 8 rfl ?_
  refine hC.2.2.2.2.1 _ 0 [_, _, _, _] _ _ _ _ _ (hk1) rfl rfl (Nat.le_of_ble_eq_true rfl) rfl ?_
  refine mB hT 6 rfl ?_
  refine hC.2.2.2.2.2 _ 0 [_, _, _, _] _ _ _ _ _ (hk3) rfl rfl (Nat.le_of_ble_eq_true rfl) rfl ?_
  refine mB hT 5 rfl ?_
  refine mIf (fun h1 => ?_) (fun h1 => ?_)
  · refine mNf (lv2 := [(7, .long (-9000000000000000004)), (5, .long a1), (0, .ref 0), (1, .int 1), (2, .int (Int32.ofNat b)), (3, .int (Int32.ofNat k)), (4, .int 2)]) (st2 := []) rfl rfl ?_
    refine mB hT 1 rfl ?_
    exact hR _ (by decide) _ _ _ rfl rfl
  · refine mNf (lv2 := [(7, .long (-9000000000000000004)), (5, .long a1), (0, .ref 0), (1, .int 1), (2, .int (Int32.ofNat b)), (3, .int (Int32.ofNat k)), (4, .int 2)]) (st2 := []) rfl rfl ?_
    refine mB hT 5 rfl ?_
    exact hR _ (by decide) _ _ _ rfl rfl
set_option maxRecDepth 20000 in
theorem x_blame_C_1_2 {n vs : Nat} {be de : Int64} {sz : Int32} {ro co mi : Nat → Int64} {T : Nat → Nat → Int64} {B : Nat → Nat → Nat → Int32} {hd : Nat → Nat → Int32} {df : Nat → Int32} (hv : 1 < vs) (hvs : vs ≤ 6) (hi : 2 < n) (hn : n ≤ 4) {b : Nat} (hb : b < 4) {k : Nat} (hk : k < 3) (h1 : ¬ detX n (lyT n ((cpX (cpX B 7 6 0 3) 7 1 3 4) 7) T) = 0) (h2a : ∀ T2 : Nat → Nat → Int64, ¬ detX n (lyT n ((cpX (cpX (cpX (cpX B 7 6 0 3) 7 1 3 4) 7 6 0 2) 7 1 2 4) 7) T2) = 0) (ha : ¬ (thX (smX n ((cpX (cpX B 7 6 0 3) 7 1 3 4) 7) (roX n (lyT n ((cpX (cpX B 7 6 0 3) 7 1 3 4) 7) T) (hd b) ro) k 1) (absX (detX n (lyT n ((cpX (cpX B 7 6 0 3) 7 1 3 4) 7) T)))) = -9000000000000000004) (hb2 : ∀ (T2 : Nat → Nat → Int64) (ro2 : Nat → Int64), ¬ (thX (smX n ((cpX (cpX (cpX (cpX B 7 6 0 3) 7 1 3 4) 7 6 0 2) 7 1 2 4) 7) (roX n (lyT n ((cpX (cpX (cpX (cpX B 7 6 0 3) 7 1 3 4) 7 6 0 2) 7 1 2 4) 7) T2) (hd b) ro2) k 1) (absX (detX n (lyT n ((cpX (cpX (cpX (cpX B 7 6 0 3) 7 1 3 4) 7 6 0 2) 7 1 2 4) 7) T2)))) = -9000000000000000004) : ∃ (T2 : Nat → Nat → Int64) (ro2 : Nat → Int64), ∃ (be4 de4 : Int64) (sz4 : Int32) (ro4 co4 mi4 : Nat → Int64) (T4 : Nat → Nat → Int64), KX2_blame l D ca ad [.ref 0, .int 1, .int (Int32.ofNat b), .int (Int32.ofNat k), .int 2] (XW (Int32.ofNat n) (Int32.ofNat vs) be de sz ro co mi T B hd df) (some (.long ((thX (smX n ((cpX (cpX B 7 6 0 3) 7 1 3 4) 7) (roX n (lyT n ((cpX (cpX B 7 6 0 3) 7 1 3 4) 7) T) (hd b) ro) k 1) (absX (detX n (lyT n ((cpX (cpX B 7 6 0 3) 7 1 3 4) 7) T)))) - (thX (smX n ((cpX (cpX (cpX (cpX B 7 6 0 3) 7 1 3 4) 7 6 0 2) 7 1 2 4) 7) (roX n (lyT n ((cpX (cpX (cpX (cpX B 7 6 0 3) 7 1 3 4) 7 6 0 2) 7 1 2 4) 7) T2) (hd b) ro2) k 1) (absX (detX n (lyT n ((cpX (cpX (cpX (cpX B 7 6 0 3) 7 1 3 4) 7 6 0 2) 7 1 2 4) 7) T2))))))) (XW (Int32.ofNat n) (Int32.ofNat vs) be4 de4 sz4 ro4 co4 mi4 T4 (cpX (cpX (cpX (cpX B 7 6 0 3) 7 1 3 4) 7 6 0 2) 7 1 2 4) hd df) := by
  obtain ⟨B1, eB⟩ : ∃ z, z = (cpX (cpX B 7 6 0 3) 7 1 3 4) := ⟨_, rfl⟩
  obtain ⟨B3, eB3⟩ : ∃ z, z = (cpX (cpX B1 7 6 0 2) 7 1 2 4) := ⟨_, rfl⟩
  obtain ⟨be1, de1, sz1, ro1, co1, mi1, T1, hk1⟩ := x_mixed_1_3 (l := l) (D := D) (ca := ca) (ad := ad) (vs := vs) (be := be) (de := de) (sz := sz) (ro := ro) (co := co) (mi := mi) (df := df) hn hb hk h1
  refine ⟨T1, ro1, ?_⟩
  have hb3 := hb2 T1 ro1
  rw [← eB] at h2a hk1 hb3
  rw [← eB, ← eB3]
  have h2 := h2a T1
  obtain ⟨be3, de3, sz3, ro3, co3, mi3, T3, hk3⟩ := x_mixed_1_2 (l := l) (D := D) (ca := ca) (ad := ad) (vs := vs) (be := be1) (de := de1) (sz := sz1) (ro := ro1) (co := co1) (mi := mi1) (T := T1) (B := B1) (df := df) hn hb hk h2
  rw [← eB3] at hk3
  rw [← eB3] at hb3
  rw [← eB] at ha
  obtain ⟨a1, ea1⟩ : ∃ z, z = (thX (smX n (B1 7) (roX n (lyT n (B1 7) T) (hd b) ro) k 1) (absX (detX n (lyT n (B1 7) T)))) := ⟨_, rfl⟩
  obtain ⟨a2, ea2⟩ : ∃ z, z = (thX (smX n (B3 7) (roX n (lyT n (B3 7) T1) (hd b) ro1) k 1) (absX (detX n (lyT n (B3 7) T1)))) := ⟨_, rfl⟩
  rw [← ea1] at hk1 ha ⊢
  rw [← ea2] at hk3 hb3 ⊢
  refine ⟨be3, de3, sz3, ro3, co3, mi3, T3, ?_⟩
  refine PX2_blame (Nat.le_of_ble_eq_true rfl) ?_
  intro G hT hC hR
  refine mB hT 2 rfl ?_
  refine hC.1 _ 0 [_] _ _ _ _ _ (c_isVersion_t (i := 1) hv hvs) rfl rfl (Nat.le_of_ble_eq_true rfl) rfl ?_
  refine mB hT 2 rfl ?_
  refine hC.2.1 _ [_] _ _ _ _ (c_isBasket_t hb) rfl (Nat.le_of_ble_eq_true rfl) rfl ?_
  refine mB hT 2 rfl ?_
  refine hC.2.2.1 _ [_] _ _ _ _ (c_isStuff_t hk) rfl (Nat.le_of_ble_eq_true rfl) rfl ?_
  refine mB hT 3 rfl ?_
  refine hC.2.2.2.1 _ 0 [_] _ _ _ _ _ (c_isMaking_t (i := 2) hi hn) rfl rfl (Nat.le_of_ble_eq_true rfl) rfl ?_
  refine mB hT 8 rfl ?_
  refine hC.2.2.2.2.1 _ 0 [_, _, _, _] _ _ _ _ _ (hk1) rfl rfl (Nat.le_of_ble_eq_true rfl) rfl ?_
  refine mB hT 6 rfl ?_
  refine hC.2.2.2.2.2 _ 0 [_, _, _, _] _ _ _ _ _ (hk3) rfl rfl (Nat.le_of_ble_eq_true rfl) rfl ?_
  refine mB hT 5 rfl ?_
  refine mIf (fun hp => absurd hp (fun q => ha (lc_eq.mp q))) (fun _ => ?_)
  refine mNf (lv2 := [(7, .long a2), (5, .long a1), (0, .ref 0), (1, .int 1), (2, .int (Int32.ofNat b)), (3, .int (Int32.ofNat k)), (4, .int 2)]) (st2 := []) rfl rfl ?_
  refine mB hT 4 rfl ?_
  refine mIf (fun hp => absurd hp (fun q => hb3 (lc_eq.mp q))) (fun _ => ?_)
  refine mB hT 3 rfl ?_
  exact hR _ (by decide) _ _ _ rfl rfl
set_option maxRecDepth 20000 in
theorem x_blame_A_1_3 {n vs : Nat} {be de : Int64} {sz : Int32} {ro co mi : Nat → Int64} {T : Nat → Nat → Int64} {B : Nat → Nat → Nat → Int32} {hd : Nat → Nat → Int32} {df : Nat → Int32} (hv : 1 < vs) (hvs : vs ≤ 6) (hi : 3 < n) (hn : n ≤ 4) {b : Nat} (hb : b < 4) {k : Nat} (hk : k < 3) (h1 : detX n (lyT n ((cpX (cpX B 7 6 0 4) 7 1 4 4) 7) T) = 0) : ∃ (be4 de4 : Int64) (sz4 : Int32) (ro4 co4 mi4 : Nat → Int64) (T4 : Nat → Nat → Int64), KX2_blame l D ca ad [.ref 0, .int 1, .int (Int32.ofNat b), .int (Int32.ofNat k), .int 3] (XW (Int32.ofNat n) (Int32.ofNat vs) be de sz ro co mi T B hd df) (some (.long (-9000000000000000004))) (XW (Int32.ofNat n) (Int32.ofNat vs) be4 de4 sz4 ro4 co4 mi4 T4 (cpX (cpX (cpX (cpX B 7 6 0 4) 7 1 4 4) 7 6 0 3) 7 1 3 4) hd df) := by
  obtain ⟨B1, eB⟩ : ∃ z, z = (cpX (cpX B 7 6 0 4) 7 1 4 4) := ⟨_, rfl⟩
  obtain ⟨B3, eB3⟩ : ∃ z, z = (cpX (cpX B1 7 6 0 3) 7 1 3 4) := ⟨_, rfl⟩
  rw [← eB, ← eB3]
  obtain ⟨be1, de1, sz1, ro1, co1, mi1, T1, hk1⟩ := x_mixed_B_1_4 (l := l) (D := D) (ca := ca) (ad := ad) (vs := vs) (be := be) (de := de) (sz := sz) (ro := ro) (co := co) (mi := mi) (df := df) hn hb hk h1
  rw [← eB] at hk1
  by_cases h2 : detX n (lyT n ((cpX (cpX B1 7 6 0 3) 7 1 3 4) 7) T1) = 0
  · obtain ⟨be3, de3, sz3, ro3, co3, mi3, T3, hk3⟩ := x_mixed_B_1_3 (l := l) (D := D) (ca := ca) (ad := ad) (vs := vs) (be := be1) (de := de1) (sz := sz1) (ro := ro1) (co := co1) (mi := mi1) (T := T1) (B := B1) (df := df) hn hb hk h2
    rw [← eB3] at hk3
    refine ⟨be3, de3, sz3, ro3, co3, mi3, T3, ?_⟩
    refine PX2_blame (Nat.le_of_ble_eq_true rfl) ?_
    intro G hT hC hR
    refine mB hT 2 rfl ?_
    refine hC.1 _ 0 [_] _ _ _ _ _ (c_isVersion_t (i := 1) hv hvs) rfl rfl (Nat.le_of_ble_eq_true rfl) rfl ?_
    refine mB hT 2 rfl ?_
    refine hC.2.1 _ [_] _ _ _ _ (c_isBasket_t hb) rfl (Nat.le_of_ble_eq_true rfl) rfl ?_
    refine mB hT 2 rfl ?_
    refine hC.2.2.1 _ [_] _ _ _ _ (c_isStuff_t hk) rfl (Nat.le_of_ble_eq_true rfl) rfl ?_
    refine mB hT 3 rfl ?_
    refine hC.2.2.2.1 _ 0 [_] _ _ _ _ _ (c_isMaking_t (i := 3) hi hn) rfl rfl (Nat.le_of_ble_eq_true rfl) rfl ?_
    refine mB hT 8 rfl ?_
    refine hC.2.2.2.2.1 _ 0 [_, _, _, _] _ _ _ _ _ (hk1) rfl rfl (Nat.le_of_ble_eq_true rfl) rfl ?_
    refine mB hT 6 rfl ?_
    refine hC.2.2.2.2.2 _ 0 [_, _, _, _] _ _ _ _ _ (hk3) rfl rfl (Nat.le_of_ble_eq_true rfl) rfl ?_
    refine mB hT 6 rfl ?_
    exact hR _ (by decide) _ _ _ rfl rfl
  · obtain ⟨be3, de3, sz3, ro3, co3, mi3, T3, hk3⟩ := x_mixed_1_3 (l := l) (D := D) (ca := ca) (ad := ad) (vs := vs) (be := be1) (de := de1) (sz := sz1) (ro := ro1) (co := co1) (mi := mi1) (T := T1) (B := B1) (df := df) hn hb hk h2
    rw [← eB3] at hk3
    generalize thX _ _ = a2 at hk3
    refine ⟨be3, de3, sz3, ro3, co3, mi3, T3, ?_⟩
    refine PX2_blame (Nat.le_of_ble_eq_true rfl) ?_
    intro G hT hC hR
    refine mB hT 2 rfl ?_
    refine hC.1 _ 0 [_] _ _ _ _ _ (c_isVersion_t (i := 1) hv hvs) rfl rfl (Nat.le_of_ble_eq_true rfl) rfl ?_
    refine mB hT 2 rfl ?_
    refine hC.2.1 _ [_] _ _ _ _ (c_isBasket_t hb) rfl (Nat.le_of_ble_eq_true rfl) rfl ?_
    refine mB hT 2 rfl ?_
    refine hC.2.2.1 _ [_] _ _ _ _ (c_isStuff_t hk) rfl (Nat.le_of_ble_eq_true rfl) rfl ?_
    refine mB hT 3 rfl ?_
    refine hC.2.2.2.1 _ 0 [_] _ _ _ _ _ (c_isMaking_t (i := 3) hi hn) rfl rfl (Nat.le_of_ble_eq_true rfl) rfl ?_
    refine mB hT 8 rfl ?_
    refine hC.2.2.2.2.1 _ 0 [_, _, _, _] _ _ _ _ _ (hk1) rfl rfl (Nat.le_of_ble_eq_true rfl) rfl ?_
    refine mB hT 6 rfl ?_
    refine hC.2.2.2.2.2 _ 0 [_, _, _, _] _ _ _ _ _ (hk3) rfl rfl (Nat.le_of_ble_eq_true rfl) rfl ?_
    refine mB hT 6 rfl ?_
    exact hR _ (by decide) _ _ _ rfl rfl
set_option maxRecDepth 20000 in
theorem x_blame_B_1_3 {n vs : Nat} {be de : Int64} {sz : Int32} {ro co mi : Nat → Int64} {T : Nat → Nat → Int64} {B : Nat → Nat → Nat → Int32} {hd : Nat → Nat → Int32} {df : Nat → Int32} (hv : 1 < vs) (hvs : vs ≤ 6) (hi : 3 < n) (hn : n ≤ 4) {b : Nat} (hb : b < 4) {k : Nat} (hk : k < 3) (h1 : ¬ detX n (lyT n ((cpX (cpX B 7 6 0 4) 7 1 4 4) 7) T) = 0) (h2a : ∀ T2 : Nat → Nat → Int64, detX n (lyT n ((cpX (cpX (cpX (cpX B 7 6 0 4) 7 1 4 4) 7 6 0 3) 7 1 3 4) 7) T2) = 0) : ∃ (be4 de4 : Int64) (sz4 : Int32) (ro4 co4 mi4 : Nat → Int64) (T4 : Nat → Nat → Int64), KX2_blame l D ca ad [.ref 0, .int 1, .int (Int32.ofNat b), .int (Int32.ofNat k), .int 3] (XW (Int32.ofNat n) (Int32.ofNat vs) be de sz ro co mi T B hd df) (some (.long (-9000000000000000004))) (XW (Int32.ofNat n) (Int32.ofNat vs) be4 de4 sz4 ro4 co4 mi4 T4 (cpX (cpX (cpX (cpX B 7 6 0 4) 7 1 4 4) 7 6 0 3) 7 1 3 4) hd df) := by
  obtain ⟨B1, eB⟩ : ∃ z, z = (cpX (cpX B 7 6 0 4) 7 1 4 4) := ⟨_, rfl⟩
  obtain ⟨B3, eB3⟩ : ∃ z, z = (cpX (cpX B1 7 6 0 3) 7 1 3 4) := ⟨_, rfl⟩
  rw [← eB] at h2a
  rw [← eB, ← eB3]
  obtain ⟨be1, de1, sz1, ro1, co1, mi1, T1, hk1⟩ := x_mixed_1_4 (l := l) (D := D) (ca := ca) (ad := ad) (vs := vs) (be := be) (de := de) (sz := sz) (ro := ro) (co := co) (mi := mi) (df := df) hn hb hk h1
  rw [← eB] at hk1
  generalize thX _ _ = a1 at hk1
  have h2 := h2a T1
  obtain ⟨be3, de3, sz3, ro3, co3, mi3, T3, hk3⟩ := x_mixed_B_1_3 (l := l) (D := D) (ca := ca) (ad := ad) (vs := vs) (be := be1) (de := de1) (sz := sz1) (ro := ro1) (co := co1) (mi := mi1) (T := T1) (B := B1) (df := df) hn hb hk h2
  rw [← eB3] at hk3
  refine ⟨be3, de3, sz3, ro3, co3, mi3, T3, ?_⟩
  refine PX2_blame (Nat.le_of_ble_eq_true rfl) ?_
  intro G hT hC hR
  refine mB hT 2 rfl ?_
  refine hC.1 _ 0 [_] _ _ _ _ _ (c_isVersion_t (i := 1) hv hvs) rfl rfl (Nat.le_of_ble_eq_true rfl) rfl ?_
  refine mB hT 2 rfl ?_
  refine hC.2.1 _ [_] _ _ _ _ (c_isBasket_t hb) rfl (Nat.le_of_ble_eq_true rfl) rfl ?_
  refine mB hT 2 rfl ?_
  refine hC.2.2.1 _ [_] _ _ _ _ (c_isStuff_t hk) rfl (Nat.le_of_ble_eq_true rfl) rfl ?_
  refine mB hT 3 rfl ?_
  refine hC.2.2.2.1 _ 0 [_] _ _ _ _ _ (c_isMaking_t (i := 3) hi hn) rfl rfl (Nat.le_of_ble_eq_true rfl) rfl ?_
  refine mB hT 8 rfl ?_
  refine hC.2.2.2.2.1 _ 0 [_, _, _, _] _ _ _ _ _ (hk1) rfl rfl (Nat.le_of_ble_eq_true rfl) rfl ?_
  refine mB hT 6 rfl ?_
  refine hC.2.2.2.2.2 _ 0 [_, _, _, _] _ _ _ _ _ (hk3) rfl rfl (Nat.le_of_ble_eq_true rfl) rfl ?_
  refine mB hT 5 rfl ?_
  refine mIf (fun h1 => ?_) (fun h1 => ?_)
  · refine mNf (lv2 := [(7, .long (-9000000000000000004)), (5, .long a1), (0, .ref 0), (1, .int 1), (2, .int (Int32.ofNat b)), (3, .int (Int32.ofNat k)), (4, .int 3)]) (st2 := []) rfl rfl ?_
    refine mB hT 1 rfl ?_
    exact hR _ (by decide) _ _ _ rfl rfl
  · refine mNf (lv2 := [(7, .long (-9000000000000000004)), (5, .long a1), (0, .ref 0), (1, .int 1), (2, .int (Int32.ofNat b)), (3, .int (Int32.ofNat k)), (4, .int 3)]) (st2 := []) rfl rfl ?_
    refine mB hT 5 rfl ?_
    exact hR _ (by decide) _ _ _ rfl rfl
set_option maxRecDepth 20000 in
theorem x_blame_C_1_3 {n vs : Nat} {be de : Int64} {sz : Int32} {ro co mi : Nat → Int64} {T : Nat → Nat → Int64} {B : Nat → Nat → Nat → Int32} {hd : Nat → Nat → Int32} {df : Nat → Int32} (hv : 1 < vs) (hvs : vs ≤ 6) (hi : 3 < n) (hn : n ≤ 4) {b : Nat} (hb : b < 4) {k : Nat} (hk : k < 3) (h1 : ¬ detX n (lyT n ((cpX (cpX B 7 6 0 4) 7 1 4 4) 7) T) = 0) (h2a : ∀ T2 : Nat → Nat → Int64, ¬ detX n (lyT n ((cpX (cpX (cpX (cpX B 7 6 0 4) 7 1 4 4) 7 6 0 3) 7 1 3 4) 7) T2) = 0) (ha : ¬ (thX (smX n ((cpX (cpX B 7 6 0 4) 7 1 4 4) 7) (roX n (lyT n ((cpX (cpX B 7 6 0 4) 7 1 4 4) 7) T) (hd b) ro) k 1) (absX (detX n (lyT n ((cpX (cpX B 7 6 0 4) 7 1 4 4) 7) T)))) = -9000000000000000004) (hb2 : ∀ (T2 : Nat → Nat → Int64) (ro2 : Nat → Int64), ¬ (thX (smX n ((cpX (cpX (cpX (cpX B 7 6 0 4) 7 1 4 4) 7 6 0 3) 7 1 3 4) 7) (roX n (lyT n ((cpX (cpX (cpX (cpX B 7 6 0 4) 7 1 4 4) 7 6 0 3) 7 1 3 4) 7) T2) (hd b) ro2) k 1) (absX (detX n (lyT n ((cpX (cpX (cpX (cpX B 7 6 0 4) 7 1 4 4) 7 6 0 3) 7 1 3 4) 7) T2)))) = -9000000000000000004) : ∃ (T2 : Nat → Nat → Int64) (ro2 : Nat → Int64), ∃ (be4 de4 : Int64) (sz4 : Int32) (ro4 co4 mi4 : Nat → Int64) (T4 : Nat → Nat → Int64), KX2_blame l D ca ad [.ref 0, .int 1, .int (Int32.ofNat b), .int (Int32.ofNat k), .int 3] (XW (Int32.ofNat n) (Int32.ofNat vs) be de sz ro co mi T B hd df) (some (.long ((thX (smX n ((cpX (cpX B 7 6 0 4) 7 1 4 4) 7) (roX n (lyT n ((cpX (cpX B 7 6 0 4) 7 1 4 4) 7) T) (hd b) ro) k 1) (absX (detX n (lyT n ((cpX (cpX B 7 6 0 4) 7 1 4 4) 7) T)))) - (thX (smX n ((cpX (cpX (cpX (cpX B 7 6 0 4) 7 1 4 4) 7 6 0 3) 7 1 3 4) 7) (roX n (lyT n ((cpX (cpX (cpX (cpX B 7 6 0 4) 7 1 4 4) 7 6 0 3) 7 1 3 4) 7) T2) (hd b) ro2) k 1) (absX (detX n (lyT n ((cpX (cpX (cpX (cpX B 7 6 0 4) 7 1 4 4) 7 6 0 3) 7 1 3 4) 7) T2))))))) (XW (Int32.ofNat n) (Int32.ofNat vs) be4 de4 sz4 ro4 co4 mi4 T4 (cpX (cpX (cpX (cpX B 7 6 0 4) 7 1 4 4) 7 6 0 3) 7 1 3 4) hd df) := by
  obtain ⟨B1, eB⟩ : ∃ z, z = (cpX (cpX B 7 6 0 4) 7 1 4 4) := ⟨_, rfl⟩
  obtain ⟨B3, eB3⟩ : ∃ z, z = (cpX (cpX B1 7 6 0 3) 7 1 3 4) := ⟨_, rfl⟩
  obtain ⟨be1, de1, sz1, ro1, co1, mi1, T1, hk1⟩ := x_mixed_1_4 (l := l) (D := D) (ca := ca) (ad := ad) (vs := vs) (be := be) (de := de) (sz := sz) (ro := ro) (co := co) (mi := mi) (df := df) hn hb hk h1
  refine ⟨T1, ro1, ?_⟩
  have hb3 := hb2 T1 ro1
  rw [← eB] at h2a hk1 hb3
  rw [← eB, ← eB3]
  have h2 := h2a T1
  obtain ⟨be3, de3, sz3, ro3, co3, mi3, T3, hk3⟩ := x_mixed_1_3 (l := l) (D := D) (ca := ca) (ad := ad) (vs := vs) (be := be1) (de := de1) (sz := sz1) (ro := ro1) (co := co1) (mi := mi1) (T := T1) (B := B1) (df := df) hn hb hk h2
  rw [← eB3] at hk3
  rw [← eB3] at hb3
  rw [← eB] at ha
  obtain ⟨a1, ea1⟩ : ∃ z, z = (thX (smX n (B1 7) (roX n (lyT n (B1 7) T) (hd b) ro) k 1) (absX (detX n (lyT n (B1 7) T)))) := ⟨_, rfl⟩
  obtain ⟨a2, ea2⟩ : ∃ z, z = (thX (smX n (B3 7) (roX n (lyT n (B3 7) T1) (hd b) ro1) k 1) (absX (detX n (lyT n (B3 7) T1)))) := ⟨_, rfl⟩
  rw [← ea1] at hk1 ha ⊢
  rw [← ea2] at hk3 hb3 ⊢
  refine ⟨be3, de3, sz3, ro3, co3, mi3, T3, ?_⟩
  refine PX2_blame (Nat.le_of_ble_eq_true rfl) ?_
  intro G hT hC hR
  refine mB hT 2 rfl ?_
  refine hC.1 _ 0 [_] _ _ _ _ _ (c_isVersion_t (i := 1) hv hvs) rfl rfl (Nat.le_of_ble_eq_true rfl) rfl ?_
  refine mB hT 2 rfl ?_
  refine hC.2.1 _ [_] _ _ _ _ (c_isBasket_t hb) rfl (Nat.le_of_ble_eq_true rfl) rfl ?_
  refine mB hT 2 rfl ?_
  refine hC.2.2.1 _ [_] _ _ _ _ (c_isStuff_t hk) rfl (Nat.le_of_ble_eq_true rfl) rfl ?_
  refine mB hT 3 rfl ?_
  refine hC.2.2.2.1 _ 0 [_] _ _ _ _ _ (c_isMaking_t (i := 3) hi hn) rfl rfl (Nat.le_of_ble_eq_true rfl) rfl ?_
  refine mB hT 8 rfl ?_
  refine hC.2.2.2.2.1 _ 0 [_, _, _, _] _ _ _ _ _ (hk1) rfl rfl (Nat.le_of_ble_eq_true rfl) rfl ?_
  refine mB hT 6 rfl ?_
  refine hC.2.2.2.2.2 _ 0 [_, _, _, _] _ _ _ _ _ (hk3) rfl rfl (Nat.le_of_ble_eq_true rfl) rfl ?_
  refine mB hT 5 rfl ?_
  refine mIf (fun hp => absurd hp (fun q => ha (lc_eq.mp q))) (fun _ => ?_)
  refine mNf (lv2 := [(7, .long a2), (5, .long a1), (0, .ref 0), (1, .int 1), (2, .int (Int32.ofNat b)), (3, .int (Int32.ofNat k)), (4, .int 3)]) (st2 := []) rfl rfl ?_
  refine mB hT 4 rfl ?_
  refine mIf (fun hp => absurd hp (fun q => hb3 (lc_eq.mp q))) (fun _ => ?_)
  refine mB hT 3 rfl ?_
  exact hR _ (by decide) _ _ _ rfl rfl
set_option maxRecDepth 20000 in
theorem x_blame_A_2_0 {n vs : Nat} {be de : Int64} {sz : Int32} {ro co mi : Nat → Int64} {T : Nat → Nat → Int64} {B : Nat → Nat → Nat → Int32} {hd : Nat → Nat → Int32} {df : Nat → Int32} (hv : 2 < vs) (hvs : vs ≤ 6) (hi : 0 < n) (hn : n ≤ 4) {b : Nat} (hb : b < 4) {k : Nat} (hk : k < 3) (h1 : detX n (lyT n ((cpX (cpX B 7 6 0 1) 7 2 1 4) 7) T) = 0) : ∃ (be4 de4 : Int64) (sz4 : Int32) (ro4 co4 mi4 : Nat → Int64) (T4 : Nat → Nat → Int64), KX2_blame l D ca ad [.ref 0, .int 2, .int (Int32.ofNat b), .int (Int32.ofNat k), .int 0] (XW (Int32.ofNat n) (Int32.ofNat vs) be de sz ro co mi T B hd df) (some (.long (-9000000000000000004))) (XW (Int32.ofNat n) (Int32.ofNat vs) be4 de4 sz4 ro4 co4 mi4 T4 (cpX (cpX (cpX (cpX B 7 6 0 1) 7 2 1 4) 7 6 0 0) 7 2 0 4) hd df) := by
  obtain ⟨B1, eB⟩ : ∃ z, z = (cpX (cpX B 7 6 0 1) 7 2 1 4) := ⟨_, rfl⟩
  obtain ⟨B3, eB3⟩ : ∃ z, z = (cpX (cpX B1 7 6 0 0) 7 2 0 4) := ⟨_, rfl⟩
  rw [← eB, ← eB3]
  obtain ⟨be1, de1, sz1, ro1, co1, mi1, T1, hk1⟩ := x_mixed_B_2_1 (l := l) (D := D) (ca := ca) (ad := ad) (vs := vs) (be := be) (de := de) (sz := sz) (ro := ro) (co := co) (mi := mi) (df := df) hn hb hk h1
  rw [← eB] at hk1
  by_cases h2 : detX n (lyT n ((cpX (cpX B1 7 6 0 0) 7 2 0 4) 7) T1) = 0
  · obtain ⟨be3, de3, sz3, ro3, co3, mi3, T3, hk3⟩ := x_mixed_B_2_0 (l := l) (D := D) (ca := ca) (ad := ad) (vs := vs) (be := be1) (de := de1) (sz := sz1) (ro := ro1) (co := co1) (mi := mi1) (T := T1) (B := B1) (df := df) hn hb hk h2
    rw [← eB3] at hk3
    refine ⟨be3, de3, sz3, ro3, co3, mi3, T3, ?_⟩
    refine PX2_blame (Nat.le_of_ble_eq_true rfl) ?_
    intro G hT hC hR
    refine mB hT 2 rfl ?_
    refine hC.1 _ 0 [_] _ _ _ _ _ (c_isVersion_t (i := 2) hv hvs) rfl rfl (Nat.le_of_ble_eq_true rfl) rfl ?_
    refine mB hT 2 rfl ?_
    refine hC.2.1 _ [_] _ _ _ _ (c_isBasket_t hb) rfl (Nat.le_of_ble_eq_true rfl) rfl ?_
    refine mB hT 2 rfl ?_
    refine hC.2.2.1 _ [_] _ _ _ _ (c_isStuff_t hk) rfl (Nat.le_of_ble_eq_true rfl) rfl ?_
    refine mB hT 3 rfl ?_
    refine hC.2.2.2.1 _ 0 [_] _ _ _ _ _ (c_isMaking_t (i := 0) hi hn) rfl rfl (Nat.le_of_ble_eq_true rfl) rfl ?_
    refine mB hT 8 rfl ?_
    refine hC.2.2.2.2.1 _ 0 [_, _, _, _] _ _ _ _ _ (hk1) rfl rfl (Nat.le_of_ble_eq_true rfl) rfl ?_
    refine mB hT 6 rfl ?_
    refine hC.2.2.2.2.2 _ 0 [_, _, _, _] _ _ _ _ _ (hk3) rfl rfl (Nat.le_of_ble_eq_true rfl) rfl ?_
    refine mB hT 6 rfl ?_
    exact hR _ (by decide) _ _ _ rfl rfl
  · obtain ⟨be3, de3, sz3, ro3, co3, mi3, T3, hk3⟩ := x_mixed_2_0 (l := l) (D := D) (ca := ca) (ad := ad) (vs := vs) (be := be1) (de := de1) (sz := sz1) (ro := ro1) (co := co1) (mi := mi1) (T := T1) (B := B1) (df := df) hn hb hk h2
    rw [← eB3] at hk3
    generalize thX _ _ = a2 at hk3
    refine ⟨be3, de3, sz3, ro3, co3, mi3, T3, ?_⟩
    refine PX2_blame (Nat.le_of_ble_eq_true rfl) ?_
    intro G hT hC hR
    refine mB hT 2 rfl ?_
    refine hC.1 _ 0 [_] _ _ _ _ _ (c_isVersion_t (i := 2) hv hvs) rfl rfl (Nat.le_of_ble_eq_true rfl) rfl ?_
    refine mB hT 2 rfl ?_
    refine hC.2.1 _ [_] _ _ _ _ (c_isBasket_t hb) rfl (Nat.le_of_ble_eq_true rfl) rfl ?_
    refine mB hT 2 rfl ?_
    refine hC.2.2.1 _ [_] _ _ _ _ (c_isStuff_t hk) rfl (Nat.le_of_ble_eq_true rfl) rfl ?_
    refine mB hT 3 rfl ?_
    refine hC.2.2.2.1 _ 0 [_] _ _ _ _ _ (c_isMaking_t (i := 0) hi hn) rfl rfl (Nat.le_of_ble_eq_true rfl) rfl ?_
    refine mB hT 8 rfl ?_
    refine hC.2.2.2.2.1 _ 0 [_, _, _, _] _ _ _ _ _ (hk1) rfl rfl (Nat.le_of_ble_eq_true rfl) rfl ?_
    refine mB hT 6 rfl ?_
    refine hC.2.2.2.2.2 _ 0 [_, _, _, _] _ _ _ _ _ (hk3) rfl rfl (Nat.le_of_ble_eq_true rfl) rfl ?_
    refine mB hT 6 rfl ?_
    exact hR _ (by decide) _ _ _ rfl rfl
set_option maxRecDepth 20000 in
theorem x_blame_B_2_0 {n vs : Nat} {be de : Int64} {sz : Int32} {ro co mi : Nat → Int64} {T : Nat → Nat → Int64} {B : Nat → Nat → Nat → Int32} {hd : Nat → Nat → Int32} {df : Nat → Int32} (hv : 2 < vs) (hvs : vs ≤ 6) (hi : 0 < n) (hn : n ≤ 4) {b : Nat} (hb : b < 4) {k : Nat} (hk : k < 3) (h1 : ¬ detX n (lyT n ((cpX (cpX B 7 6 0 1) 7 2 1 4) 7) T) = 0) (h2a : ∀ T2 : Nat → Nat → Int64, detX n (lyT n ((cpX (cpX (cpX (cpX B 7 6 0 1) 7 2 1 4) 7 6 0 0) 7 2 0 4) 7) T2) = 0) : ∃ (be4 de4 : Int64) (sz4 : Int32) (ro4 co4 mi4 : Nat → Int64) (T4 : Nat → Nat → Int64), KX2_blame l D ca ad [.ref 0, .int 2, .int (Int32.ofNat b), .int (Int32.ofNat k), .int 0] (XW (Int32.ofNat n) (Int32.ofNat vs) be de sz ro co mi T B hd df) (some (.long (-9000000000000000004))) (XW (Int32.ofNat n) (Int32.ofNat vs) be4 de4 sz4 ro4 co4 mi4 T4 (cpX (cpX (cpX (cpX B 7 6 0 1) 7 2 1 4) 7 6 0 0) 7 2 0 4) hd df) := by
  obtain ⟨B1, eB⟩ : ∃ z, z = (cpX (cpX B 7 6 0 1) 7 2 1 4) := ⟨_, rfl⟩
  obtain ⟨B3, eB3⟩ : ∃ z, z = (cpX (cpX B1 7 6 0 0) 7 2 0 4) := ⟨_, rfl⟩
  rw [← eB] at h2a
  rw [← eB, ← eB3]
  obtain ⟨be1, de1, sz1, ro1, co1, mi1, T1, hk1⟩ := x_mixed_2_1 (l := l) (D := D) (ca := ca) (ad := ad) (vs := vs) (be := be) (de := de) (sz := sz) (ro := ro) (co := co) (mi := mi) (df := df) hn hb hk h1
  rw [← eB] at hk1
  generalize thX _ _ = a1 at hk1
  have h2 := h2a T1
  obtain ⟨be3, de3, sz3, ro3, co3, mi3, T3, hk3⟩ := x_mixed_B_2_0 (l := l) (D := D) (ca := ca) (ad := ad) (vs := vs) (be := be1) (de := de1) (sz := sz1) (ro := ro1) (co := co1) (mi := mi1) (T := T1) (B := B1) (df := df) hn hb hk h2
  rw [← eB3] at hk3
  refine ⟨be3, de3, sz3, ro3, co3, mi3, T3, ?_⟩
  refine PX2_blame (Nat.le_of_ble_eq_true rfl) ?_
  intro G hT hC hR
  refine mB hT 2 rfl ?_
  refine hC.1 _ 0 [_] _ _ _ _ _ (c_isVersion_t (i := 2) hv hvs) rfl rfl (Nat.le_of_ble_eq_true rfl) rfl ?_
  refine mB hT 2 rfl ?_
  refine hC.2.1 _ [_] _ _ _ _ (c_isBasket_t hb) rfl (Nat.le_of_ble_eq_true rfl) rfl ?_
  refine mB hT 2 rfl ?_
  refine hC.2.2.1 _ [_] _ _ _ _ (c_isStuff_t hk) rfl (Nat.le_of_ble_eq_true rfl) rfl ?_
  refine mB hT 3 rfl ?_
  refine hC.2.2.2.1 _ 0 [_] _ _ _ _ _ (c_isMaking_t (i := 0) hi hn) rfl rfl (Nat.le_of_ble_eq_true rfl) rfl ?_
  refine mB hT 8 rfl ?_
  refine hC.2.2.2.2.1 _ 0 [_, _, _, _] _ _ _ _ _ (hk1) rfl rfl (Nat.le_of_ble_eq_true rfl) rfl ?_
  refine mB hT 6 rfl ?_
  refine hC.2.2.2.2.2 _ 0 [_, _, _, _] _ _ _ _ _ (hk3) rfl rfl (Nat.le_of_ble_eq_true rfl) rfl ?_
  refine mB hT 5 rfl ?_
  refine mIf (fun h1 => ?_) (fun h1 => ?_)
  · refine mNf (lv2 := [(7, .long (-9000000000000000004)), (5, .long a1), (0, .ref 0), (1, .int 2), (2, .int (Int32.ofNat b)), (3, .int (Int32.ofNat k)), (4, .int 0)]) (st2 := []) rfl rfl ?_
    refine mB hT 1 rfl ?_
    exact hR _ (by decide) _ _ _ rfl rfl
  · refine mNf (lv2 := [(7, .long (-9000000000000000004)), (5, .long a1), (0, .ref 0), (1, .int 2), (2, .int (Int32.ofNat b)), (3, .int (Int32.ofNat k)), (4, .int 0)]) (st2 := []) rfl rfl ?_
    refine mB hT 5 rfl ?_
    exact hR _ (by decide) _ _ _ rfl rfl
set_option maxRecDepth 20000 in
theorem x_blame_C_2_0 {n vs : Nat} {be de : Int64} {sz : Int32} {ro co mi : Nat → Int64} {T : Nat → Nat → Int64} {B : Nat → Nat → Nat → Int32} {hd : Nat → Nat → Int32} {df : Nat → Int32} (hv : 2 < vs) (hvs : vs ≤ 6) (hi : 0 < n) (hn : n ≤ 4) {b : Nat} (hb : b < 4) {k : Nat} (hk : k < 3) (h1 : ¬ detX n (lyT n ((cpX (cpX B 7 6 0 1) 7 2 1 4) 7) T) = 0) (h2a : ∀ T2 : Nat → Nat → Int64, ¬ detX n (lyT n ((cpX (cpX (cpX (cpX B 7 6 0 1) 7 2 1 4) 7 6 0 0) 7 2 0 4) 7) T2) = 0) (ha : ¬ (thX (smX n ((cpX (cpX B 7 6 0 1) 7 2 1 4) 7) (roX n (lyT n ((cpX (cpX B 7 6 0 1) 7 2 1 4) 7) T) (hd b) ro) k 1) (absX (detX n (lyT n ((cpX (cpX B 7 6 0 1) 7 2 1 4) 7) T)))) = -9000000000000000004) (hb2 : ∀ (T2 : Nat → Nat → Int64) (ro2 : Nat → Int64), ¬ (thX (smX n ((cpX (cpX (cpX (cpX B 7 6 0 1) 7 2 1 4) 7 6 0 0) 7 2 0 4) 7) (roX n (lyT n ((cpX (cpX (cpX (cpX B 7 6 0 1) 7 2 1 4) 7 6 0 0) 7 2 0 4) 7) T2) (hd b) ro2) k 1) (absX (detX n (lyT n ((cpX (cpX (cpX (cpX B 7 6 0 1) 7 2 1 4) 7 6 0 0) 7 2 0 4) 7) T2)))) = -9000000000000000004) : ∃ (T2 : Nat → Nat → Int64) (ro2 : Nat → Int64), ∃ (be4 de4 : Int64) (sz4 : Int32) (ro4 co4 mi4 : Nat → Int64) (T4 : Nat → Nat → Int64), KX2_blame l D ca ad [.ref 0, .int 2, .int (Int32.ofNat b), .int (Int32.ofNat k), .int 0] (XW (Int32.ofNat n) (Int32.ofNat vs) be de sz ro co mi T B hd df) (some (.long ((thX (smX n ((cpX (cpX B 7 6 0 1) 7 2 1 4) 7) (roX n (lyT n ((cpX (cpX B 7 6 0 1) 7 2 1 4) 7) T) (hd b) ro) k 1) (absX (detX n (lyT n ((cpX (cpX B 7 6 0 1) 7 2 1 4) 7) T)))) - (thX (smX n ((cpX (cpX (cpX (cpX B 7 6 0 1) 7 2 1 4) 7 6 0 0) 7 2 0 4) 7) (roX n (lyT n ((cpX (cpX (cpX (cpX B 7 6 0 1) 7 2 1 4) 7 6 0 0) 7 2 0 4) 7) T2) (hd b) ro2) k 1) (absX (detX n (lyT n ((cpX (cpX (cpX (cpX B 7 6 0 1) 7 2 1 4) 7 6 0 0) 7 2 0 4) 7) T2))))))) (XW (Int32.ofNat n) (Int32.ofNat vs) be4 de4 sz4 ro4 co4 mi4 T4 (cpX (cpX (cpX (cpX B 7 6 0 1) 7 2 1 4) 7 6 0 0) 7 2 0 4) hd df) := by
  obtain ⟨B1, eB⟩ : ∃ z, z = (cpX (cpX B 7 6 0 1) 7 2 1 4) := ⟨_, rfl⟩
  obtain ⟨B3, eB3⟩ : ∃ z, z = (cpX (cpX B1 7 6 0 0) 7 2 0 4) := ⟨_, rfl⟩
  obtain ⟨be1, de1, sz1, ro1, co1, mi1, T1, hk1⟩ := x_mixed_2_1 (l := l) (D := D) (ca := ca) (ad := ad) (vs := vs) (be := be) (de := de) (sz := sz) (ro := ro) (co := co) (mi := mi) (df := df) hn hb hk h1
  refine ⟨T1, ro1, ?_⟩
  have hb3 := hb2 T1 ro1
  rw [← eB] at h2a hk1 hb3
  rw [← eB, ← eB3]
  have h2 := h2a T1
  obtain ⟨be3, de3, sz3, ro3, co3, mi3, T3, hk3⟩ := x_mixed_2_0 (l := l) (D := D) (ca := ca) (ad := ad) (vs := vs) (be := be1) (de := de1) (sz := sz1) (ro := ro1) (co := co1) (mi := mi1) (T := T1) (B := B1) (df := df) hn hb hk h2
  rw [← eB3] at hk3
  rw [← eB3] at hb3
  rw [← eB] at ha
  obtain ⟨a1, ea1⟩ : ∃ z, z = (thX (smX n (B1 7) (roX n (lyT n (B1 7) T) (hd b) ro) k 1) (absX (detX n (lyT n (B1 7) T)))) := ⟨_, rfl⟩
  obtain ⟨a2, ea2⟩ : ∃ z, z = (thX (smX n (B3 7) (roX n (lyT n (B3 7) T1) (hd b) ro1) k 1) (absX (detX n (lyT n (B3 7) T1)))) := ⟨_, rfl⟩
  rw [← ea1] at hk1 ha ⊢
  rw [← ea2] at hk3 hb3 ⊢
  refine ⟨be3, de3, sz3, ro3, co3, mi3, T3, ?_⟩
  refine PX2_blame (Nat.le_of_ble_eq_true rfl) ?_
  intro G hT hC hR
  refine mB hT 2 rfl ?_
  refine hC.1 _ 0 [_] _ _ _ _ _ (c_isVersion_t (i := 2) hv hvs) rfl rfl (Nat.le_of_ble_eq_true rfl) rfl ?_
  refine mB hT 2 rfl ?_
  refine hC.2.1 _ [_] _ _ _ _ (c_isBasket_t hb) rfl (Nat.le_of_ble_eq_true rfl) rfl ?_
  refine mB hT 2 rfl ?_
  refine hC.2.2.1 _ [_] _ _ _ _ (c_isStuff_t hk) rfl (Nat.le_of_ble_eq_true rfl) rfl ?_
  refine mB hT 3 rfl ?_
  refine hC.2.2.2.1 _ 0 [_] _ _ _ _ _ (c_isMaking_t (i := 0) hi hn) rfl rfl (Nat.le_of_ble_eq_true rfl) rfl ?_
  refine mB hT 8 rfl ?_
  refine hC.2.2.2.2.1 _ 0 [_, _, _, _] _ _ _ _ _ (hk1) rfl rfl (Nat.le_of_ble_eq_true rfl) rfl ?_
  refine mB hT 6 rfl ?_
  refine hC.2.2.2.2.2 _ 0 [_, _, _, _] _ _ _ _ _ (hk3) rfl rfl (Nat.le_of_ble_eq_true rfl) rfl ?_
  refine mB hT 5 rfl ?_
  refine mIf (fun hp => absurd hp (fun q => ha (lc_eq.mp q))) (fun _ => ?_)
  refine mNf (lv2 := [(7, .long a2), (5, .long a1), (0, .ref 0), (1, .int 2), (2, .int (Int32.ofNat b)), (3, .int (Int32.ofNat k)), (4, .int 0)]) (st2 := []) rfl rfl ?_
  refine mB hT 4 rfl ?_
  refine mIf (fun hp => absurd hp (fun q => hb3 (lc_eq.mp q))) (fun _ => ?_)
  refine mB hT 3 rfl ?_
  exact hR _ (by decide) _ _ _ rfl rfl
set_option maxRecDepth 20000 in
theorem x_blame_A_2_1 {n vs : Nat} {be de : Int64} {sz : Int32} {ro co mi : Nat → Int64} {T : Nat → Nat → Int64} {B : Nat → Nat → Nat → Int32} {hd : Nat → Nat → Int32} {df : Nat → Int32} (hv : 2 < vs) (hvs : vs ≤ 6) (hi : 1 < n) (hn : n ≤ 4) {b : Nat} (hb : b < 4) {k : Nat} (hk : k < 3) (h1 : detX n (lyT n ((cpX (cpX B 7 6 0 2) 7 2 2 4) 7) T) = 0) : ∃ (be4 de4 : Int64) (sz4 : Int32) (ro4 co4 mi4 : Nat → Int64) (T4 : Nat → Nat → Int64), KX2_blame l D ca ad [.ref 0, .int 2, .int (Int32.ofNat b), .int (Int32.ofNat k), .int 1] (XW (Int32.ofNat n) (Int32.ofNat vs) be de sz ro co mi T B hd df) (some (.long (-9000000000000000004))) (XW (Int32.ofNat n) (Int32.ofNat vs) be4 de4 sz4 ro4 co4 mi4 T4 (cpX (cpX (cpX (cpX B 7 6 0 2) 7 2 2 4) 7 6 0 1) 7 2 1 4) hd df) := by
  obtain ⟨B1, eB⟩ : ∃ z, z = (cpX (cpX B 7 6 0 2) 7 2 2 4) := ⟨_, rfl⟩
  obtain ⟨B3, eB3⟩ : ∃ z, z = (cpX (cpX B1 7 6 0 1) 7 2 1 4) := ⟨_, rfl⟩
  rw [← eB, ← eB3]
  obtain ⟨be1, de1, sz1, ro1, co1, mi1, T1, hk1⟩ := x_mixed_B_2_2 (l := l) (D := D) (ca := ca) (ad := ad) (vs := vs) (be := be) (de := de) (sz := sz) (ro := ro) (co := co) (mi := mi) (df := df) hn hb hk h1
  rw [← eB] at hk1
  by_cases h2 : detX n (lyT n ((cpX (cpX B1 7 6 0 1) 7 2 1 4) 7) T1) = 0
  · obtain ⟨be3, de3, sz3, ro3, co3, mi3, T3, hk3⟩ := x_mixed_B_2_1 (l := l) (D := D) (ca := ca) (ad := ad) (vs := vs) (be := be1) (de := de1) (sz := sz1) (ro := ro1) (co := co1) (mi := mi1) (T := T1) (B := B1) (df := df) hn hb hk h2
    rw [← eB3] at hk3
    refine ⟨be3, de3, sz3, ro3, co3, mi3, T3, ?_⟩
    refine PX2_blame (Nat.le_of_ble_eq_true rfl) ?_
    intro G hT hC hR
    refine mB hT 2 rfl ?_
    refine hC.1 _ 0 [_] _ _ _ _ _ (c_isVersion_t (i := 2) hv hvs) rfl rfl (Nat.le_of_ble_eq_true rfl) rfl ?_
    refine mB hT 2 rfl ?_
    refine hC.2.1 _ [_] _ _ _ _ (c_isBasket_t hb) rfl (Nat.le_of_ble_eq_true rfl) rfl ?_
    refine mB hT 2 rfl ?_
    refine hC.2.2.1 _ [_] _ _ _ _ (c_isStuff_t hk) rfl (Nat.le_of_ble_eq_true rfl) rfl ?_
    refine mB hT 3 rfl ?_
    refine hC.2.2.2.1 _ 0 [_] _ _ _ _ _ (c_isMaking_t (i := 1) hi hn) rfl rfl (Nat.le_of_ble_eq_true rfl) rfl ?_
    refine mB hT 8 rfl ?_
    refine hC.2.2.2.2.1 _ 0 [_, _, _, _] _ _ _ _ _ (hk1) rfl rfl (Nat.le_of_ble_eq_true rfl) rfl ?_
    refine mB hT 6 rfl ?_
    refine hC.2.2.2.2.2 _ 0 [_, _, _, _] _ _ _ _ _ (hk3) rfl rfl (Nat.le_of_ble_eq_true rfl) rfl ?_
    refine mB hT 6 rfl ?_
    exact hR _ (by decide) _ _ _ rfl rfl
  · obtain ⟨be3, de3, sz3, ro3, co3, mi3, T3, hk3⟩ := x_mixed_2_1 (l := l) (D := D) (ca := ca) (ad := ad) (vs := vs) (be := be1) (de := de1) (sz := sz1) (ro := ro1) (co := co1) (mi := mi1) (T := T1) (B := B1) (df := df) hn hb hk h2
    rw [← eB3] at hk3
    generalize thX _ _ = a2 at hk3
    refine ⟨be3, de3, sz3, ro3, co3, mi3, T3, ?_⟩
    refine PX2_blame (Nat.le_of_ble_eq_true rfl) ?_
    intro G hT hC hR
    refine mB hT 2 rfl ?_
    refine hC.1 _ 0 [_] _ _ _ _ _ (c_isVersion_t (i := 2) hv hvs) rfl rfl (Nat.le_of_ble_eq_true rfl) rfl ?_
    refine mB hT 2 rfl ?_
    refine hC.2.1 _ [_] _ _ _ _ (c_isBasket_t hb) rfl (Nat.le_of_ble_eq_true rfl) rfl ?_
    refine mB hT 2 rfl ?_
    refine hC.2.2.1 _ [_] _ _ _ _ (c_isStuff_t hk) rfl (Nat.le_of_ble_eq_true rfl) rfl ?_
    refine mB hT 3 rfl ?_
    refine hC.2.2.2.1 _ 0 [_] _ _ _ _ _ (c_isMaking_t (i := 1) hi hn) rfl rfl (Nat.le_of_ble_eq_true rfl) rfl ?_
    refine mB hT 8 rfl ?_
    refine hC.2.2.2.2.1 _ 0 [_, _, _, _] _ _ _ _ _ (hk1) rfl rfl (Nat.le_of_ble_eq_true rfl) rfl ?_
    refine mB hT 6 rfl ?_
    refine hC.2.2.2.2.2 _ 0 [_, _, _, _] _ _ _ _ _ (hk3) rfl rfl (Nat.le_of_ble_eq_true rfl) rfl ?_
    refine mB hT 6 rfl ?_
    exact hR _ (by decide) _ _ _ rfl rfl
set_option maxRecDepth 20000 in
theorem x_blame_B_2_1 {n vs : Nat} {be de : Int64} {sz : Int32} {ro co mi : Nat → Int64} {T : Nat → Nat → Int64} {B : Nat → Nat → Nat → Int32} {hd : Nat → Nat → Int32} {df : Nat → Int32} (hv : 2 < vs) (hvs : vs ≤ 6) (hi : 1 < n) (hn : n ≤ 4) {b : Nat} (hb : b < 4) {k : Nat} (hk : k < 3) (h1 : ¬ detX n (lyT n ((cpX (cpX B 7 6 0 2) 7 2 2 4) 7) T) = 0) (h2a : ∀ T2 : Nat → Nat → Int64, detX n (lyT n ((cpX (cpX (cpX (cpX B 7 6 0 2) 7 2 2 4) 7 6 0 1) 7 2 1 4) 7) T2) = 0) : ∃ (be4 de4 : Int64) (sz4 : Int32) (ro4 co4 mi4 : Nat → Int64) (T4 : Nat → Nat → Int64), KX2_blame l D ca ad [.ref 0, .int 2, .int (Int32.ofNat b), .int (Int32.ofNat k), .int 1] (XW (Int32.ofNat n) (Int32.ofNat vs) be de sz ro co mi T B hd df) (some (.long (-9000000000000000004))) (XW (Int32.ofNat n) (Int32.ofNat vs) be4 de4 sz4 ro4 co4 mi4 T4 (cpX (cpX (cpX (cpX B 7 6 0 2) 7 2 2 4) 7 6 0 1) 7 2 1 4) hd df) := by
  obtain ⟨B1, eB⟩ : ∃ z, z = (cpX (cpX B 7 6 0 2) 7 2 2 4) := ⟨_, rfl⟩
  obtain ⟨B3, eB3⟩ : ∃ z, z = (cpX (cpX B1 7 6 0 1) 7 2 1 4) := ⟨_, rfl⟩
  rw [← eB] at h2a
  rw [← eB, ← eB3]
  obtain ⟨be1, de1, sz1, ro1, co1, mi1, T1, hk1⟩ := x_mixed_2_2 (l := l) (D := D) (ca := ca) (ad := ad) (vs := vs) (be := be) (de := de) (sz := sz) (ro := ro) (co := co) (mi := mi) (df := df) hn hb hk h1
  rw [← eB] at hk1
  generalize thX _ _ = a1 at hk1
  have h2 := h2a T1
  obtain ⟨be3, de3, sz3, ro3, co3, mi3, T3, hk3⟩ := x_mixed_B_2_1 (l := l) (D := D) (ca := ca) (ad := ad) (vs := vs) (be := be1) (de := de1) (sz := sz1) (ro := ro1) (co := co1) (mi := mi1) (T := T1) (B := B1) (df := df) hn hb hk h2
  rw [← eB3] at hk3
  refine ⟨be3, de3, sz3, ro3, co3, mi3, T3, ?_⟩
  refine PX2_blame (Nat.le_of_ble_eq_true rfl) ?_
  intro G hT hC hR
  refine mB hT 2 rfl ?_
  refine hC.1 _ 0 [_] _ _ _ _ _ (c_isVersion_t (i := 2) hv hvs) rfl rfl (Nat.le_of_ble_eq_true rfl) rfl ?_
  refine mB hT 2 rfl ?_
  refine hC.2.1 _ [_] _ _ _ _ (c_isBasket_t hb) rfl (Nat.le_of_ble_eq_true rfl) rfl ?_
  refine mB hT 2 rfl ?_
  refine hC.2.2.1 _ [_] _ _ _ _ (c_isStuff_t hk) rfl (Nat.le_of_ble_eq_true rfl) rfl ?_
  refine mB hT 3 rfl ?_
  refine hC.2.2.2.1 _ 0 [_] _ _ _ _ _ (c_isMaking_t (i := 1) hi hn) rfl rfl (Nat.le_of_ble_eq_true rfl) rfl ?_
  refine mB hT 8 rfl ?_
  refine hC.2.2.2.2.1 _ 0 [_, _, _, _] _ _ _ _ _ (hk1) rfl rfl (Nat.le_of_ble_eq_true rfl) rfl ?_
  refine mB hT 6 rfl ?_
  refine hC.2.2.2.2.2 _ 0 [_, _, _, _] _ _ _ _ _ (hk3) rfl rfl (Nat.le_of_ble_eq_true rfl) rfl ?_
  refine mB hT 5 rfl ?_
  refine mIf (fun h1 => ?_) (fun h1 => ?_)
  · refine mNf (lv2 := [(7, .long (-9000000000000000004)), (5, .long a1), (0, .ref 0), (1, .int 2), (2, .int (Int32.ofNat b)), (3, .int (Int32.ofNat k)), (4, .int 1)]) (st2 := []) rfl rfl ?_
    refine mB hT 1 rfl ?_
    exact hR _ (by decide) _ _ _ rfl rfl
  · refine mNf (lv2 := [(7, .long (-9000000000000000004)), (5, .long a1), (0, .ref 0), (1, .int 2), (2, .int (Int32.ofNat b)), (3, .int (Int32.ofNat k)), (4, .int 1)]) (st2 := []) rfl rfl ?_
    refine mB hT 5 rfl ?_
    exact hR _ (by decide) _ _ _ rfl rfl
set_option maxRecDepth 20000 in
theorem x_blame_C_2_1 {n vs : Nat} {be de : Int64} {sz : Int32} {ro co mi : Nat → Int64} {T : Nat → Nat → Int64} {B : Nat → Nat → Nat → Int32} {hd : Nat → Nat → Int32} {df : Nat → Int32} (hv : 2 < vs) (hvs : vs ≤ 6) (hi : 1 < n) (hn : n ≤ 4) {b : Nat} (hb : b < 4) {k : Nat} (hk : k < 3) (h1 : ¬ detX n (lyT n ((cpX (cpX B 7 6 0 2) 7 2 2 4) 7) T) = 0) (h2a : ∀ T2 : Nat → Nat → Int64, ¬ detX n (lyT n ((cpX (cpX (cpX (cpX B 7 6 0 2) 7 2 2 4) 7 6 0 1) 7 2 1 4) 7) T2) = 0) (ha : ¬ (thX (smX n ((cpX (cpX B 7 6 0 2) 7 2 2 4) 7) (roX n (lyT n ((cpX (cpX B 7 6 0 2) 7 2 2 4) 7) T) (hd b) ro) k 1) (absX (detX n (lyT n ((cpX (cpX B 7 6 0 2) 7 2 2 4) 7) T)))) = -9000000000000000004) (hb2 : ∀ (T2 : Nat → Nat → Int64) (ro2 : Nat → Int64), ¬ (thX (smX n ((cpX (cpX (cpX (cpX B 7 6 0 2) 7 2 2 4) 7 6 0 1) 7 2 1 4) 7) (roX n (lyT n ((cpX (cpX (cpX (cpX B 7 6 0 2) 7 2 2 4) 7 6 0 1) 7 2 1 4) 7) T2) (hd b) ro2) k 1) (absX (detX n (lyT n ((cpX (cpX (cpX (cpX B 7 6 0 2) 7 2 2 4) 7 6 0 1) 7 2 1 4) 7) T2)))) = -9000000000000000004) : ∃ (T2 : Nat → Nat → Int64) (ro2 : Nat → Int64), ∃ (be4 de4 : Int64) (sz4 : Int32) (ro4 co4 mi4 : Nat → Int64) (T4 : Nat → Nat → Int64), KX2_blame l D ca ad [.ref 0, .int 2, .int (Int32.ofNat b), .int (Int32.ofNat k), .int 1] (XW (Int32.ofNat n) (Int32.ofNat vs) be de sz ro co mi T B hd df) (some (.long ((thX (smX n ((cpX (cpX B 7 6 0 2) 7 2 2 4) 7) (roX n (lyT n ((cpX (cpX B 7 6 0 2) 7 2 2 4) 7) T) (hd b) ro) k 1) (absX (detX n (lyT n ((cpX (cpX B 7 6 0 2) 7 2 2 4) 7) T)))) - (thX (smX n ((cpX (cpX (cpX (cpX B 7 6 0 2) 7 2 2 4) 7 6 0 1) 7 2 1 4) 7) (roX n (lyT n ((cpX (cpX (cpX (cpX B 7 6 0 2) 7 2 2 4) 7 6 0 1) 7 2 1 4) 7) T2) (hd b) ro2) k 1) (absX (detX n (lyT n ((cpX (cpX (cpX (cpX B 7 6 0 2) 7 2 2 4) 7 6 0 1) 7 2 1 4) 7) T2))))))) (XW (Int32.ofNat n) (Int32.ofNat vs) be4 de4 sz4 ro4 co4 mi4 T4 (cpX (cpX (cpX (cpX B 7 6 0 2) 7 2 2 4) 7 6 0 1) 7 2 1 4) hd df) := by
  obtain ⟨B1, eB⟩ : ∃ z, z = (cpX (cpX B 7 6 0 2) 7 2 2 4) := ⟨_, rfl⟩
  obtain ⟨B3, eB3⟩ : ∃ z, z = (cpX (cpX B1 7 6 0 1) 7 2 1 4) := ⟨_, rfl⟩
  obtain ⟨be1, de1, sz1, ro1, co1, mi1, T1, hk1⟩ := x_mixed_2_2 (l := l) (D := D) (ca := ca) (ad := ad) (vs := vs) (be := be) (de := de) (sz := sz) (ro := ro) (co := co) (mi := mi) (df := df) hn hb hk h1
  refine ⟨T1, ro1, ?_⟩
  have hb3 := hb2 T1 ro1
  rw [← eB] at h2a hk1 hb3
  rw [← eB, ← eB3]
  have h2 := h2a T1
  obtain ⟨be3, de3, sz3, ro3, co3, mi3, T3, hk3⟩ := x_mixed_2_1 (l := l) (D := D) (ca := ca) (ad := ad) (vs := vs) (be := be1) (de := de1) (sz := sz1) (ro := ro1) (co := co1) (mi := mi1) (T := T1) (B := B1) (df := df) hn hb hk h2
  rw [← eB3] at hk3
  rw [← eB3] at hb3
  rw [← eB] at ha
  obtain ⟨a1, ea1⟩ : ∃ z, z = (thX (smX n (B1 7) (roX n (lyT n (B1 7) T) (hd b) ro) k 1) (absX (detX n (lyT n (B1 7) T)))) := ⟨_, rfl⟩
  obtain ⟨a2, ea2⟩ : ∃ z, z = (thX (smX n (B3 7) (roX n (lyT n (B3 7) T1) (hd b) ro1) k 1) (absX (detX n (lyT n (B3 7) T1)))) := ⟨_, rfl⟩
  rw [← ea1] at hk1 ha ⊢
  rw [← ea2] at hk3 hb3 ⊢
  refine ⟨be3, de3, sz3, ro3, co3, mi3, T3, ?_⟩
  refine PX2_blame (Nat.le_of_ble_eq_true rfl) ?_
  intro G hT hC hR
  refine mB hT 2 rfl ?_
  refine hC.1 _ 0 [_] _ _ _ _ _ (c_isVersion_t (i := 2) hv hvs) rfl rfl (Nat.le_of_ble_eq_true rfl) rfl ?_
  refine mB hT 2 rfl ?_
  refine hC.2.1 _ [_] _ _ _ _ (c_isBasket_t hb) rfl (Nat.le_of_ble_eq_true rfl) rfl ?_
  refine mB hT 2 rfl ?_
  refine hC.2.2.1 _ [_] _ _ _ _ (c_isStuff_t hk) rfl (Nat.le_of_ble_eq_true rfl) rfl ?_
  refine mB hT 3 rfl ?_
  refine hC.2.2.2.1 _ 0 [_] _ _ _ _ _ (c_isMaking_t (i := 1) hi hn) rfl rfl (Nat.le_of_ble_eq_true rfl) rfl ?_
  refine mB hT 8 rfl ?_
  refine hC.2.2.2.2.1 _ 0 [_, _, _, _] _ _ _ _ _ (hk1) rfl rfl (Nat.le_of_ble_eq_true rfl) rfl ?_
  refine mB hT 6 rfl ?_
  refine hC.2.2.2.2.2 _ 0 [_, _, _, _] _ _ _ _ _ (hk3) rfl rfl (Nat.le_of_ble_eq_true rfl) rfl ?_
  refine mB hT 5 rfl ?_
  refine mIf (fun hp => absurd hp (fun q => ha (lc_eq.mp q))) (fun _ => ?_)
  refine mNf (lv2 := [(7, .long a2), (5, .long a1), (0, .ref 0), (1, .int 2), (2, .int (Int32.ofNat b)), (3, .int (Int32.ofNat k)), (4, .int 1)]) (st2 := []) rfl rfl ?_
  refine mB hT 4 rfl ?_
  refine mIf (fun hp => absurd hp (fun q => hb3 (lc_eq.mp q))) (fun _ => ?_)
  refine mB hT 3 rfl ?_
  exact hR _ (by decide) _ _ _ rfl rfl
set_option maxRecDepth 20000 in
theorem x_blame_A_2_2 {n vs : Nat} {be de : Int64} {sz : Int32} {ro co mi : Nat → Int64} {T : Nat → Nat → Int64} {B : Nat → Nat → Nat → Int32} {hd : Nat → Nat → Int32} {df : Nat → Int32} (hv : 2 < vs) (hvs : vs ≤ 6) (hi : 2 < n) (hn : n ≤ 4) {b : Nat} (hb : b < 4) {k : Nat} (hk : k < 3) (h1 : detX n (lyT n ((cpX (cpX B 7 6 0 3) 7 2 3 4) 7) T) = 0) : ∃ (be4 de4 : Int64) (sz4 : Int32) (ro4 co4 mi4 : Nat → Int64) (T4 : Nat → Nat → Int64), KX2_blame l D ca ad [.ref 0, .int 2, .int (Int32.ofNat b), .int (Int32.ofNat k), .int 2] (XW (Int32.ofNat n) (Int32.ofNat vs) be de sz ro co mi T B hd df) (some (.long (-9000000000000000004))) (XW (Int32.ofNat n) (Int32.ofNat vs) be4 de4 sz4 ro4 co4 mi4 T4 (cpX (cpX (cpX (cpX B 7 6 0 3) 7 2 3 4) 7 6 0 2) 7 2 2 4) hd df) := by
  obtain ⟨B1, eB⟩ : ∃ z, z = (cpX (cpX B 7 6 0 3) 7 2 3 4) := ⟨_, rfl⟩
  obtain ⟨B3, eB3⟩ : ∃ z, z = (cpX (cpX B1 7 6 0 2) 7 2 2 4) := ⟨_, rfl⟩
  rw [← eB, ← eB3]
  obtain ⟨be1, de1, sz1, ro1, co1, mi1, T1, hk1⟩ := x_mixed_B_2_3 (l := l) (D := D) (ca := ca) (ad := ad) (vs := vs) (be := be) (de := de) (sz := sz) (ro := ro) (co := co) (mi := mi) (df := df) hn hb hk h1
  rw [← eB] at hk1
  by_cases h2 : detX n (lyT n ((cpX (cpX B1 7 6 0 2) 7 2 2 4) 7) T1) = 0
  · obtain ⟨be3, de3, sz3, ro3, co3, mi3, T3, hk3⟩ := x_mixed_B_2_2 (l := l) (D := D) (ca := ca) (ad := ad) (vs := vs) (be := be1) (de := de1) (sz := sz1) (ro := ro1) (co := co1) (mi := mi1) (T := T1) (B := B1) (df := df) hn hb hk h2
    rw [← eB3] at hk3
    refine ⟨be3, de3, sz3, ro3, co3, mi3, T3, ?_⟩
    refine PX2_blame (Nat.le_of_ble_eq_true rfl) ?_
    intro G hT hC hR
    refine mB hT 2 rfl ?_
    refine hC.1 _ 0 [_] _ _ _ _ _ (c_isVersion_t (i := 2) hv hvs) rfl rfl (Nat.le_of_ble_eq_true rfl) rfl ?_
    refine mB hT 2 rfl ?_
    refine hC.2.1 _ [_] _ _ _ _ (c_isBasket_t hb) rfl (Nat.le_of_ble_eq_true rfl) rfl ?_
    refine mB hT 2 rfl ?_
    refine hC.2.2.1 _ [_] _ _ _ _ (c_isStuff_t hk) rfl (Nat.le_of_ble_eq_true rfl) rfl ?_
    refine mB hT 3 rfl ?_
    refine hC.2.2.2.1 _ 0 [_] _ _ _ _ _ (c_isMaking_t (i := 2) hi hn) rfl rfl (Nat.le_of_ble_eq_true rfl) rfl ?_
    refine mB hT 8 rfl ?_
    refine hC.2.2.2.2.1 _ 0 [_, _, _, _] _ _ _ _ _ (hk1) rfl rfl (Nat.le_of_ble_eq_true rfl) rfl ?_
    refine mB hT 6 rfl ?_
    refine hC.2.2.2.2.2 _ 0 [_, _, _, _] _ _ _ _ _ (hk3) rfl rfl (Nat.le_of_ble_eq_true rfl) rfl ?_
    refine mB hT 6 rfl ?_
    exact hR _ (by decide) _ _ _ rfl rfl
  · obtain ⟨be3, de3, sz3, ro3, co3, mi3, T3, hk3⟩ := x_mixed_2_2 (l := l) (D := D) (ca := ca) (ad := ad) (vs := vs) (be := be1) (de := de1) (sz := sz1) (ro := ro1) (co := co1) (mi := mi1) (T := T1) (B := B1) (df := df) hn hb hk h2
    rw [← eB3] at hk3
    generalize thX _ _ = a2 at hk3
    refine ⟨be3, de3, sz3, ro3, co3, mi3, T3, ?_⟩
    refine PX2_blame (Nat.le_of_ble_eq_true rfl) ?_
    intro G hT hC hR
    refine mB hT 2 rfl ?_
    refine hC.1 _ 0 [_] _ _ _ _ _ (c_isVersion_t (i := 2) hv hvs) rfl rfl (Nat.le_of_ble_eq_true rfl) rfl ?_
    refine mB hT 2 rfl ?_
    refine hC.2.1 _ [_] _ _ _ _ (c_isBasket_t hb) rfl (Nat.le_of_ble_eq_true rfl) rfl ?_
    refine mB hT 2 rfl ?_
    refine hC.2.2.1 _ [_] _ _ _ _ (c_isStuff_t hk) rfl (Nat.le_of_ble_eq_true rfl) rfl ?_
    refine mB hT 3 rfl ?_
    refine hC.2.2.2.1 _ 0 [_] _ _ _ _ _ (c_isMaking_t (i := 2) hi hn) rfl rfl (Nat.le_of_ble_eq_true rfl) rfl ?_
    refine mB hT 8 rfl ?_
    refine hC.2.2.2.2.1 _ 0 [_, _, _, _] _ _ _ _ _ (hk1) rfl rfl (Nat.le_of_ble_eq_true rfl) rfl ?_
    refine mB hT 6 rfl ?_
    refine hC.2.2.2.2.2 _ 0 [_, _, _, _] _ _ _ _ _ (hk3) rfl rfl (Nat.le_of_ble_eq_true rfl) rfl ?_
    refine mB hT 6 rfl ?_
    exact hR _ (by decide) _ _ _ rfl rfl
set_option maxRecDepth 20000 in
theorem x_blame_B_2_2 {n vs : Nat} {be de : Int64} {sz : Int32} {ro co mi : Nat → Int64} {T : Nat → Nat → Int64} {B : Nat → Nat → Nat → Int32} {hd : Nat → Nat → Int32} {df : Nat → Int32} (hv : 2 < vs) (hvs : vs ≤ 6) (hi : 2 < n) (hn : n ≤ 4) {b : Nat} (hb : b < 4) {k : Nat} (hk : k < 3) (h1 : ¬ detX n (lyT n ((cpX (cpX B 7 6 0 3) 7 2 3 4) 7) T) = 0) (h2a : ∀ T2 : Nat → Nat → Int64, detX n (lyT n ((cpX (cpX (cpX (cpX B 7 6 0 3) 7 2 3 4) 7 6 0 2) 7 2 2 4) 7) T2) = 0) : ∃ (be4 de4 : Int64) (sz4 : Int32) (ro4 co4 mi4 : Nat → Int64) (T4 : Nat → Nat → Int64), KX2_blame l D ca ad [.ref 0, .int 2, .int (Int32.ofNat b), .int (Int32.ofNat k), .int 2] (XW (Int32.ofNat n) (Int32.ofNat vs) be de sz ro co mi T B hd df) (some (.long (-9000000000000000004))) (XW (Int32.ofNat n) (Int32.ofNat vs) be4 de4 sz4 ro4 co4 mi4 T4 (cpX (cpX (cpX (cpX B 7 6 0 3) 7 2 3 4) 7 6 0 2) 7 2 2 4) hd df) := by
  obtain ⟨B1, eB⟩ : ∃ z, z = (cpX (cpX B 7 6 0 3) 7 2 3 4) := ⟨_, rfl⟩
  obtain ⟨B3, eB3⟩ : ∃ z, z = (cpX (cpX B1 7 6 0 2) 7 2 2 4) := ⟨_, rfl⟩
  rw [← eB] at h2a
  rw [← eB, ← eB3]
  obtain ⟨be1, de1, sz1, ro1, co1, mi1, T1, hk1⟩ := x_mixed_2_3 (l := l) (D := D) (ca := ca) (ad := ad) (vs := vs) (be := be) (de := de) (sz := sz) (ro := ro) (co := co) (mi := mi) (df := df) hn hb hk h1
  rw [← eB] at hk1
  generalize thX _ _ = a1 at hk1
  have h2 := h2a T1
  obtain ⟨be3, de3, sz3, ro3, co3, mi3, T3, hk3⟩ := x_mixed_B_2_2 (l := l) (D := D) (ca := ca) (ad := ad) (vs := vs) (be := be1) (de := de1) (sz := sz1) (ro := ro1) (co := co1) (mi := mi1) (T := T1) (B := B1) (df := df) hn hb hk h2
  rw [← eB3] at hk3
  refine ⟨be3, de3, sz3, ro3, co3, mi3, T3, ?_⟩
  refine PX2_blame (Nat.le_of_ble_eq_true rfl) ?_
  intro G hT hC hR
  refine mB hT 2 rfl ?_
  refine hC.1 _ 0 [_] _ _ _ _ _ (c_isVersion_t (i := 2) hv hvs) rfl rfl (Nat.le_of_ble_eq_true rfl) rfl ?_
  refine mB hT 2 rfl ?_
  refine hC.2.1 _ [_] _ _ _ _ (c_isBasket_t hb) rfl (Nat.le_of_ble_eq_true rfl) rfl ?_
  refine mB hT 2 rfl ?_
  refine hC.2.2.1 _ [_] _ _ _ _ (c_isStuff_t hk) rfl (Nat.le_of_ble_eq_true rfl) rfl ?_
  refine mB hT 3 rfl ?_
  refine hC.2.2.2.1 _ 0 [_] _ _ _ _ _ (c_isMaking_t (i := 2) hi hn) rfl rfl (Nat.le_of_ble_eq_true rfl) rfl ?_
  refine mB hT 8 rfl ?_
  refine hC.2.2.2.2.1 _ 0 [_, _, _, _] _ _ _ _ _ (hk1) rfl rfl (Nat.le_of_ble_eq_true rfl) rfl ?_
  refine mB hT 6 rfl ?_
  refine hC.2.2.2.2.2 _ 0 [_, _, _, _] _ _ _ _ _ (hk3) rfl rfl (Nat.le_of_ble_eq_true rfl) rfl ?_
  refine mB hT 5 rfl ?_
  refine mIf (fun h1 => ?_) (fun h1 => ?_)
  · refine mNf (lv2 := [(7, .long (-9000000000000000004)), (5, .long a1), (0, .ref 0), (1, .int 2), (2, .int (Int32.ofNat b)), (3, .int (Int32.ofNat k)), (4, .int 2)]) (st2 := []) rfl rfl ?_
    refine mB hT 1 rfl ?_
    exact hR _ (by decide) _ _ _ rfl rfl
  · refine mNf (lv2 := [(7, .long (-9000000000000000004)), (5, .long a1), (0, .ref 0), (1, .int 2), (2, .int (Int32.ofNat b)), (3, .int (Int32.ofNat k)), (4, .int 2)]) (st2 := []) rfl rfl ?_
    refine mB hT 5 rfl ?_
    exact hR _ (by decide) _ _ _ rfl rfl
set_option maxRecDepth 20000 in
theorem x_blame_C_2_2 {n vs : Nat} {be de : Int64} {sz : Int32} {ro co mi : Nat → Int64} {T : Nat → Nat → Int64} {B : Nat → Nat → Nat → Int32} {hd : Nat → Nat → Int32} {df : Nat → Int32} (hv : 2 < vs) (hvs : vs ≤ 6) (hi : 2 < n) (hn : n ≤ 4) {b : Nat} (hb : b < 4) {k : Nat} (hk : k < 3) (h1 : ¬ detX n (lyT n ((cpX (cpX B 7 6 0 3) 7 2 3 4) 7) T) = 0) (h2a : ∀ T2 : Nat → Nat → Int64, ¬ detX n (lyT n ((cpX (cpX (cpX (cpX B 7 6 0 3) 7 2 3 4) 7 6 0 2) 7 2 2 4) 7) T2) = 0) (ha : ¬ (thX (smX n ((cpX (cpX B 7 6 0 3) 7 2 3 4) 7) (roX n (lyT n ((cpX (cpX B 7 6 0 3) 7 2 3 4) 7) T) (hd b) ro) k 1) (absX (detX n (lyT n ((cpX (cpX B 7 6 0 3) 7 2 3 4) 7) T)))) = -9000000000000000004) (hb2 : ∀ (T2 : Nat → Nat → Int64) (ro2 : Nat → Int64), ¬ (thX (smX n ((cpX (cpX (cpX (cpX B 7 6 0 3) 7 2 3 4) 7 6 0 2) 7 2 2 4) 7) (roX n (lyT n ((cpX (cpX (cpX (cpX B 7 6 0 3) 7 2 3 4) 7 6 0 2) 7 2 2 4) 7) T2) (hd b) ro2) k 1) (absX (detX n (lyT n ((cpX (cpX (cpX (cpX B 7 6 0 3) 7 2 3 4) 7 6 0 2) 7 2 2 4) 7) T2)))) = -9000000000000000004) : ∃ (T2 : Nat → Nat → Int64) (ro2 : Nat → Int64), ∃ (be4 de4 : Int64) (sz4 : Int32) (ro4 co4 mi4 : Nat → Int64) (T4 : Nat → Nat → Int64), KX2_blame l D ca ad [.ref 0, .int 2, .int (Int32.ofNat b), .int (Int32.ofNat k), .int 2] (XW (Int32.ofNat n) (Int32.ofNat vs) be de sz ro co mi T B hd df) (some (.long ((thX (smX n ((cpX (cpX B 7 6 0 3) 7 2 3 4) 7) (roX n (lyT n ((cpX (cpX B 7 6 0 3) 7 2 3 4) 7) T) (hd b) ro) k 1) (absX (detX n (lyT n ((cpX (cpX B 7 6 0 3) 7 2 3 4) 7) T)))) - (thX (smX n ((cpX (cpX (cpX (cpX B 7 6 0 3) 7 2 3 4) 7 6 0 2) 7 2 2 4) 7) (roX n (lyT n ((cpX (cpX (cpX (cpX B 7 6 0 3) 7 2 3 4) 7 6 0 2) 7 2 2 4) 7) T2) (hd b) ro2) k 1) (absX (detX n (lyT n ((cpX (cpX (cpX (cpX B 7 6 0 3) 7 2 3 4) 7 6 0 2) 7 2 2 4) 7) T2))))))) (XW (Int32.ofNat n) (Int32.ofNat vs) be4 de4 sz4 ro4 co4 mi4 T4 (cpX (cpX (cpX (cpX B 7 6 0 3) 7 2 3 4) 7 6 0 2) 7 2 2 4) hd df) := by
  obtain ⟨B1, eB⟩ : ∃ z, z = (cpX (cpX B 7 6 0 3) 7 2 3 4) := ⟨_, rfl⟩
  obtain ⟨B3, eB3⟩ : ∃ z, z = (cpX (cpX B1 7 6 0 2) 7 2 2 4) := ⟨_, rfl⟩
  obtain ⟨be1, de1, sz1, ro1, co1, mi1, T1, hk1⟩ := x_mixed_2_3 (l := l) (D := D) (ca := ca) (ad := ad) (vs := vs) (be := be) (de := de) (sz := sz) (ro := ro) (co := co) (mi := mi) (df := df) hn hb hk h1
  refine ⟨T1, ro1, ?_⟩
  have hb3 := hb2 T1 ro1
  rw [← eB] at h2a hk1 hb3
  rw [← eB, ← eB3]
  have h2 := h2a T1
  obtain ⟨be3, de3, sz3, ro3, co3, mi3, T3, hk3⟩ := x_mixed_2_2 (l := l) (D := D) (ca := ca) (ad := ad) (vs := vs) (be := be1) (de := de1) (sz := sz1) (ro := ro1) (co := co1) (mi := mi1) (T := T1) (B := B1) (df := df) hn hb hk h2
  rw [← eB3] at hk3
  rw [← eB3] at hb3
  rw [← eB] at ha
  obtain ⟨a1, ea1⟩ : ∃ z, z = (thX (smX n (B1 7) (roX n (lyT n (B1 7) T) (hd b) ro) k 1) (absX (detX n (lyT n (B1 7) T)))) := ⟨_, rfl⟩
  obtain ⟨a2, ea2⟩ : ∃ z, z = (thX (smX n (B3 7) (roX n (lyT n (B3 7) T1) (hd b) ro1) k 1) (absX (detX n (lyT n (B3 7) T1)))) := ⟨_, rfl⟩
  rw [← ea1] at hk1 ha ⊢
  rw [← ea2] at hk3 hb3 ⊢
  refine ⟨be3, de3, sz3, ro3, co3, mi3, T3, ?_⟩
  refine PX2_blame (Nat.le_of_ble_eq_true rfl) ?_
  intro G hT hC hR
  refine mB hT 2 rfl ?_
  refine hC.1 _ 0 [_] _ _ _ _ _ (c_isVersion_t (i := 2) hv hvs) rfl rfl (Nat.le_of_ble_eq_true rfl) rfl ?_
  refine mB hT 2 rfl ?_
  refine hC.2.1 _ [_] _ _ _ _ (c_isBasket_t hb) rfl (Nat.le_of_ble_eq_true rfl) rfl ?_
  refine mB hT 2 rfl ?_
  refine hC.2.2.1 _ [_] _ _ _ _ (c_isStuff_t hk) rfl (Nat.le_of_ble_eq_true rfl) rfl ?_
  refine mB hT 3 rfl ?_
  refine hC.2.2.2.1 _ 0 [_] _ _ _ _ _ (c_isMaking_t (i := 2) hi hn) rfl rfl (Nat.le_of_ble_eq_true rfl) rfl ?_
  refine mB hT 8 rfl ?_
  refine hC.2.2.2.2.1 _ 0 [_, _, _, _] _ _ _ _ _ (hk1) rfl rfl (Nat.le_of_ble_eq_true rfl) rfl ?_
  refine mB hT 6 rfl ?_
  refine hC.2.2.2.2.2 _ 0 [_, _, _, _] _ _ _ _ _ (hk3) rfl rfl (Nat.le_of_ble_eq_true rfl) rfl ?_
  refine mB hT 5 rfl ?_
  refine mIf (fun hp => absurd hp (fun q => ha (lc_eq.mp q))) (fun _ => ?_)
  refine mNf (lv2 := [(7, .long a2), (5, .long a1), (0, .ref 0), (1, .int 2), (2, .int (Int32.ofNat b)), (3, .int (Int32.ofNat k)), (4, .int 2)]) (st2 := []) rfl rfl ?_
  refine mB hT 4 rfl ?_
  refine mIf (fun hp => absurd hp (fun q => hb3 (lc_eq.mp q))) (fun _ => ?_)
  refine mB hT 3 rfl ?_
  exact hR _ (by decide) _ _ _ rfl rfl
set_option maxRecDepth 20000 in
theorem x_blame_A_2_3 {n vs : Nat} {be de : Int64} {sz : Int32} {ro co mi : Nat → Int64} {T : Nat → Nat → Int64} {B : Nat → Nat → Nat → Int32} {hd : Nat → Nat → Int32} {df : Nat → Int32} (hv : 2 < vs) (hvs : vs ≤ 6) (hi : 3 < n) (hn : n ≤ 4) {b : Nat} (hb : b < 4) {k : Nat} (hk : k < 3) (h1 : detX n (lyT n ((cpX (cpX B 7 6 0 4) 7 2 4 4) 7) T) = 0) : ∃ (be4 de4 : Int64) (sz4 : Int32) (ro4 co4 mi4 : Nat → Int64) (T4 : Nat → Nat → Int64), KX2_blame l D ca ad [.ref 0, .int 2, .int (Int32.ofNat b), .int (Int32.ofNat k), .int 3] (XW (Int32.ofNat n) (Int32.ofNat vs) be de sz ro co mi T B hd df) (some (.long (-9000000000000000004))) (XW (Int32.ofNat n) (Int32.ofNat vs) be4 de4 sz4 ro4 co4 mi4 T4 (cpX (cpX (cpX (cpX B 7 6 0 4) 7 2 4 4) 7 6 0 3) 7 2 3 4) hd df) := by
  obtain ⟨B1, eB⟩ : ∃ z, z = (cpX (cpX B 7 6 0 4) 7 2 4 4) := ⟨_, rfl⟩
  obtain ⟨B3, eB3⟩ : ∃ z, z = (cpX (cpX B1 7 6 0 3) 7 2 3 4) := ⟨_, rfl⟩
  rw [← eB, ← eB3]
  obtain ⟨be1, de1, sz1, ro1, co1, mi1, T1, hk1⟩ := x_mixed_B_2_4 (l := l) (D := D) (ca := ca) (ad := ad) (vs := vs) (be := be) (de := de) (sz := sz) (ro := ro) (co := co) (mi := mi) (df := df) hn hb hk h1
  rw [← eB] at hk1
  by_cases h2 : detX n (lyT n ((cpX (cpX B1 7 6 0 3) 7 2 3 4) 7) T1) = 0
  · obtain ⟨be3, de3, sz3, ro3, co3, mi3, T3, hk3⟩ := x_mixed_B_2_3 (l := l) (D := D) (ca := ca) (ad := ad) (vs := vs) (be := be1) (de := de1) (sz := sz1) (ro := ro1) (co := co1) (mi := mi1) (T := T1) (B := B1) (df := df) hn hb hk h2
    rw [← eB3] at hk3
    refine ⟨be3, de3, sz3, ro3, co3, mi3, T3, ?_⟩
    refine PX2_blame (Nat.le_of_ble_eq_true rfl) ?_
    intro G hT hC hR
    refine mB hT 2 rfl ?_
    refine hC.1 _ 0 [_] _ _ _ _ _ (c_isVersion_t (i := 2) hv hvs) rfl rfl (Nat.le_of_ble_eq_true rfl) rfl ?_
    refine mB hT 2 rfl ?_
    refine hC.2.1 _ [_] _ _ _ _ (c_isBasket_t hb) rfl (Nat.le_of_ble_eq_true rfl) rfl ?_
    refine mB hT 2 rfl ?_
    refine hC.2.2.1 _ [_] _ _ _ _ (c_isStuff_t hk) rfl (Nat.le_of_ble_eq_true rfl) rfl ?_
    refine mB hT 3 rfl ?_
    refine hC.2.2.2.1 _ 0 [_] _ _ _ _ _ (c_isMaking_t (i := 3) hi hn) rfl rfl (Nat.le_of_ble_eq_true rfl) rfl ?_
    refine mB hT 8 rfl ?_
    refine hC.2.2.2.2.1 _ 0 [_, _, _, _] _ _ _ _ _ (hk1) rfl rfl (Nat.le_of_ble_eq_true rfl) rfl ?_
    refine mB hT 6 rfl ?_
    refine hC.2.2.2.2.2 _ 0 [_, _, _, _] _ _ _ _ _ (hk3) rfl rfl (Nat.le_of_ble_eq_true rfl) rfl ?_
    refine mB hT 6 rfl ?_
    exact hR _ (by decide) _ _ _ rfl rfl
  · obtain ⟨be3, de3, sz3, ro3, co3, mi3, T3, hk3⟩ := x_mixed_2_3 (l := l) (D := D) (ca := ca) (ad := ad) (vs := vs) (be := be1) (de := de1) (sz := sz1) (ro := ro1) (co := co1) (mi := mi1) (T := T1) (B := B1) (df := df) hn hb hk h2
    rw [← eB3] at hk3
    generalize thX _ _ = a2 at hk3
    refine ⟨be3, de3, sz3, ro3, co3, mi3, T3, ?_⟩
    refine PX2_blame (Nat.le_of_ble_eq_true rfl) ?_
    intro G hT hC hR
    refine mB hT 2 rfl ?_
    refine hC.1 _ 0 [_] _ _ _ _ _ (c_isVersion_t (i := 2) hv hvs) rfl rfl (Nat.le_of_ble_eq_true rfl) rfl ?_
    refine mB hT 2 rfl ?_
    refine hC.2.1 _ [_] _ _ _ _ (c_isBasket_t hb) rfl (Nat.le_of_ble_eq_true rfl) rfl ?_
    refine mB hT 2 rfl ?_
    refine hC.2.2.1 _ [_] _ _ _ _ (c_isStuff_t hk) rfl (Nat.le_of_ble_eq_true rfl) rfl ?_
    refine mB hT 3 rfl ?_
    refine hC.2.2.2.1 _ 0 [_] _ _ _ _ _ (c_isMaking_t (i := 3) hi hn) rfl rfl (Nat.le_of_ble_eq_true rfl) rfl ?_
    refine mB hT 8 rfl ?_
    refine hC.2.2.2.2.1 _ 0 [_, _, _, _] _ _ _ _ _ (hk1) rfl rfl (Nat.le_of_ble_eq_true rfl) rfl ?_
    refine mB hT 6 rfl ?_
    refine hC.2.2.2.2.2 _ 0 [_, _, _, _] _ _ _ _ _ (hk3) rfl rfl (Nat.le_of_ble_eq_true rfl) rfl ?_
    refine mB hT 6 rfl ?_
    exact hR _ (by decide) _ _ _ rfl rfl
set_option maxRecDepth 20000 in
theorem x_blame_B_2_3 {n vs : Nat} {be de : Int64} {sz : Int32} {ro co mi : Nat → Int64} {T : Nat → Nat → Int64} {B : Nat → Nat → Nat → Int32} {hd : Nat → Nat → Int32} {df : Nat → Int32} (hv : 2 < vs) (hvs : vs ≤ 6) (hi : 3 < n) (hn : n ≤ 4) {b : Nat} (hb : b < 4) {k : Nat} (hk : k < 3) (h1 : ¬ detX n (lyT n ((cpX (cpX B 7 6 0 4) 7 2 4 4) 7) T) = 0) (h2a : ∀ T2 : Nat → Nat → Int64, detX n (lyT n ((cpX (cpX (cpX (cpX B 7 6 0 4) 7 2 4 4) 7 6 0 3) 7 2 3 4) 7) T2) = 0) : ∃ (be4 de4 : Int64) (sz4 : Int32) (ro4 co4 mi4 : Nat → Int64) (T4 : Nat → Nat → Int64), KX2_blame l D ca ad [.ref 0, .int 2, .int (Int32.ofNat b), .int (Int32.ofNat k), .int 3] (XW (Int32.ofNat n) (Int32.ofNat vs) be de sz ro co mi T B hd df) (some (.long (-9000000000000000004))) (XW (Int32.ofNat n) (Int32.ofNat vs) be4 de4 sz4 ro4 co4 mi4 T4 (cpX (cpX (cpX (cpX B 7 6 0 4) 7 2 4 4) 7 6 0 3) 7 2 3 4) hd df) := by
  obtain ⟨B1, eB⟩ : ∃ z, z = (cpX (cpX B 7 6 0 4) 7 2 4 4) := ⟨_, rfl⟩
  obtain ⟨B3, eB3⟩ : ∃ z, z = (cpX (cpX B1 7 6 0 3) 7 2 3 4) := ⟨_, rfl⟩
  rw [← eB] at h2a
  rw [← eB, ← eB3]
  obtain ⟨be1, de1, sz1, ro1, co1, mi1, T1, hk1⟩ := x_mixed_2_4 (l := l) (D := D) (ca := ca) (ad := ad) (vs := vs) (be := be) (de := de) (sz := sz) (ro := ro) (co := co) (mi := mi) (df := df) hn hb hk h1
  rw [← eB] at hk1
  generalize thX _ _ = a1 at hk1
  have h2 := h2a T1
  obtain ⟨be3, de3, sz3, ro3, co3, mi3, T3, hk3⟩ := x_mixed_B_2_3 (l := l) (D := D) (ca := ca) (ad := ad) (vs := vs) (be := be1) (de := de1) (sz := sz1) (ro := ro1) (co := co1) (mi := mi1) (T := T1) (B := B1) (df := df) hn hb hk h2
  rw [← eB3] at hk3
  refine ⟨be3, de3, sz3, ro3, co3, mi3, T3, ?_⟩
  refine PX2_blame (Nat.le_of_ble_eq_true rfl) ?_
  intro G hT hC hR
  refine mB hT 2 rfl ?_
  refine hC.1 _ 0 [_] _ _ _ _ _ (c_isVersion_t (i := 2) hv hvs) rfl rfl (Nat.le_of_ble_eq_true rfl) rfl ?_
  refine mB hT 2 rfl ?_
  refine hC.2.1 _ [_] _ _ _ _ (c_isBasket_t hb) rfl (Nat.le_of_ble_eq_true rfl) rfl ?_
  refine mB hT 2 rfl ?_
  refine hC.2.2.1 _ [_] _ _ _ _ (c_isStuff_t hk) rfl (Nat.le_of_ble_eq_true rfl) rfl ?_
  refine mB hT 3 rfl ?_
  refine hC.2.2.2.1 _ 0 [_] _ _ _ _ _ (c_isMaking_t (i := 3) hi hn) rfl rfl (Nat.le_of_ble_eq_true rfl) rfl ?_
  refine mB hT 8 rfl ?_
  refine hC.2.2.2.2.1 _ 0 [_, _, _, _] _ _ _ _ _ (hk1) rfl rfl (Nat.le_of_ble_eq_true rfl) rfl ?_
  refine mB hT 6 rfl ?_
  refine hC.2.2.2.2.2 _ 0 [_, _, _, _] _ _ _ _ _ (hk3) rfl rfl (Nat.le_of_ble_eq_true rfl) rfl ?_
  refine mB hT 5 rfl ?_
  refine mIf (fun h1 => ?_) (fun h1 => ?_)
  · refine mNf (lv2 := [(7, .long (-9000000000000000004)), (5, .long a1), (0, .ref 0), (1, .int 2), (2, .int (Int32.ofNat b)), (3, .int (Int32.ofNat k)), (4, .int 3)]) (st2 := []) rfl rfl ?_
    refine mB hT 1 rfl ?_
    exact hR _ (by decide) _ _ _ rfl rfl
  · refine mNf (lv2 := [(7, .long (-9000000000000000004)), (5, .long a1), (0, .ref 0), (1, .int 2), (2, .int (Int32.ofNat b)), (3, .int (Int32.ofNat k)), (4, .int 3)]) (st2 := []) rfl rfl ?_
    refine mB hT 5 rfl ?_
    exact hR _ (by decide) _ _ _ rfl rfl
set_option maxRecDepth 20000 in
theorem x_blame_C_2_3 {n vs : Nat} {be de : Int64} {sz : Int32} {ro co mi : Nat → Int64} {T : Nat → Nat → Int64} {B : Nat → Nat → Nat → Int32} {hd : Nat → Nat → Int32} {df : Nat → Int32} (hv : 2 < vs) (hvs : vs ≤ 6) (hi : 3 < n) (hn : n ≤ 4) {b : Nat} (hb : b < 4) {k : Nat} (hk : k < 3) (h1 : ¬ detX n (lyT n ((cpX (cpX B 7 6 0 4) 7 2 4 4) 7) T) = 0) (h2a : ∀ T2 : Nat → Nat → Int64, ¬ detX n (lyT n ((cpX (cpX (cpX (cpX B 7 6 0 4) 7 2 4 4) 7 6 0 3) 7 2 3 4) 7) T2) = 0) (ha : ¬ (thX (smX n ((cpX (cpX B 7 6 0 4) 7 2 4 4) 7) (roX n (lyT n ((cpX (cpX B 7 6 0 4) 7 2 4 4) 7) T) (hd b) ro) k 1) (absX (detX n (lyT n ((cpX (cpX B 7 6 0 4) 7 2 4 4) 7) T)))) = -9000000000000000004) (hb2 : ∀ (T2 : Nat → Nat → Int64) (ro2 : Nat → Int64), ¬ (thX (smX n ((cpX (cpX (cpX (cpX B 7 6 0 4) 7 2 4 4) 7 6 0 3) 7 2 3 4) 7) (roX n (lyT n ((cpX (cpX (cpX (cpX B 7 6 0 4) 7 2 4 4) 7 6 0 3) 7 2 3 4) 7) T2) (hd b) ro2) k 1) (absX (detX n (lyT n ((cpX (cpX (cpX (cpX B 7 6 0 4) 7 2 4 4) 7 6 0 3) 7 2 3 4) 7) T2)))) = -9000000000000000004) : ∃ (T2 : Nat → Nat → Int64) (ro2 : Nat → Int64), ∃ (be4 de4 : Int64) (sz4 : Int32) (ro4 co4 mi4 : Nat → Int64) (T4 : Nat → Nat → Int64), KX2_blame l D ca ad [.ref 0, .int 2, .int (Int32.ofNat b), .int (Int32.ofNat k), .int 3] (XW (Int32.ofNat n) (Int32.ofNat vs) be de sz ro co mi T B hd df) (some (.long ((thX (smX n ((cpX (cpX B 7 6 0 4) 7 2 4 4) 7) (roX n (lyT n ((cpX (cpX B 7 6 0 4) 7 2 4 4) 7) T) (hd b) ro) k 1) (absX (detX n (lyT n ((cpX (cpX B 7 6 0 4) 7 2 4 4) 7) T)))) - (thX (smX n ((cpX (cpX (cpX (cpX B 7 6 0 4) 7 2 4 4) 7 6 0 3) 7 2 3 4) 7) (roX n (lyT n ((cpX (cpX (cpX (cpX B 7 6 0 4) 7 2 4 4) 7 6 0 3) 7 2 3 4) 7) T2) (hd b) ro2) k 1) (absX (detX n (lyT n ((cpX (cpX (cpX (cpX B 7 6 0 4) 7 2 4 4) 7 6 0 3) 7 2 3 4) 7) T2))))))) (XW (Int32.ofNat n) (Int32.ofNat vs) be4 de4 sz4 ro4 co4 mi4 T4 (cpX (cpX (cpX (cpX B 7 6 0 4) 7 2 4 4) 7 6 0 3) 7 2 3 4) hd df) := by
  obtain ⟨B1, eB⟩ : ∃ z, z = (cpX (cpX B 7 6 0 4) 7 2 4 4) := ⟨_, rfl⟩
  obtain ⟨B3, eB3⟩ : ∃ z, z = (cpX (cpX B1 7 6 0 3) 7 2 3 4) := ⟨_, rfl⟩
  obtain ⟨be1, de1, sz1, ro1, co1, mi1, T1, hk1⟩ := x_mixed_2_4 (l := l) (D := D) (ca := ca) (ad := ad) (vs := vs) (be := be) (de := de) (sz := sz) (ro := ro) (co := co) (mi := mi) (df := df) hn hb hk h1
  refine ⟨T1, ro1, ?_⟩
  have hb3 := hb2 T1 ro1
  rw [← eB] at h2a hk1 hb3
  rw [← eB, ← eB3]
  have h2 := h2a T1
  obtain ⟨be3, de3, sz3, ro3, co3, mi3, T3, hk3⟩ := x_mixed_2_3 (l := l) (D := D) (ca := ca) (ad := ad) (vs := vs) (be := be1) (de := de1) (sz := sz1) (ro := ro1) (co := co1) (mi := mi1) (T := T1) (B := B1) (df := df) hn hb hk h2
  rw [← eB3] at hk3
  rw [← eB3] at hb3
  rw [← eB] at ha
  obtain ⟨a1, ea1⟩ : ∃ z, z = (thX (smX n (B1 7) (roX n (lyT n (B1 7) T) (hd b) ro) k 1) (absX (detX n (lyT n (B1 7) T)))) := ⟨_, rfl⟩
  obtain ⟨a2, ea2⟩ : ∃ z, z = (thX (smX n (B3 7) (roX n (lyT n (B3 7) T1) (hd b) ro1) k 1) (absX (detX n (lyT n (B3 7) T1)))) := ⟨_, rfl⟩
  rw [← ea1] at hk1 ha ⊢
  rw [← ea2] at hk3 hb3 ⊢
  refine ⟨be3, de3, sz3, ro3, co3, mi3, T3, ?_⟩
  refine PX2_blame (Nat.le_of_ble_eq_true rfl) ?_
  intro G hT hC hR
  refine mB hT 2 rfl ?_
  refine hC.1 _ 0 [_] _ _ _ _ _ (c_isVersion_t (i := 2) hv hvs) rfl rfl (Nat.le_of_ble_eq_true rfl) rfl ?_
  refine mB hT 2 rfl ?_
  refine hC.2.1 _ [_] _ _ _ _ (c_isBasket_t hb) rfl (Nat.le_of_ble_eq_true rfl) rfl ?_
  refine mB hT 2 rfl ?_
  refine hC.2.2.1 _ [_] _ _ _ _ (c_isStuff_t hk) rfl (Nat.le_of_ble_eq_true rfl) rfl ?_
  refine mB hT 3 rfl ?_
  refine hC.2.2.2.1 _ 0 [_] _ _ _ _ _ (c_isMaking_t (i := 3) hi hn) rfl rfl (Nat.le_of_ble_eq_true rfl) rfl ?_
  refine mB hT 8 rfl ?_
  refine hC.2.2.2.2.1 _ 0 [_, _, _, _] _ _ _ _ _ (hk1) rfl rfl (Nat.le_of_ble_eq_true rfl) rfl ?_
  refine mB hT 6 rfl ?_
  refine hC.2.2.2.2.2 _ 0 [_, _, _, _] _ _ _ _ _ (hk3) rfl rfl (Nat.le_of_ble_eq_true rfl) rfl ?_
  refine mB hT 5 rfl ?_
  refine mIf (fun hp => absurd hp (fun q => ha (lc_eq.mp q))) (fun _ => ?_)
  refine mNf (lv2 := [(7, .long a2), (5, .long a1), (0, .ref 0), (1, .int 2), (2, .int (Int32.ofNat b)), (3, .int (Int32.ofNat k)), (4, .int 3)]) (st2 := []) rfl rfl ?_
  refine mB hT 4 rfl ?_
  refine mIf (fun hp => absurd hp (fun q => hb3 (lc_eq.mp q))) (fun _ => ?_)
  refine mB hT 3 rfl ?_
  exact hR _ (by decide) _ _ _ rfl rfl
set_option maxRecDepth 20000 in
theorem x_blame_A_3_0 {n vs : Nat} {be de : Int64} {sz : Int32} {ro co mi : Nat → Int64} {T : Nat → Nat → Int64} {B : Nat → Nat → Nat → Int32} {hd : Nat → Nat → Int32} {df : Nat → Int32} (hv : 3 < vs) (hvs : vs ≤ 6) (hi : 0 < n) (hn : n ≤ 4) {b : Nat} (hb : b < 4) {k : Nat} (hk : k < 3) (h1 : detX n (lyT n ((cpX (cpX B 7 6 0 1) 7 3 1 4) 7) T) = 0) : ∃ (be4 de4 : Int64) (sz4 : Int32) (ro4 co4 mi4 : Nat → Int64) (T4 : Nat → Nat → Int64), KX2_blame l D ca ad [.ref 0, .int 3, .int (Int32.ofNat b), .int (Int32.ofNat k), .int 0] (XW (Int32.ofNat n) (Int32.ofNat vs) be de sz ro co mi T B hd df) (some (.long (-9000000000000000004))) (XW (Int32.ofNat n) (Int32.ofNat vs) be4 de4 sz4 ro4 co4 mi4 T4 (cpX (cpX (cpX (cpX B 7 6 0 1) 7 3 1 4) 7 6 0 0) 7 3 0 4) hd df) := by
  obtain ⟨B1, eB⟩ : ∃ z, z = (cpX (cpX B 7 6 0 1) 7 3 1 4) := ⟨_, rfl⟩
  obtain ⟨B3, eB3⟩ : ∃ z, z = (cpX (cpX B1 7 6 0 0) 7 3 0 4) := ⟨_, rfl⟩
  rw [← eB, ← eB3]
  obtain ⟨be1, de1, sz1, ro1, co1, mi1, T1, hk1⟩ := x_mixed_B_3_1 (l := l) (D := D) (ca := ca) (ad := ad) (vs := vs) (be := be) (de := de) (sz := sz) (ro := ro) (co := co) (mi := mi) (df := df) hn hb hk h1
  rw [← eB] at hk1
  by_cases h2 : detX n (lyT n ((cpX (cpX B1 7 6 0 0) 7 3 0 4) 7) T1) = 0
  · obtain ⟨be3, de3, sz3, ro3, co3, mi3, T3, hk3⟩ := x_mixed_B_3_0 (l := l) (D := D) (ca := ca) (ad := ad) (vs := vs) (be := be1) (de := de1) (sz := sz1) (ro := ro1) (co := co1) (mi := mi1) (T := T1) (B := B1) (df := df) hn hb hk h2
    rw [← eB3] at hk3
    refine ⟨be3, de3, sz3, ro3, co3, mi3, T3, ?_⟩
    refine PX2_blame (Nat.le_of_ble_eq_true rfl) ?_
    intro G hT hC hR
    refine mB hT 2 rfl ?_
    refine hC.1 _ 0 [_] _ _ _ _ _ (c_isVersion_t (i := 3) hv hvs) rfl rfl (Nat.le_of_ble_eq_true rfl) rfl ?_
    refine mB hT 2 rfl ?_
    refine hC.2.1 _ [_] _ _ _ _ (c_isBasket_t hb) rfl (Nat.le_of_ble_eq_true rfl) rfl ?_
    refine mB hT 2 rfl ?_
    refine hC.2.2.1 _ [_] _ _ _ _ (c_isStuff_t hk) rfl (Nat.le_of_ble_eq_true rfl) rfl ?_
    refine mB hT 3 rfl ?_
    refine hC.2.2.2.1 _ 0 [_] _ _ _ _ _ (c_isMaking_t (i := 0) hi hn) rfl rfl (Nat.le_of_ble_eq_true rfl) rfl ?_
    refine mB hT 8 rfl ?_
    refine hC.2.2.2.2.1 _ 0 [_, _, _, _] _ _ _ _ _ (hk1) rfl rfl (Nat.le_of_ble_eq_true rfl) rfl ?_
    refine mB hT 6 rfl ?_
    refine hC.2.2.2.2.2 _ 0 [_, _, _, _] _ _ _ _ _ (hk3) rfl rfl (Nat.le_of_ble_eq_true rfl) rfl ?_
    refine mB hT 6 rfl ?_
    exact hR _ (by decide) _ _ _ rfl rfl
  · obtain ⟨be3, de3, sz3, ro3, co3, mi3, T3, hk3⟩ := x_mixed_3_0 (l := l) (D := D) (ca := ca) (ad := ad) (vs := vs) (be := be1) (de := de1) (sz := sz1) (ro := ro1) (co := co1) (mi := mi1) (T := T1) (B := B1) (df := df) hn hb hk h2
    rw [← eB3] at hk3
    generalize thX _ _ = a2 at hk3
    refine ⟨be3, de3, sz3, ro3, co3, mi3, T3, ?_⟩
    refine PX2_blame (Nat.le_of_ble_eq_true rfl) ?_
    intro G hT hC hR
    refine mB hT 2 rfl ?_
    refine hC.1 _ 0 [_] _ _ _ _ _ (c_isVersion_t (i := 3) hv hvs) rfl rfl (Nat.le_of_ble_eq_true rfl) rfl ?_
    refine mB hT 2 rfl ?_
    refine hC.2.1 _ [_] _ _ _ _ (c_isBasket_t hb) rfl (Nat.le_of_ble_eq_true rfl) rfl ?_
    refine mB hT 2 rfl ?_
    refine hC.2.2.1 _ [_] _ _ _ _ (c_isStuff_t hk) rfl (Nat.le_of_ble_eq_true rfl) rfl ?_
    refine mB hT 3 rfl ?_
    refine hC.2.2.2.1 _ 0 [_] _ _ _ _ _ (c_isMaking_t (i := 0) hi hn) rfl rfl (Nat.le_of_ble_eq_true rfl) rfl ?_
    refine mB hT 8 rfl ?_
    refine hC.2.2.2.2.1 _ 0 [_, _, _, _] _ _ _ _ _ (hk1) rfl rfl (Nat.le_of_ble_eq_true rfl) rfl ?_
    refine mB hT 6 rfl ?_
    refine hC.2.2.2.2.2 _ 0 [_, _, _, _] _ _ _ _ _ (hk3) rfl rfl (Nat.le_of_ble_eq_true rfl) rfl ?_
    refine mB hT 6 rfl ?_
    exact hR _ (by decide) _ _ _ rfl rfl
set_option maxRecDepth 20000 in
theorem x_blame_B_3_0 {n vs : Nat} {be de : Int64} {sz : Int32} {ro co mi : Nat → Int64} {T : Nat → Nat → Int64} {B : Nat → Nat → Nat → Int32} {hd : Nat → Nat → Int32} {df : Nat → Int32} (hv : 3 < vs) (hvs : vs ≤ 6) (hi : 0 < n) (hn : n ≤ 4) {b : Nat} (hb : b < 4) {k : Nat} (hk : k < 3) (h1 : ¬ detX n (lyT n ((cpX (cpX B 7 6 0 1) 7 3 1 4) 7) T) = 0) (h2a : ∀ T2 : Nat → Nat → Int64, detX n (lyT n ((cpX (cpX (cpX (cpX B 7 6 0 1) 7 3 1 4) 7 6 0 0) 7 3 0 4) 7) T2) = 0) : ∃ (be4 de4 : Int64) (sz4 : Int32) (ro4 co4 mi4 : Nat → Int64) (T4 : Nat → Nat → Int64), KX2_blame l D ca ad [.ref 0, .int 3, .int (Int32.ofNat b), .int (Int32.ofNat k), .int 0] (XW (Int32.ofNat n) (Int32.ofNat vs) be de sz ro co mi T B hd df) (some (.long (-9000000000000000004))) (XW (Int32.ofNat n) (Int32.ofNat vs) be4 de4 sz4 ro4 co4 mi4 T4 (cpX (cpX (cpX (cpX B 7 6 0 1) 7 3 1 4) 7 6 0 0) 7 3 0 4) hd df) := by
  obtain ⟨B1, eB⟩ : ∃ z, z = (cpX (cpX B 7 6 0 1) 7 3 1 4) := ⟨_, rfl⟩
  obtain ⟨B3, eB3⟩ : ∃ z, z = (cpX (cpX B1 7 6 0 0) 7 3 0 4) := ⟨_, rfl⟩
  rw [← eB] at h2a
  rw [← eB, ← eB3]
  obtain ⟨be1, de1, sz1, ro1, co1, mi1, T1, hk1⟩ := x_mixed_3_1 (l := l) (D := D) (ca := ca) (ad := ad) (vs := vs) (be := be) (de := de) (sz := sz) (ro := ro) (co := co) (mi := mi) (df := df) hn hb hk h1
  rw [← eB] at hk1
  generalize thX _ _ = a1 at hk1
  have h2 := h2a T1
  obtain ⟨be3, de3, sz3, ro3, co3, mi3, T3, hk3⟩ := x_mixed_B_3_0 (l := l) (D := D) (ca := ca) (ad := ad) (vs := vs) (be := be1) (de := de1) (sz := sz1) (ro := ro1) (co := co1) (mi := mi1) (T := T1) (B := B1) (df := df) hn hb hk h2
  rw [← eB3] at hk3
  refine ⟨be3, de3, sz3, ro3, co3, mi3, T3, ?_⟩
  refine PX2_blame (Nat.le_of_ble_eq_true rfl) ?_
  intro G hT hC hR
  refine mB hT 2 rfl ?_
  refine hC.1 _ 0 [_] _ _ _ _ _ (c_isVersion_t (i := 3) hv hvs) rfl rfl (Nat.le_of_ble_eq_true rfl) rfl ?_
  refine mB hT 2 rfl ?_
  refine hC.2.1 _ [_] _ _ _ _ (c_isBasket_t hb) rfl (Nat.le_of_ble_eq_true rfl) rfl ?_
  refine mB hT 2 rfl ?_
  refine hC.2.2.1 _ [_] _ _ _ _ (c_isStuff_t hk) rfl (Nat.le_of_ble_eq_true rfl) rfl ?_
  refine mB hT 3 rfl ?_
  refine hC.2.2.2.1 _ 0 [_] _ _ _ _ _ (c_isMaking_t (i := 0) hi hn) rfl rfl (Nat.le_of_ble_eq_true rfl) rfl ?_
  refine mB hT 8 rfl ?_
  refine hC.2.2.2.2.1 _ 0 [_, _, _, _] _ _ _ _ _ (hk1) rfl rfl (Nat.le_of_ble_eq_true rfl) rfl ?_
  refine mB hT 6 rfl ?_
  refine hC.2.2.2.2.2 _ 0 [_, _, _, _] _ _ _ _ _ (hk3) rfl rfl (Nat.le_of_ble_eq_true rfl) rfl ?_
  refine mB hT 5 rfl ?_
  refine mIf (fun h1 => ?_) (fun h1 => ?_)
  · refine mNf (lv2 := [(7, .long (-9000000000000000004)), (5, .long a1), (0, .ref 0), (1, .int 3), (2, .int (Int32.ofNat b)), (3, .int (Int32.ofNat k)), (4, .int 0)]) (st2 := []) rfl rfl ?_
    refine mB hT 1 rfl ?_
    exact hR _ (by decide) _ _ _ rfl rfl
  · refine mNf (lv2 := [(7, .long (-9000000000000000004)), (5, .long a1), (0, .ref 0), (1, .int 3), (2, .int (Int32.ofNat b)), (3, .int (Int32.ofNat k)), (4, .int 0)]) (st2 := []) rfl rfl ?_
    refine mB hT 5 rfl ?_
    exact hR _ (by decide) _ _ _ rfl rfl
set_option maxRecDepth 20000 in
theorem x_blame_C_3_0 {n vs : Nat} {be de : Int64} {sz : Int32} {ro co mi : Nat → Int64} {T : Nat → Nat → Int64} {B : Nat → Nat → Nat → Int32} {hd : Nat → Nat → Int32} {df : Nat → Int32} (hv : 3 < vs) (hvs : vs ≤ 6) (hi : 0 < n) (hn : n ≤ 4) {b : Nat} (hb : b < 4) {k : Nat} (hk : k < 3) (h1 : ¬ detX n (lyT n ((cpX (cpX B 7 6 0 1) 7 3 1 4) 7) T) = 0) (h2a : ∀ T2 : Nat → Nat → Int64, ¬ detX n (lyT n ((cpX (cpX (cpX (cpX B 7 6 0 1) 7 3 1 4) 7 6 0 0) 7 3 0 4) 7) T2) = 0) (ha : ¬ (thX (smX n ((cpX (cpX B 7 6 0 1) 7 3 1 4) 7) (roX n (lyT n ((cpX (cpX B 7 6 0 1) 7 3 1 4) 7) T) (hd b) ro) k 1) (absX (detX n (lyT n ((cpX (cpX B 7 6 0 1) 7 3 1 4) 7) T)))) = -9000000000000000004) (hb2 : ∀ (T2 : Nat → Nat → Int64) (ro2 : Nat → Int64), ¬ (thX (smX n ((cpX (cpX (cpX (cpX B 7 6 0 1) 7 3 1 4) 7 6 0 0) 7 3 0 4) 7) (roX n (lyT n ((cpX (cpX (cpX (cpX B 7 6 0 1) 7 3 1 4) 7 6 0 0) 7 3 0 4) 7) T2) (hd b) ro2) k 1) (absX (detX n (lyT n ((cpX (cpX (cpX (cpX B 7 6 0 1) 7 3 1 4) 7 6 0 0) 7 3 0 4) 7) T2)))) = -9000000000000000004) : ∃ (T2 : Nat → Nat → Int64) (ro2 : Nat → Int64), ∃ (be4 de4 : Int64) (sz4 : Int32) (ro4 co4 mi4 : Nat → Int64) (T4 : Nat → Nat → Int64), KX2_blame l D ca ad [.ref 0, .int 3, .int (Int32.ofNat b), .int (Int32.ofNat k), .int 0] (XW (Int32.ofNat n) (Int32.ofNat vs) be de sz ro co mi T B hd df) (some (.long ((thX (smX n ((cpX (cpX B 7 6 0 1) 7 3 1 4) 7) (roX n (lyT n ((cpX (cpX B 7 6 0 1) 7 3 1 4) 7) T) (hd b) ro) k 1) (absX (detX n (lyT n ((cpX (cpX B 7 6 0 1) 7 3 1 4) 7) T)))) - (thX (smX n ((cpX (cpX (cpX (cpX B 7 6 0 1) 7 3 1 4) 7 6 0 0) 7 3 0 4) 7) (roX n (lyT n ((cpX (cpX (cpX (cpX B 7 6 0 1) 7 3 1 4) 7 6 0 0) 7 3 0 4) 7) T2) (hd b) ro2) k 1) (absX (detX n (lyT n ((cpX (cpX (cpX (cpX B 7 6 0 1) 7 3 1 4) 7 6 0 0) 7 3 0 4) 7) T2))))))) (XW (Int32.ofNat n) (Int32.ofNat vs) be4 de4 sz4 ro4 co4 mi4 T4 (cpX (cpX (cpX (cpX B 7 6 0 1) 7 3 1 4) 7 6 0 0) 7 3 0 4) hd df) := by
  obtain ⟨B1, eB⟩ : ∃ z, z = (cpX (cpX B 7 6 0 1) 7 3 1 4) := ⟨_, rfl⟩
  obtain ⟨B3, eB3⟩ : ∃ z, z = (cpX (cpX B1 7 6 0 0) 7 3 0 4) := ⟨_, rfl⟩
  obtain ⟨be1, de1, sz1, ro1, co1, mi1, T1, hk1⟩ := x_mixed_3_1 (l := l) (D := D) (ca := ca) (ad := ad) (vs := vs) (be := be) (de := de) (sz := sz) (ro := ro) (co := co) (mi := mi) (df := df) hn hb hk h1
  refine ⟨T1, ro1, ?_⟩
  have hb3 := hb2 T1 ro1
  rw [← eB] at h2a hk1 hb3
  rw [← eB, ← eB3]
  have h2 := h2a T1
  obtain ⟨be3, de3, sz3, ro3, co3, mi3, T3, hk3⟩ := x_mixed_3_0 (l := l) (D := D) (ca := ca) (ad := ad) (vs := vs) (be := be1) (de := de1) (sz := sz1) (ro := ro1) (co := co1) (mi := mi1) (T := T1) (B := B1) (df := df) hn hb hk h2
  rw [← eB3] at hk3
  rw [← eB3] at hb3
  rw [← eB] at ha
  obtain ⟨a1, ea1⟩ : ∃ z, z = (thX (smX n (B1 7) (roX n (lyT n (B1 7) T) (hd b) ro) k 1) (absX (detX n (lyT n (B1 7) T)))) := ⟨_, rfl⟩
  obtain ⟨a2, ea2⟩ : ∃ z, z = (thX (smX n (B3 7) (roX n (lyT n (B3 7) T1) (hd b) ro1) k 1) (absX (detX n (lyT n (B3 7) T1)))) := ⟨_, rfl⟩
  rw [← ea1] at hk1 ha ⊢
  rw [← ea2] at hk3 hb3 ⊢
  refine ⟨be3, de3, sz3, ro3, co3, mi3, T3, ?_⟩
  refine PX2_blame (Nat.le_of_ble_eq_true rfl) ?_
  intro G hT hC hR
  refine mB hT 2 rfl ?_
  refine hC.1 _ 0 [_] _ _ _ _ _ (c_isVersion_t (i := 3) hv hvs) rfl rfl (Nat.le_of_ble_eq_true rfl) rfl ?_
  refine mB hT 2 rfl ?_
  refine hC.2.1 _ [_] _ _ _ _ (c_isBasket_t hb) rfl (Nat.le_of_ble_eq_true rfl) rfl ?_
  refine mB hT 2 rfl ?_
  refine hC.2.2.1 _ [_] _ _ _ _ (c_isStuff_t hk) rfl (Nat.le_of_ble_eq_true rfl) rfl ?_
  refine mB hT 3 rfl ?_
  refine hC.2.2.2.1 _ 0 [_] _ _ _ _ _ (c_isMaking_t (i := 0) hi hn) rfl rfl (Nat.le_of_ble_eq_true rfl) rfl ?_
  refine mB hT 8 rfl ?_
  refine hC.2.2.2.2.1 _ 0 [_, _, _, _] _ _ _ _ _ (hk1) rfl rfl (Nat.le_of_ble_eq_true rfl) rfl ?_
  refine mB hT 6 rfl ?_
  refine hC.2.2.2.2.2 _ 0 [_, _, _, _] _ _ _ _ _ (hk3) rfl rfl (Nat.le_of_ble_eq_true rfl) rfl ?_
  refine mB hT 5 rfl ?_
  refine mIf (fun hp => absurd hp (fun q => ha (lc_eq.mp q))) (fun _ => ?_)
  refine mNf (lv2 := [(7, .long a2), (5, .long a1), (0, .ref 0), (1, .int 3), (2, .int (Int32.ofNat b)), (3, .int (Int32.ofNat k)), (4, .int 0)]) (st2 := []) rfl rfl ?_
  refine mB hT 4 rfl ?_
  refine mIf (fun hp => absurd hp (fun q => hb3 (lc_eq.mp q))) (fun _ => ?_)
  refine mB hT 3 rfl ?_
  exact hR _ (by decide) _ _ _ rfl rfl
set_option maxRecDepth 20000 in
theorem x_blame_A_3_1 {n vs : Nat} {be de : Int64} {sz : Int32} {ro co mi : Nat → Int64} {T : Nat → Nat → Int64} {B : Nat → Nat → Nat → Int32} {hd : Nat → Nat → Int32} {df : Nat → Int32} (hv : 3 < vs) (hvs : vs ≤ 6) (hi : 1 < n) (hn : n ≤ 4) {b : Nat} (hb : b < 4) {k : Nat} (hk : k < 3) (h1 : detX n (lyT n ((cpX (cpX B 7 6 0 2) 7 3 2 4) 7) T) = 0) : ∃ (be4 de4 : Int64) (sz4 : Int32) (ro4 co4 mi4 : Nat → Int64) (T4 : Nat → Nat → Int64), KX2_blame l D ca ad [.ref 0, .int 3, .int (Int32.ofNat b), .int (Int32.ofNat k), .int 1] (XW (Int32.ofNat n) (Int32.ofNat vs) be de sz ro co mi T B hd df) (some (.long (-9000000000000000004))) (XW (Int32.ofNat n) (Int32.ofNat vs) be4 de4 sz4 ro4 co4 mi4 T4 (cpX (cpX (cpX (cpX B 7 6 0 2) 7 3 2 4) 7 6 0 1) 7 3 1 4) hd df) := by
  obtain ⟨B1, eB⟩ : ∃ z, z = (cpX (cpX B 7 6 0 2) 7 3 2 4) := ⟨_, rfl⟩
  obtain ⟨B3, eB3⟩ : ∃ z, z = (cpX (cpX B1 7 6 0 1) 7 3 1 4) := ⟨_, rfl⟩
  rw [← eB, ← eB3]
  obtain ⟨be1, de1, sz1, ro1, co1, mi1, T1, hk1⟩ := x_mixed_B_3_2 (l := l) (D := D) (ca := ca) (ad := ad) (vs := vs) (be := be) (de := de) (sz := sz) (ro := ro) (co := co) (mi := mi) (df := df) hn hb hk h1
  rw [← eB] at hk1
  by_cases h2 : detX n (lyT n ((cpX (cpX B1 7 6 0 1) 7 3 1 4) 7) T1) = 0
  · obtain ⟨be3, de3, sz3, ro3, co3, mi3, T3, hk3⟩ := x_mixed_B_3_1 (l := l) (D := D) (ca := ca) (ad := ad) (vs := vs) (be := be1) (de := de1) (sz := sz1) (ro := ro1) (co := co1) (mi := mi1) (T := T1) (B := B1) (df := df) hn hb hk h2
    rw [← eB3] at hk3
    refine ⟨be3, de3, sz3, ro3, co3, mi3, T3, ?_⟩
    refine PX2_blame (Nat.le_of_ble_eq_true rfl) ?_
    intro G hT hC hR
    refine mB hT 2 rfl ?_
    refine hC.1 _ 0 [_] _ _ _ _ _ (c_isVersion_t (i := 3) hv hvs) rfl rfl (Nat.le_of_ble_eq_true rfl) rfl ?_
    refine mB hT 2 rfl ?_
    refine hC.2.1 _ [_] _ _ _ _ (c_isBasket_t hb) rfl (Nat.le_of_ble_eq_true rfl) rfl ?_
    refine mB hT 2 rfl ?_
    refine hC.2.2.1 _ [_] _ _ _ _ (c_isStuff_t hk) rfl (Nat.le_of_ble_eq_true rfl) rfl ?_
    refine mB hT 3 rfl ?_
    refine hC.2.2.2.1 _ 0 [_] _ _ _ _ _ (c_isMaking_t (i := 1) hi hn) rfl rfl (Nat.le_of_ble_eq_true rfl) rfl ?_
    refine mB hT 8 rfl ?_
    refine hC.2.2.2.2.1 _ 0 [_, _, _, _] _ _ _ _ _ (hk1) rfl rfl (Nat.le_of_ble_eq_true rfl) rfl ?_
    refine mB hT 6 rfl ?_
    refine hC.2.2.2.2.2 _ 0 [_, _, _, _] _ _ _ _ _ (hk3) rfl rfl (Nat.le_of_ble_eq_true rfl) rfl ?_
    refine mB hT 6 rfl ?_
    exact hR _ (by decide) _ _ _ rfl rfl
  · obtain ⟨be3, de3, sz3, ro3, co3, mi3, T3, hk3⟩ := x_mixed_3_1 (l := l) (D := D) (ca := ca) (ad := ad) (vs := vs) (be := be1) (de := de1) (sz := sz1) (ro := ro1) (co := co1) (mi := mi1) (T := T1) (B := B1) (df := df) hn hb hk h2
    rw [← eB3] at hk3
    generalize thX _ _ = a2 at hk3
    refine ⟨be3, de3, sz3, ro3, co3, mi3, T3, ?_⟩
    refine PX2_blame (Nat.le_of_ble_eq_true rfl) ?_
    intro G hT hC hR
    refine mB hT 2 rfl ?_
    refine hC.1 _ 0 [_] _ _ _ _ _ (c_isVersion_t (i := 3) hv hvs) rfl rfl (Nat.le_of_ble_eq_true rfl) rfl ?_
    refine mB hT 2 rfl ?_
    refine hC.2.1 _ [_] _ _ _ _ (c_isBasket_t hb) rfl (Nat.le_of_ble_eq_true rfl) rfl ?_
    refine mB hT 2 rfl ?_
    refine hC.2.2.1 _ [_] _ _ _ _ (c_isStuff_t hk) rfl (Nat.le_of_ble_eq_true rfl) rfl ?_
    refine mB hT 3 rfl ?_
    refine hC.2.2.2.1 _ 0 [_] _ _ _ _ _ (c_isMaking_t (i := 1) hi hn) rfl rfl (Nat.le_of_ble_eq_true rfl) rfl ?_
    refine mB hT 8 rfl ?_
    refine hC.2.2.2.2.1 _ 0 [_, _, _, _] _ _ _ _ _ (hk1) rfl rfl (Nat.le_of_ble_eq_true rfl) rfl ?_
    refine mB hT 6 rfl ?_
    refine hC.2.2.2.2.2 _ 0 [_, _, _, _] _ _ _ _ _ (hk3) rfl rfl (Nat.le_of_ble_eq_true rfl) rfl ?_
    refine mB hT 6 rfl ?_
    exact hR _ (by decide) _ _ _ rfl rfl
set_option maxRecDepth 20000 in
theorem x_blame_B_3_1 {n vs : Nat} {be de : Int64} {sz : Int32} {ro co mi : Nat → Int64} {T : Nat → Nat → Int64} {B : Nat → Nat → Nat → Int32} {hd : Nat → Nat → Int32} {df : Nat → Int32} (hv : 3 < vs) (hvs : vs ≤ 6) (hi : 1 < n) (hn : n ≤ 4) {b : Nat} (hb : b < 4) {k : Nat} (hk : k < 3) (h1 : ¬ detX n (lyT n ((cpX (cpX B 7 6 0 2) 7 3 2 4) 7) T) = 0) (h2a : ∀ T2 : Nat → Nat → Int64, detX n (lyT n ((cpX (cpX (cpX (cpX B 7 6 0 2) 7 3 2 4) 7 6 0 1) 7 3 1 4) 7) T2) = 0) : ∃ (be4 de4 : Int64) (sz4 : Int32) (ro4 co4 mi4 : Nat → Int64) (T4 : Nat → Nat → Int64), KX2_blame l D ca ad [.ref 0, .int 3, .int (Int32.ofNat b), .int (Int32.ofNat k), .int 1] (XW (Int32.ofNat n) (Int32.ofNat vs) be de sz ro co mi T B hd df) (some (.long (-9000000000000000004))) (XW (Int32.ofNat n) (Int32.ofNat vs) be4 de4 sz4 ro4 co4 mi4 T4 (cpX (cpX (cpX (cpX B 7 6 0 2) 7 3 2 4) 7 6 0 1) 7 3 1 4) hd df) := by
  obtain ⟨B1, eB⟩ : ∃ z, z = (cpX (cpX B 7 6 0 2) 7 3 2 4) := ⟨_, rfl⟩
  obtain ⟨B3, eB3⟩ : ∃ z, z = (cpX (cpX B1 7 6 0 1) 7 3 1 4) := ⟨_, rfl⟩
  rw [← eB] at h2a
  rw [← eB, ← eB3]
  obtain ⟨be1, de1, sz1, ro1, co1, mi1, T1, hk1⟩ := x_mixed_3_2 (l := l) (D := D) (ca := ca) (ad := ad) (vs := vs) (be := be) (de := de) (sz := sz) (ro := ro) (co := co) (mi := mi) (df := df) hn hb hk h1
  rw [← eB] at hk1
  generalize thX _ _ = a1 at hk1
  have h2 := h2a T1
  obtain ⟨be3, de3, sz3, ro3, co3, mi3, T3, hk3⟩ := x_mixed_B_3_1 (l := l) (D := D) (ca := ca) (ad := ad) (vs := vs) (be := be1) (de := de1) (sz := sz1) (ro := ro1) (co := co1) (mi := mi1) (T := T1) (B := B1) (df := df) hn hb hk h2
  rw [← eB3] at hk3
  refine ⟨be3, de3, sz3, ro3, co3, mi3, T3, ?_⟩
  refine PX2_blame (Nat.le_of_ble_eq_true rfl) ?_
  intro G hT hC hR
  refine mB hT 2 rfl ?_
  refine hC.1 _ 0 [_] _ _ _ _ _ (c_isVersion_t (i := 3) hv hvs) rfl rfl (Nat.le_of_ble_eq_true rfl) rfl ?_
  refine mB hT 2 rfl ?_
  refine hC.2.1 _ [_] _ _ _ _ (c_isBasket_t hb) rfl (Nat.le_of_ble_eq_true rfl) rfl ?_
  refine mB hT 2 rfl ?_
  refine hC.2.2.1 _ [_] _ _ _ _ (c_isStuff_t hk) rfl (Nat.le_of_ble_eq_true rfl) rfl ?_
  refine mB hT 3 rfl ?_
  refine hC.2.2.2.1 _ 0 [_] _ _ _ _ _ (c_isMaking_t (i := 1) hi hn) rfl rfl (Nat.le_of_ble_eq_true rfl) rfl ?_
  refine mB hT 8 rfl ?_
  refine hC.2.2.2.2.1 _ 0 [_, _, _, _] _ _ _ _ _ (hk1) rfl rfl (Nat.le_of_ble_eq_true rfl) rfl ?_
  refine mB hT 6 rfl ?_
  refine hC.2.2.2.2.2 _ 0 [_, _, _, _] _ _ _ _ _ (hk3) rfl rfl (Nat.le_of_ble_eq_true rfl) rfl ?_
  refine mB hT 5 rfl ?_
  refine mIf (fun h1 => ?_) (fun h1 => ?_)
  · refine mNf (lv2 := [(7, .long (-9000000000000000004)), (5, .long a1), (0, .ref 0), (1, .int 3), (2, .int (Int32.ofNat b)), (3, .int (Int32.ofNat k)), (4, .int 1)]) (st2 := []) rfl rfl ?_
    refine mB hT 1 rfl ?_
    exact hR _ (by decide) _ _ _ rfl rfl
  · refine mNf (lv2 := [(7, .long (-9000000000000000004)), (5, .long a1), (0, .ref 0), (1, .int 3), (2, .int (Int32.ofNat b)), (3, .int (Int32.ofNat k)), (4, .int 1)]) (st2 := []) rfl rfl ?_
    refine mB hT 5 rfl ?_
    exact hR _ (by decide) _ _ _ rfl rfl
set_option maxRecDepth 20000 in
theorem x_blame_C_3_1 {n vs : Nat} {be de : Int64} {sz : Int32} {ro co mi : Nat → Int64} {T : Nat → Nat → Int64} {B : Nat → Nat → Nat → Int32} {hd : Nat → Nat → Int32} {df : Nat → Int32} (hv : 3 < vs) (hvs : vs ≤ 6) (hi : 1 < n) (hn : n ≤ 4) {b : Nat} (hb : b < 4) {k : Nat} (hk : k < 3) (h1 : ¬ detX n (lyT n ((cpX (cpX B 7 6 0 2) 7 3 2 4) 7) T) = 0) (h2a : ∀ T2 : Nat → Nat → Int64, ¬ detX n (lyT n ((cpX (cpX (cpX (cpX B 7 6 0 2) 7 3 2 4) 7 6 0 1) 7 3 1 4) 7) T2) = 0) (ha : ¬ (thX (smX n ((cpX (cpX B 7 6 0 2) 7 3 2 4) 7) (roX n (lyT n ((cpX (cpX B 7 6 0 2) 7 3 2 4) 7) T) (hd b) ro) k 1) (absX (detX n (lyT n ((cpX (cpX B 7 6 0 2) 7 3 2 4) 7) T)))) = -9000000000000000004) (hb2 : ∀ (T2 : Nat → Nat → Int64) (ro2 : Nat → Int64), ¬ (thX (smX n ((cpX (cpX (cpX (cpX B 7 6 0 2) 7 3 2 4) 7 6 0 1) 7 3 1 4) 7) (roX n (lyT n ((cpX (cpX (cpX (cpX B 7 6 0 2) 7 3 2 4) 7 6 0 1) 7 3 1 4) 7) T2) (hd b) ro2) k 1) (absX (detX n (lyT n ((cpX (cpX (cpX (cpX B 7 6 0 2) 7 3 2 4) 7 6 0 1) 7 3 1 4) 7) T2)))) = -9000000000000000004) : ∃ (T2 : Nat → Nat → Int64) (ro2 : Nat → Int64), ∃ (be4 de4 : Int64) (sz4 : Int32) (ro4 co4 mi4 : Nat → Int64) (T4 : Nat → Nat → Int64), KX2_blame l D ca ad [.ref 0, .int 3, .int (Int32.ofNat b), .int (Int32.ofNat k), .int 1] (XW (Int32.ofNat n) (Int32.ofNat vs) be de sz ro co mi T B hd df) (some (.long ((thX (smX n ((cpX (cpX B 7 6 0 2) 7 3 2 4) 7) (roX n (lyT n ((cpX (cpX B 7 6 0 2) 7 3 2 4) 7) T) (hd b) ro) k 1) (absX (detX n (lyT n ((cpX (cpX B 7 6 0 2) 7 3 2 4) 7) T)))) - (thX (smX n ((cpX (cpX (cpX (cpX B 7 6 0 2) 7 3 2 4) 7 6 0 1) 7 3 1 4) 7) (roX n (lyT n ((cpX (cpX (cpX (cpX B 7 6 0 2) 7 3 2 4) 7 6 0 1) 7 3 1 4) 7) T2) (hd b) ro2) k 1) (absX (detX n (lyT n ((cpX (cpX (cpX (cpX B 7 6 0 2) 7 3 2 4) 7 6 0 1) 7 3 1 4) 7) T2))))))) (XW (Int32.ofNat n) (Int32.ofNat vs) be4 de4 sz4 ro4 co4 mi4 T4 (cpX (cpX (cpX (cpX B 7 6 0 2) 7 3 2 4) 7 6 0 1) 7 3 1 4) hd df) := by
  obtain ⟨B1, eB⟩ : ∃ z, z = (cpX (cpX B 7 6 0 2) 7 3 2 4) := ⟨_, rfl⟩
  obtain ⟨B3, eB3⟩ : ∃ z, z = (cpX (cpX B1 7 6 0 1) 7 3 1 4) := ⟨_, rfl⟩
  obtain ⟨be1, de1, sz1, ro1, co1, mi1, T1, hk1⟩ := x_mixed_3_2 (l := l) (D := D) (ca := ca) (ad := ad) (vs := vs) (be := be) (de := de) (sz := sz) (ro := ro) (co := co) (mi := mi) (df := df) hn hb hk h1
  refine ⟨T1, ro1, ?_⟩
  have hb3 := hb2 T1 ro1
  rw [← eB] at h2a hk1 hb3
  rw [← eB, ← eB3]
  have h2 := h2a T1
  obtain ⟨be3, de3, sz3, ro3, co3, mi3, T3, hk3⟩ := x_mixed_3_1 (l := l) (D := D) (ca := ca) (ad := ad) (vs := vs) (be := be1) (de := de1) (sz := sz1) (ro := ro1) (co := co1) (mi := mi1) (T := T1) (B := B1) (df := df) hn hb hk h2
  rw [← eB3] at hk3
  rw [← eB3] at hb3
  rw [← eB] at ha
  obtain ⟨a1, ea1⟩ : ∃ z, z = (thX (smX n (B1 7) (roX n (lyT n (B1 7) T) (hd b) ro) k 1) (absX (detX n (lyT n (B1 7) T)))) := ⟨_, rfl⟩
  obtain ⟨a2, ea2⟩ : ∃ z, z = (thX (smX n (B3 7) (roX n (lyT n (B3 7) T1) (hd b) ro1) k 1) (absX (detX n (lyT n (B3 7) T1)))) := ⟨_, rfl⟩
  rw [← ea1] at hk1 ha ⊢
  rw [← ea2] at hk3 hb3 ⊢
  refine ⟨be3, de3, sz3, ro3, co3, mi3, T3, ?_⟩
  refine PX2_blame (Nat.le_of_ble_eq_true rfl) ?_
  intro G hT hC hR
  refine mB hT 2 rfl ?_
  refine hC.1 _ 0 [_] _ _ _ _ _ (c_isVersion_t (i := 3) hv hvs) rfl rfl (Nat.le_of_ble_eq_true rfl) rfl ?_
  refine mB hT 2 rfl ?_
  refine hC.2.1 _ [_] _ _ _ _ (c_isBasket_t hb) rfl (Nat.le_of_ble_eq_true rfl) rfl ?_
  refine mB hT 2 rfl ?_
  refine hC.2.2.1 _ [_] _ _ _ _ (c_isStuff_t hk) rfl (Nat.le_of_ble_eq_true rfl) rfl ?_
  refine mB hT 3 rfl ?_
  refine hC.2.2.2.1 _ 0 [_] _ _ _ _ _ (c_isMaking_t (i := 1) hi hn) rfl rfl (Nat.le_of_ble_eq_true rfl) rfl ?_
  refine mB hT 8 rfl ?_
  refine hC.2.2.2.2.1 _ 0 [_, _, _, _] _ _ _ _ _ (hk1) rfl rfl (Nat.le_of_ble_eq_true rfl) rfl ?_
  refine mB hT 6 rfl ?_
  refine hC.2.2.2.2.2 _ 0 [_, _, _, _] _ _ _ _ _ (hk3) rfl rfl (Nat.le_of_ble_eq_true rfl) rfl ?_
  refine mB hT 5 rfl ?_
  refine mIf (fun hp => absurd hp (fun q => ha (lc_eq.mp q))) (fun _ => ?_)
  refine mNf (lv2 := [(7, .long a2), (5, .long a1), (0, .ref 0), (1, .int 3), (2, .int (Int32.ofNat b)), (3, .int (Int32.ofNat k)), (4, .int 1)]) (st2 := []) rfl rfl ?_
  refine mB hT 4 rfl ?_
  refine mIf (fun hp => absurd hp (fun q => hb3 (lc_eq.mp q))) (fun _ => ?_)
  refine mB hT 3 rfl ?_
  exact hR _ (by decide) _ _ _ rfl rfl
set_option maxRecDepth 20000 in
theorem x_blame_A_3_2 {n vs : Nat} {be de : Int64} {sz : Int32} {ro co mi : Nat → Int64} {T : Nat → Nat → Int64} {B : Nat → Nat → Nat → Int32} {hd : Nat → Nat → Int32} {df : Nat → Int32} (hv : 3 < vs) (hvs : vs ≤ 6) (hi : 2 < n) (hn : n ≤ 4) {b : Nat} (hb : b < 4) {k : Nat} (hk : k < 3) (h1 : detX n (lyT n ((cpX (cpX B 7 6 0 3) 7 3 3 4) 7) T) = 0) : ∃ (be4 de4 : Int64) (sz4 : Int32) (ro4 co4 mi4 : Nat → Int64) (T4 : Nat → Nat → Int64), KX2_blame l D ca ad [.ref 0, .int 3, .int (Int32.ofNat b), .int (Int32.ofNat k), .int 2] (XW (Int32.ofNat n) (Int32.ofNat vs) be de sz ro co mi T B hd df) (some (.long (-9000000000000000004))) (XW (Int32.ofNat n) (Int32.ofNat vs) be4 de4 sz4 ro4 co4 mi4 T4 (cpX (cpX (cpX (cpX B 7 6 0 3) 7 3 3 4) 7 6 0 2) 7 3 2 4) hd df) := by
  obtain ⟨B1, eB⟩ : ∃ z, z = (cpX (cpX B 7 6 0 3) 7 3 3 4) := ⟨_, rfl⟩
  obtain ⟨B3, eB3⟩ : ∃ z, z = (cpX (cpX B1 7 6 0 2) 7 3 2 4) := ⟨_, rfl⟩
  rw [← eB, ← eB3]
  obtain ⟨be1, de1, sz1, ro1, co1, mi1, T1, hk1⟩ := x_mixed_B_3_3 (l := l) (D := D) (ca := ca) (ad := ad) (vs := vs) (be := be) (de := de) (sz := sz) (ro := ro) (co := co) (mi := mi) (df := df) hn hb hk h1
  rw [← eB] at hk1
  by_cases h2 : detX n (lyT n ((cpX (cpX B1 7 6 0 2) 7 3 2 4) 7) T1) = 0
  · obtain ⟨be3, de3, sz3, ro3, co3, mi3, T3, hk3⟩ := x_mixed_B_3_2 (l := l) (D := D) (ca := ca) (ad := ad) (vs := vs) (be := be1) (de := de1) (sz := sz1) (ro := ro1) (co := co1) (mi := mi1) (T := T1) (B := B1) (df := df) hn hb hk h2
    rw [← eB3] at hk3
    refine ⟨be3, de3, sz3, ro3, co3, mi3, T3, ?_⟩
    refine PX2_blame (Nat.le_of_ble_eq_true rfl) ?_
    intro G hT hC hR
    refine mB hT 2 rfl ?_
    refine hC.1 _ 0 [_] _ _ _ _ _ (c_isVersion_t (i := 3) hv hvs) rfl rfl (Nat.le_of_ble_eq_true rfl) rfl ?_
    refine mB hT 2 rfl ?_
    refine hC.2.1 _ [_] _ _ _ _ (c_isBasket_t hb) rfl (Nat.le_of_ble_eq_true rfl) rfl ?_
    refine mB hT 2 rfl ?_
    refine hC.2.2.1 _ [_] _ _ _ _ (c_isStuff_t hk) rfl (Nat.le_of_ble_eq_true rfl) rfl ?_
    refine mB hT 3 rfl ?_
    refine hC.2.2.2.1 _ 0 [_] _ _ _ _ _ (c_isMaking_t (i := 2) hi hn) rfl rfl (Nat.le_of_ble_eq_true rfl) rfl ?_
    refine mB hT 8 rfl ?_
    refine hC.2.2.2.2.1 _ 0 [_, _, _, _] _ _ _ _ _ (hk1) rfl rfl (Nat.le_of_ble_eq_true rfl) rfl ?_
    refine mB hT 6 rfl ?_
    refine hC.2.2.2.2.2 _ 0 [_, _, _, _] _ _ _ _ _ (hk3) rfl rfl (Nat.le_of_ble_eq_true rfl) rfl ?_
    refine mB hT 6 rfl ?_
    exact hR _ (by decide) _ _ _ rfl rfl
  · obtain ⟨be3, de3, sz3, ro3, co3, mi3, T3, hk3⟩ := x_mixed_3_2 (l := l) (D := D) (ca := ca) (ad := ad) (vs := vs) (be := be1) (de := de1) (sz := sz1) (ro := ro1) (co := co1) (mi := mi1) (T := T1) (B := B1) (df := df) hn hb hk h2
    rw [← eB3] at hk3
    generalize thX _ _ = a2 at hk3
    refine ⟨be3, de3, sz3, ro3, co3, mi3, T3, ?_⟩
    refine PX2_blame (Nat.le_of_ble_eq_true rfl) ?_
    intro G hT hC hR
    refine mB hT 2 rfl ?_
    refine hC.1 _ 0 [_] _ _ _ _ _ (c_isVersion_t (i := 3) hv hvs) rfl rfl (Nat.le_of_ble_eq_true rfl) rfl ?_
    refine mB hT 2 rfl ?_
    refine hC.2.1 _ [_] _ _ _ _ (c_isBasket_t hb) rfl (Nat.le_of_ble_eq_true rfl) rfl ?_
    refine mB hT 2 rfl ?_
    refine hC.2.2.1 _ [_] _ _ _ _ (c_isStuff_t hk) rfl (Nat.le_of_ble_eq_true rfl) rfl ?_
    refine mB hT 3 rfl ?_
    refine hC.2.2.2.1 _ 0 [_] _ _ _ _ _ (c_isMaking_t (i := 2) hi hn) rfl rfl (Nat.le_of_ble_eq_true rfl) rfl ?_
    refine mB hT 8 rfl ?_
    refine hC.2.2.2.2.1 _ 0 [_, _, _, _] _ _ _ _ _ (hk1) rfl rfl (Nat.le_of_ble_eq_true rfl) rfl ?_
    refine mB hT 6 rfl ?_
    refine hC.2.2.2.2.2 _ 0 [_, _, _, _] _ _ _ _ _ (hk3) rfl rfl (Nat.le_of_ble_eq_true rfl) rfl ?_
    refine mB hT 6 rfl ?_
    exact hR _ (by decide) _ _ _ rfl rfl
set_option maxRecDepth 20000 in
theorem x_blame_B_3_2 {n vs : Nat} {be de : Int64} {sz : Int32} {ro co mi : Nat → Int64} {T : Nat → Nat → Int64} {B : Nat → Nat → Nat → Int32} {hd : Nat → Nat → Int32} {df : Nat → Int32} (hv : 3 < vs) (hvs : vs ≤ 6) (hi : 2 < n) (hn : n ≤ 4) {b : Nat} (hb : b < 4) {k : Nat} (hk : k < 3) (h1 : ¬ detX n (lyT n ((cpX (cpX B 7 6 0 3) 7 3 3 4) 7) T) = 0) (h2a : ∀ T2 : Nat → Nat → Int64, detX n (lyT n ((cpX (cpX (cpX (cpX B 7 6 0 3) 7 3 3 4) 7 6 0 2) 7 3 2 4) 7) T2) = 0) : ∃ (be4 de4 : Int64) (sz4 : Int32) (ro4 co4 mi4 : Nat → Int64) (T4 : Nat → Nat → Int64), KX2_blame l D ca ad [.ref 0, .int 3, .int (Int32.ofNat b), .int (Int32.ofNat k), .int 2] (XW (Int32.ofNat n) (Int32.ofNat vs) be de sz ro co mi T B hd df) (some (.long (-9000000000000000004))) (XW (Int32.ofNat n) (Int32.ofNat vs) be4 de4 sz4 ro4 co4 mi4 T4 (cpX (cpX (cpX (cpX B 7 6 0 3) 7 3 3 4) 7 6 0 2) 7 3 2 4) hd df) := by
  obtain ⟨B1, eB⟩ : ∃ z, z = (cpX (cpX B 7 6 0 3) 7 3 3 4) := ⟨_, rfl⟩
  obtain ⟨B3, eB3⟩ : ∃ z, z = (cpX (cpX B1 7 6 0 2) 7 3 2 4) := ⟨_, rfl⟩
  rw [← eB] at h2a
  rw [← eB, ← eB3]
  obtain ⟨be1, de1, sz1, ro1, co1, mi1, T1, hk1⟩ := x_mixed_3_3 (l := l) (D := D) (ca := ca) (ad := ad) (vs := vs) (be := be) (de := de) (sz := sz) (ro := ro) (co := co) (mi := mi) (df := df) hn hb hk h1
  rw [← eB] at hk1
  generalize thX _ _ = a1 at hk1
  have h2 := h2a T1
  obtain ⟨be3, de3, sz3, ro3, co3, mi3, T3, hk3⟩ := x_mixed_B_3_2 (l := l) (D := D) (ca := ca) (ad := ad) (vs := vs) (be := be1) (de := de1) (sz := sz1) (ro := ro1) (co := co1) (mi := mi1) (T := T1) (B := B1) (df := df) hn hb hk h2
  rw [← eB3] at hk3
  refine ⟨be3, de3, sz3, ro3, co3, mi3, T3, ?_⟩
  refine PX2_blame (Nat.le_of_ble_eq_true rfl) ?_
  intro G hT hC hR
  refine mB hT 2 rfl ?_
  refine hC.1 _ 0 [_] _ _ _ _ _ (c_isVersion_t (i := 3) hv hvs) rfl rfl (Nat.le_of_ble_eq_true rfl) rfl ?_
  refine mB hT 2 rfl ?_
  refine hC.2.1 _ [_] _ _ _ _ (c_isBasket_t hb) rfl (Nat.le_of_ble_eq_true rfl) rfl ?_
  refine mB hT 2 rfl ?_
  refine hC.2.2.1 _ [_] _ _ _ _ (c_isStuff_t hk) rfl (Nat.le_of_ble_eq_true rfl) rfl ?_
  refine mB hT 3 rfl ?_
  refine hC.2.2.2.1 _ 0 [_] _ _ _ _ _ (c_isMaking_t (i := 2) hi hn) rfl rfl (Nat.le_of_ble_eq_true rfl) rfl ?_
  refine mB hT 8 rfl ?_
  refine hC.2.2.2.2.1 _ 0 [_, _, _, _] _ _ _ _ _ (hk1) rfl rfl (Nat.le_of_ble_eq_true rfl) rfl ?_
  refine mB hT 6 rfl ?_
  refine hC.2.2.2.2.2 _ 0 [_, _, _, _] _ _ _ _ _ (hk3) rfl rfl (Nat.le_of_ble_eq_true rfl) rfl ?_
  refine mB hT 5 rfl ?_
  refine mIf (fun h1 => ?_) (fun h1 => ?_)
  · refine mNf (lv2 := [(7, .long (-9000000000000000004)), (5, .long a1), (0, .ref 0), (1, .int 3), (2, .int (Int32.ofNat b)), (3, .int (Int32.ofNat k)), (4, .int 2)]) (st2 := []) rfl rfl ?_
    refine mB hT 1 rfl ?_
    exact hR _ (by decide) _ _ _ rfl rfl
  · refine mNf (lv2 := [(7, .long (-9000000000000000004)), (5, .long a1), (0, .ref 0), (1, .int 3), (2, .int (Int32.ofNat b)), (3, .int (Int32.ofNat k)), (4, .int 2)]) (st2 := []) rfl rfl ?_
    refine mB hT 5 rfl ?_
    exact hR _ (by decide) _ _ _ rfl rfl
set_option maxRecDepth 20000 in
theorem x_blame_C_3_2 {n vs : Nat} {be de : Int64} {sz : Int32} {ro co mi : Nat → Int64} {T : Nat → Nat → Int64} {B : Nat → Nat → Nat → Int32} {hd : Nat → Nat → Int32} {df : Nat → Int32} (hv : 3 < vs) (hvs : vs ≤ 6) (hi : 2 < n) (hn : n ≤ 4) {b : Nat} (hb : b < 4) {k : Nat} (hk : k < 3) (h1 : ¬ detX n (lyT n ((cpX (cpX B 7 6 0 3) 7 3 3 4) 7) T) = 0) (h2a : ∀ T2 : Nat → Nat → Int64, ¬ detX n (lyT n ((cpX (cpX (cpX (cpX B 7 6 0 3) 7 3 3 4) 7 6 0 2) 7 3 2 4) 7) T2) = 0) (ha : ¬ (thX (smX n ((cpX (cpX B 7 6 0 3) 7 3 3 4) 7) (roX n (lyT n ((cpX (cpX B 7 6 0 3) 7 3 3 4) 7) T) (hd b) ro) k 1) (absX (detX n (lyT n ((cpX (cpX B 7 6 0 3) 7 3 3 4) 7) T)))) = -9000000000000000004) (hb2 : ∀ (T2 : Nat → Nat → Int64) (ro2 : Nat → Int64), ¬ (thX (smX n ((cpX (cpX (cpX (cpX B 7 6 0 3) 7 3 3 4) 7 6 0 2) 7 3 2 4) 7) (roX n (lyT n ((cpX (cpX (cpX (cpX B 7 6 0 3) 7 3 3 4) 7 6 0 2) 7 3 2 4) 7) T2) (hd b) ro2) k 1) (absX (detX n (lyT n ((cpX (cpX (cpX (cpX B 7 6 0 3) 7 3 3 4) 7 6 0 2) 7 3 2 4) 7) T2)))) = -9000000000000000004) : ∃ (T2 : Nat → Nat → Int64) (ro2 : Nat → Int64), ∃ (be4 de4 : Int64) (sz4 : Int32) (ro4 co4 mi4 : Nat → Int64) (T4 : Nat → Nat → Int64), KX2_blame l D ca ad [.ref 0, .int 3, .int (Int32.ofNat b), .int (Int32.ofNat k), .int 2] (XW (Int32.ofNat n) (Int32.ofNat vs) be de sz ro co mi T B hd df) (some (.long ((thX (smX n ((cpX (cpX B 7 6 0 3) 7 3 3 4) 7) (roX n (lyT n ((cpX (cpX B 7 6 0 3) 7 3 3 4) 7) T) (hd b) ro) k 1) (absX (detX n (lyT n ((cpX (cpX B 7 6 0 3) 7 3 3 4) 7) T)))) - (thX (smX n ((cpX (cpX (cpX (cpX B 7 6 0 3) 7 3 3 4) 7 6 0 2) 7 3 2 4) 7) (roX n (lyT n ((cpX (cpX (cpX (cpX B 7 6 0 3) 7 3 3 4) 7 6 0 2) 7 3 2 4) 7) T2) (hd b) ro2) k 1) (absX (detX n (lyT n ((cpX (cpX (cpX (cpX B 7 6 0 3) 7 3 3 4) 7 6 0 2) 7 3 2 4) 7) T2))))))) (XW (Int32.ofNat n) (Int32.ofNat vs) be4 de4 sz4 ro4 co4 mi4 T4 (cpX (cpX (cpX (cpX B 7 6 0 3) 7 3 3 4) 7 6 0 2) 7 3 2 4) hd df) := by
  obtain ⟨B1, eB⟩ : ∃ z, z = (cpX (cpX B 7 6 0 3) 7 3 3 4) := ⟨_, rfl⟩
  obtain ⟨B3, eB3⟩ : ∃ z, z = (cpX (cpX B1 7 6 0 2) 7 3 2 4) := ⟨_, rfl⟩
  obtain ⟨be1, de1, sz1, ro1, co1, mi1, T1, hk1⟩ := x_mixed_3_3 (l := l) (D := D) (ca := ca) (ad := ad) (vs := vs) (be := be) (de := de) (sz := sz) (ro := ro) (co := co) (mi := mi) (df := df) hn hb hk h1
  refine ⟨T1, ro1, ?_⟩
  have hb3 := hb2 T1 ro1
  rw [← eB] at h2a hk1 hb3
  rw [← eB, ← eB3]
  have h2 := h2a T1
  obtain ⟨be3, de3, sz3, ro3, co3, mi3, T3, hk3⟩ := x_mixed_3_2 (l := l) (D := D) (ca := ca) (ad := ad) (vs := vs) (be := be1) (de := de1) (sz := sz1) (ro := ro1) (co := co1) (mi := mi1) (T := T1) (B := B1) (df := df) hn hb hk h2
  rw [← eB3] at hk3
  rw [← eB3] at hb3
  rw [← eB] at ha
  obtain ⟨a1, ea1⟩ : ∃ z, z = (thX (smX n (B1 7) (roX n (lyT n (B1 7) T) (hd b) ro) k 1) (absX (detX n (lyT n (B1 7) T)))) := ⟨_, rfl⟩
  obtain ⟨a2, ea2⟩ : ∃ z, z = (thX (smX n (B3 7) (roX n (lyT n (B3 7) T1) (hd b) ro1) k 1) (absX (detX n (lyT n (B3 7) T1)))) := ⟨_, rfl⟩
  rw [← ea1] at hk1 ha ⊢
  rw [← ea2] at hk3 hb3 ⊢
  refine ⟨be3, de3, sz3, ro3, co3, mi3, T3, ?_⟩
  refine PX2_blame (Nat.le_of_ble_eq_true rfl) ?_
  intro G hT hC hR
  refine mB hT 2 rfl ?_
  refine hC.1 _ 0 [_] _ _ _ _ _ (c_isVersion_t (i := 3) hv hvs) rfl rfl (Nat.le_of_ble_eq_true rfl) rfl ?_
  refine mB hT 2 rfl ?_
  refine hC.2.1 _ [_] _ _ _ _ (c_isBasket_t hb) rfl (Nat.le_of_ble_eq_true rfl) rfl ?_
  refine mB hT 2 rfl ?_
  refine hC.2.2.1 _ [_] _ _ _ _ (c_isStuff_t hk) rfl (Nat.le_of_ble_eq_true rfl) rfl ?_
  refine mB hT 3 rfl ?_
  refine hC.2.2.2.1 _ 0 [_] _ _ _ _ _ (c_isMaking_t (i := 2) hi hn) rfl rfl (Nat.le_of_ble_eq_true rfl) rfl ?_
  refine mB hT 8 rfl ?_
  refine hC.2.2.2.2.1 _ 0 [_, _, _, _] _ _ _ _ _ (hk1) rfl rfl (Nat.le_of_ble_eq_true rfl) rfl ?_
  refine mB hT 6 rfl ?_
  refine hC.2.2.2.2.2 _ 0 [_, _, _, _] _ _ _ _ _ (hk3) rfl rfl (Nat.le_of_ble_eq_true rfl) rfl ?_
  refine mB hT 5 rfl ?_
  refine mIf (fun hp => absurd hp (fun q => ha (lc_eq.mp q))) (fun _ => ?_)
  refine mNf (lv2 := [(7, .long a2), (5, .long a1), (0, .ref 0), (1, .int 3), (2, .int (Int32.ofNat b)), (3, .int (Int32.ofNat k)), (4, .int 2)]) (st2 := []) rfl rfl ?_
  refine mB hT 4 rfl ?_
  refine mIf (fun hp => absurd hp (fun q => hb3 (lc_eq.mp q))) (fun _ => ?_)
  refine mB hT 3 rfl ?_
  exact hR _ (by decide) _ _ _ rfl rfl
set_option maxRecDepth 20000 in
theorem x_blame_A_3_3 {n vs : Nat} {be de : Int64} {sz : Int32} {ro co mi : Nat → Int64} {T : Nat → Nat → Int64} {B : Nat → Nat → Nat → Int32} {hd : Nat → Nat → Int32} {df : Nat → Int32} (hv : 3 < vs) (hvs : vs ≤ 6) (hi : 3 < n) (hn : n ≤ 4) {b : Nat} (hb : b < 4) {k : Nat} (hk : k < 3) (h1 : detX n (lyT n ((cpX (cpX B 7 6 0 4) 7 3 4 4) 7) T) = 0) : ∃ (be4 de4 : Int64) (sz4 : Int32) (ro4 co4 mi4 : Nat → Int64) (T4 : Nat → Nat → Int64), KX2_blame l D ca ad [.ref 0, .int 3, .int (Int32.ofNat b), .int (Int32.ofNat k), .int 3] (XW (Int32.ofNat n) (Int32.ofNat vs) be de sz ro co mi T B hd df) (some (.long (-9000000000000000004))) (XW (Int32.ofNat n) (Int32.ofNat vs) be4 de4 sz4 ro4 co4 mi4 T4 (cpX (cpX (cpX (cpX B 7 6 0 4) 7 3 4 4) 7 6 0 3) 7 3 3 4) hd df) := by
  obtain ⟨B1, eB⟩ : ∃ z, z = (cpX (cpX B 7 6 0 4) 7 3 4 4) := ⟨_, rfl⟩
  obtain ⟨B3, eB3⟩ : ∃ z, z = (cpX (cpX B1 7 6 0 3) 7 3 3 4) := ⟨_, rfl⟩
  rw [← eB, ← eB3]
  obtain ⟨be1, de1, sz1, ro1, co1, mi1, T1, hk1⟩ := x_mixed_B_3_4 (l := l) (D := D) (ca := ca) (ad := ad) (vs := vs) (be := be) (de := de) (sz := sz) (ro := ro) (co := co) (mi := mi) (df := df) hn hb hk h1
  rw [← eB] at hk1
  by_cases h2 : detX n (lyT n ((cpX (cpX B1 7 6 0 3) 7 3 3 4) 7) T1) = 0
  · obtain ⟨be3, de3, sz3, ro3, co3, mi3, T3, hk3⟩ := x_mixed_B_3_3 (l := l) (D := D) (ca := ca) (ad := ad) (vs := vs) (be := be1) (de := de1) (sz := sz1) (ro := ro1) (co := co1) (mi := mi1) (T := T1) (B := B1) (df := df) hn hb hk h2
    rw [← eB3] at hk3
    refine ⟨be3, de3, sz3, ro3, co3, mi3, T3, ?_⟩
    refine PX2_blame (Nat.le_of_ble_eq_true rfl) ?_
    intro G hT hC hR
    refine mB hT 2 rfl ?_
    refine hC.1 _ 0 [_] _ _ _ _ _ (c_isVersion_t (i := 3) hv hvs) rfl rfl (Nat.le_of_ble_eq_true rfl) rfl ?_
    refine mB hT 2 rfl ?_
    refine hC.2.1 _ [_] _ _ _ _ (c_isBasket_t hb) rfl (Nat.le_of_ble_eq_true rfl) rfl ?_
    refine mB hT 2 rfl ?_
    refine hC.2.2.1 _ [_] _ _ _ _ (c_isStuff_t hk) rfl (Nat.le_of_ble_eq_true rfl) rfl ?_
    refine mB hT 3 rfl ?_
    refine hC.2.2.2.1 _ 0 [_] _ _ _ _ _ (c_isMaking_t (i := 3) hi hn) rfl rfl (Nat.le_of_ble_eq_true rfl) rfl ?_
    refine mB hT 8 rfl ?_
    refine hC.2.2.2.2.1 _ 0 [_, _, _, _] _ _ _ _ _ (hk1) rfl rfl (Nat.le_of_ble_eq_true rfl) rfl ?_
    refine mB hT 6 rfl ?_
    refine hC.2.2.2.2.2 _ 0 [_, _, _, _] _ _ _ _ _ (hk3) rfl rfl (Nat.le_of_ble_eq_true rfl) rfl ?_
    refine mB hT 6 rfl ?_
    exact hR _ (by decide) _ _ _ rfl rfl
  · obtain ⟨be3, de3, sz3, ro3, co3, mi3, T3, hk3⟩ := x_mixed_3_3 (l := l) (D := D) (ca := ca) (ad := ad) (vs := vs) (be := be1) (de := de1) (sz := sz1) (ro := ro1) (co := co1) (mi := mi1) (T := T1) (B := B1) (df := df) hn hb hk h2
    rw [← eB3] at hk3
    generalize thX _ _ = a2 at hk3
    refine ⟨be3, de3, sz3, ro3, co3, mi3, T3, ?_⟩
    refine PX2_blame (Nat.le_of_ble_eq_true rfl) ?_
    intro G hT hC hR
    refine mB hT 2 rfl ?_
    refine hC.1 _ 0 [_] _ _ _ _ _ (c_isVersion_t (i := 3) hv hvs) rfl rfl (Nat.le_of_ble_eq_true rfl) rfl ?_
    refine mB hT 2 rfl ?_
    refine hC.2.1 _ [_] _ _ _ _ (c_isBasket_t hb) rfl (Nat.le_of_ble_eq_true rfl) rfl ?_
    refine mB hT 2 rfl ?_
    refine hC.2.2.1 _ [_] _ _ _ _ (c_isStuff_t hk) rfl (Nat.le_of_ble_eq_true rfl) rfl ?_
    refine mB hT 3 rfl ?_
    refine hC.2.2.2.1 _ 0 [_] _ _ _ _ _ (c_isMaking_t (i := 3) hi hn) rfl rfl (Nat.le_of_ble_eq_true rfl) rfl ?_
    refine mB hT 8 rfl ?_
    refine hC.2.2.2.2.1 _ 0 [_, _, _, _] _ _ _ _ _ (hk1) rfl rfl (Nat.le_of_ble_eq_true rfl) rfl ?_
    refine mB hT 6 rfl ?_
    refine hC.2.2.2.2.2 _ 0 [_, _, _, _] _ _ _ _ _ (hk3) rfl rfl (Nat.le_of_ble_eq_true rfl) rfl ?_
    refine mB hT 6 rfl ?_
    exact hR _ (by decide) _ _ _ rfl rfl
set_option maxRecDepth 20000 in
theorem x_blame_B_3_3 {n vs : Nat} {be de : Int64} {sz : Int32} {ro co mi : Nat → Int64} {T : Nat → Nat → Int64} {B : Nat → Nat → Nat → Int32} {hd : Nat → Nat → Int32} {df : Nat → Int32} (hv : 3 < vs) (hvs : vs ≤ 6) (hi : 3 < n) (hn : n ≤ 4) {b : Nat} (hb : b < 4) {k : Nat} (hk : k < 3) (h1 : ¬ detX n (lyT n ((cpX (cpX B 7 6 0 4) 7 3 4 4) 7) T) = 0) (h2a : ∀ T2 : Nat → Nat → Int64, detX n (lyT n ((cpX (cpX (cpX (cpX B 7 6 0 4) 7 3 4 4) 7 6 0 3) 7 3 3 4) 7) T2) = 0) : ∃ (be4 de4 : Int64) (sz4 : Int32) (ro4 co4 mi4 : Nat → Int64) (T4 : Nat → Nat → Int64), KX2_blame l D ca ad [.ref 0, .int 3, .int (Int32.ofNat b), .int (Int32.ofNat k), .int 3] (XW (Int32.ofNat n) (Int32.ofNat vs) be de sz ro co mi T B hd df) (some (.long (-9000000000000000004))) (XW (Int32.ofNat n) (Int32.ofNat vs) be4 de4 sz4 ro4 co4 mi4 T4 (cpX (cpX (cpX (cpX B 7 6 0 4) 7 3 4 4) 7 6 0 3) 7 3 3 4) hd df) := by
  obtain ⟨B1, eB⟩ : ∃ z, z = (cpX (cpX B 7 6 0 4) 7 3 4 4) := ⟨_, rfl⟩
  obtain ⟨B3, eB3⟩ : ∃ z, z = (cpX (cpX B1 7 6 0 3) 7 3 3 4) := ⟨_, rfl⟩
  rw [← eB] at h2a
  rw [← eB, ← eB3]
  obtain ⟨be1, de1, sz1, ro1, co1, mi1, T1, hk1⟩ := x_mixed_3_4 (l := l) (D := D) (ca := ca) (ad := ad) (vs := vs) (be := be) (de := de) (sz := sz) (ro := ro) (co := co) (mi := mi) (df := df) hn hb hk h1
  rw [← eB] at hk1
  generalize thX _ _ = a1 at hk1
  have h2 := h2a T1
  obtain ⟨be3, de3, sz3, ro3, co3, mi3, T3, hk3⟩ := x_mixed_B_3_3 (l := l) (D := D) (ca := ca) (ad := ad) (vs := vs) (be := be1) (de := de1) (sz := sz1) (ro := ro1) (co := co1) (mi := mi1) (T := T1) (B := B1) (df := df) hn hb hk h2
  rw [← eB3] at hk3
  refine ⟨be3, de3, sz3, ro3, co3, mi3, T3, ?_⟩
  refine PX2_blame (Nat.le_of_ble_eq_true rfl) ?_
  intro G hT hC hR
  refine mB hT 2 rfl ?_
  refine hC.1 _ 0 [_] _ _ _ _ _ (c_isVersion_t (i := 3) hv hvs) rfl rfl (Nat.le_of_ble_eq_true rfl) rfl ?_
  refine mB hT 2 rfl ?_
  refine hC.2.1 _ [_] _ _ _ _ (c_isBasket_t hb) rfl (Nat.le_of_ble_eq_true rfl) rfl ?_
  refine mB hT 2 rfl ?_
  refine hC.2.2.1 _ [_] _ _ _ _ (c_isStuff_t hk) rfl (Nat.le_of_ble_eq_true rfl) rfl ?_
  refine mB hT 3 rfl ?_
  refine hC.2.2.2.1 _ 0 [_] _ _ _ _ _ (c_isMaking_t (i := 3) hi hn) rfl rfl (Nat.le_of_ble_eq_true rfl) rfl ?_
  refine mB hT 8 rfl ?_
  refine hC.2.2.2.2.1 _ 0 [_, _, _, _] _ _ _ _ _ (hk1) rfl rfl (Nat.le_of_ble_eq_true rfl) rfl ?_
  refine mB hT 6 rfl ?_
  refine hC.2.2.2.2.2 _ 0 [_, _, _, _] _ _ _ _ _ (hk3) rfl rfl (Nat.le_of_ble_eq_true rfl) rfl ?_
  refine mB hT 5 rfl ?_
  refine mIf (fun h1 => ?_) (fun h1 => ?_)
  · refine mNf (lv2 := [(7, .long (-9000000000000000004)), (5, .long a1), (0, .ref 0), (1, .int 3), (2, .int (Int32.ofNat b)), (3, .int (Int32.ofNat k)), (4, .int 3)]) (st2 := []) rfl rfl ?_
    refine mB hT 1 rfl ?_
    exact hR _ (by decide) _ _ _ rfl rfl
  · refine mNf (lv2 := [(7, .long (-9000000000000000004)), (5, .long a1), (0, .ref 0), (1, .int 3), (2, .int (Int32.ofNat b)), (3, .int (Int32.ofNat k)), (4, .int 3)]) (st2 := []) rfl rfl ?_
    refine mB hT 5 rfl ?_
    exact hR _ (by decide) _ _ _ rfl rfl
set_option maxRecDepth 20000 in
theorem x_blame_C_3_3 {n vs : Nat} {be de : Int64} {sz : Int32} {ro co mi : Nat → Int64} {T : Nat → Nat → Int64} {B : Nat → Nat → Nat → Int32} {hd : Nat → Nat → Int32} {df : Nat → Int32} (hv : 3 < vs) (hvs : vs ≤ 6) (hi : 3 < n) (hn : n ≤ 4) {b : Nat} (hb : b < 4) {k : Nat} (hk : k < 3) (h1 : ¬ detX n (lyT n ((cpX (cpX B 7 6 0 4) 7 3 4 4) 7) T) = 0) (h2a : ∀ T2 : Nat → Nat → Int64, ¬ detX n (lyT n ((cpX (cpX (cpX (cpX B 7 6 0 4) 7 3 4 4) 7 6 0 3) 7 3 3 4) 7) T2) = 0) (ha : ¬ (thX (smX n ((cpX (cpX B 7 6 0 4) 7 3 4 4) 7) (roX n (lyT n ((cpX (cpX B 7 6 0 4) 7 3 4 4) 7) T) (hd b) ro) k 1) (absX (detX n (lyT n ((cpX (cpX B 7 6 0 4) 7 3 4 4) 7) T)))) = -9000000000000000004) (hb2 : ∀ (T2 : Nat → Nat → Int64) (ro2 : Nat → Int64), ¬ (thX (smX n ((cpX (cpX (cpX (cpX B 7 6 0 4) 7 3 4 4) 7 6 0 3) 7 3 3 4) 7) (roX n (lyT n ((cpX (cpX (cpX (cpX B 7 6 0 4) 7 3 4 4) 7 6 0 3) 7 3 3 4) 7) T2) (hd b) ro2) k 1) (absX (detX n (lyT n ((cpX (cpX (cpX (cpX B 7 6 0 4) 7 3 4 4) 7 6 0 3) 7 3 3 4) 7) T2)))) = -9000000000000000004) : ∃ (T2 : Nat → Nat → Int64) (ro2 : Nat → Int64), ∃ (be4 de4 : Int64) (sz4 : Int32) (ro4 co4 mi4 : Nat → Int64) (T4 : Nat → Nat → Int64), KX2_blame l D ca ad [.ref 0, .int 3, .int (Int32.ofNat b), .int (Int32.ofNat k), .int 3] (XW (Int32.ofNat n) (Int32.ofNat vs) be de sz ro co mi T B hd df) (some (.long ((thX (smX n ((cpX (cpX B 7 6 0 4) 7 3 4 4) 7) (roX n (lyT n ((cpX (cpX B 7 6 0 4) 7 3 4 4) 7) T) (hd b) ro) k 1) (absX (detX n (lyT n ((cpX (cpX B 7 6 0 4) 7 3 4 4) 7) T)))) - (thX (smX n ((cpX (cpX (cpX (cpX B 7 6 0 4) 7 3 4 4) 7 6 0 3) 7 3 3 4) 7) (roX n (lyT n ((cpX (cpX (cpX (cpX B 7 6 0 4) 7 3 4 4) 7 6 0 3) 7 3 3 4) 7) T2) (hd b) ro2) k 1) (absX (detX n (lyT n ((cpX (cpX (cpX (cpX B 7 6 0 4) 7 3 4 4) 7 6 0 3) 7 3 3 4) 7) T2))))))) (XW (Int32.ofNat n) (Int32.ofNat vs) be4 de4 sz4 ro4 co4 mi4 T4 (cpX (cpX (cpX (cpX B 7 6 0 4) 7 3 4 4) 7 6 0 3) 7 3 3 4) hd df) := by
  obtain ⟨B1, eB⟩ : ∃ z, z = (cpX (cpX B 7 6 0 4) 7 3 4 4) := ⟨_, rfl⟩
  obtain ⟨B3, eB3⟩ : ∃ z, z = (cpX (cpX B1 7 6 0 3) 7 3 3 4) := ⟨_, rfl⟩
  obtain ⟨be1, de1, sz1, ro1, co1, mi1, T1, hk1⟩ := x_mixed_3_4 (l := l) (D := D) (ca := ca) (ad := ad) (vs := vs) (be := be) (de := de) (sz := sz) (ro := ro) (co := co) (mi := mi) (df := df) hn hb hk h1
  refine ⟨T1, ro1, ?_⟩
  have hb3 := hb2 T1 ro1
  rw [← eB] at h2a hk1 hb3
  rw [← eB, ← eB3]
  have h2 := h2a T1
  obtain ⟨be3, de3, sz3, ro3, co3, mi3, T3, hk3⟩ := x_mixed_3_3 (l := l) (D := D) (ca := ca) (ad := ad) (vs := vs) (be := be1) (de := de1) (sz := sz1) (ro := ro1) (co := co1) (mi := mi1) (T := T1) (B := B1) (df := df) hn hb hk h2
  rw [← eB3] at hk3
  rw [← eB3] at hb3
  rw [← eB] at ha
  obtain ⟨a1, ea1⟩ : ∃ z, z = (thX (smX n (B1 7) (roX n (lyT n (B1 7) T) (hd b) ro) k 1) (absX (detX n (lyT n (B1 7) T)))) := ⟨_, rfl⟩
  obtain ⟨a2, ea2⟩ : ∃ z, z = (thX (smX n (B3 7) (roX n (lyT n (B3 7) T1) (hd b) ro1) k 1) (absX (detX n (lyT n (B3 7) T1)))) := ⟨_, rfl⟩
  rw [← ea1] at hk1 ha ⊢
  rw [← ea2] at hk3 hb3 ⊢
  refine ⟨be3, de3, sz3, ro3, co3, mi3, T3, ?_⟩
  refine PX2_blame (Nat.le_of_ble_eq_true rfl) ?_
  intro G hT hC hR
  refine mB hT 2 rfl ?_
  refine hC.1 _ 0 [_] _ _ _ _ _ (c_isVersion_t (i := 3) hv hvs) rfl rfl (Nat.le_of_ble_eq_true rfl) rfl ?_
  refine mB hT 2 rfl ?_
  refine hC.2.1 _ [_] _ _ _ _ (c_isBasket_t hb) rfl (Nat.le_of_ble_eq_true rfl) rfl ?_
  refine mB hT 2 rfl ?_
  refine hC.2.2.1 _ [_] _ _ _ _ (c_isStuff_t hk) rfl (Nat.le_of_ble_eq_true rfl) rfl ?_
  refine mB hT 3 rfl ?_
  refine hC.2.2.2.1 _ 0 [_] _ _ _ _ _ (c_isMaking_t (i := 3) hi hn) rfl rfl (Nat.le_of_ble_eq_true rfl) rfl ?_
  refine mB hT 8 rfl ?_
  refine hC.2.2.2.2.1 _ 0 [_, _, _, _] _ _ _ _ _ (hk1) rfl rfl (Nat.le_of_ble_eq_true rfl) rfl ?_
  refine mB hT 6 rfl ?_
  refine hC.2.2.2.2.2 _ 0 [_, _, _, _] _ _ _ _ _ (hk3) rfl rfl (Nat.le_of_ble_eq_true rfl) rfl ?_
  refine mB hT 5 rfl ?_
  refine mIf (fun hp => absurd hp (fun q => ha (lc_eq.mp q))) (fun _ => ?_)
  refine mNf (lv2 := [(7, .long a2), (5, .long a1), (0, .ref 0), (1, .int 3), (2, .int (Int32.ofNat b)), (3, .int (Int32.ofNat k)), (4, .int 3)]) (st2 := []) rfl rfl ?_
  refine mB hT 4 rfl ?_
  refine mIf (fun hp => absurd hp (fun q => hb3 (lc_eq.mp q))) (fun _ => ?_)
  refine mB hT 3 rfl ?_
  exact hR _ (by decide) _ _ _ rfl rfl
set_option maxRecDepth 20000 in
theorem x_blame_A_4_0 {n vs : Nat} {be de : Int64} {sz : Int32} {ro co mi : Nat → Int64} {T : Nat → Nat → Int64} {B : Nat → Nat → Nat → Int32} {hd : Nat → Nat → Int32} {df : Nat → Int32} (hv : 4 < vs) (hvs : vs ≤ 6) (hi : 0 < n) (hn : n ≤ 4) {b : Nat} (hb : b < 4) {k : Nat} (hk : k < 3) (h1 : detX n (lyT n ((cpX (cpX B 7 6 0 1) 7 4 1 4) 7) T) = 0) : ∃ (be4 de4 : Int64) (sz4 : Int32) (ro4 co4 mi4 : Nat → Int64) (T4 : Nat → Nat → Int64), KX2_blame l D ca ad [.ref 0, .int 4, .int (Int32.ofNat b), .int (Int32.ofNat k), .int 0] (XW (Int32.ofNat n) (Int32.ofNat vs) be de sz ro co mi T B hd df) (some (.long (-9000000000000000004))) (XW (Int32.ofNat n) (Int32.ofNat vs) be4 de4 sz4 ro4 co4 mi4 T4 (cpX (cpX (cpX (cpX B 7 6 0 1) 7 4 1 4) 7 6 0 0) 7 4 0 4) hd df) := by
  obtain ⟨B1, eB⟩ : ∃ z, z = (cpX (cpX B 7 6 0 1) 7 4 1 4) := ⟨_, rfl⟩
  obtain ⟨B3, eB3⟩ : ∃ z, z = (cpX (cpX B1 7 6 0 0) 7 4 0 4) := ⟨_, rfl⟩
  rw [← eB, ← eB3]
  obtain ⟨be1, de1, sz1, ro1, co1, mi1, T1, hk1⟩ := x_mixed_B_4_1 (l := l) (D := D) (ca := ca) (ad := ad) (vs := vs) (be := be) (de := de) (sz := sz) (ro := ro) (co := co) (mi := mi) (df := df) hn hb hk h1
  rw [← eB] at hk1
  by_cases h2 : detX n (lyT n ((cpX (cpX B1 7 6 0 0) 7 4 0 4) 7) T1) = 0
  · obtain ⟨be3, de3, sz3, ro3, co3, mi3, T3, hk3⟩ := x_mixed_B_4_0 (l := l) (D := D) (ca := ca) (ad := ad) (vs := vs) (be := be1) (de := de1) (sz := sz1) (ro := ro1) (co := co1) (mi := mi1) (T := T1) (B := B1) (df := df) hn hb hk h2
    rw [← eB3] at hk3
    refine ⟨be3, de3, sz3, ro3, co3, mi3, T3, ?_⟩
    refine PX2_blame (Nat.le_of_ble_eq_true rfl) ?_
    intro G hT hC hR
    refine mB hT 2 rfl ?_
    refine hC.1 _ 0 [_] _ _ _ _ _ (c_isVersion_t (i := 4) hv hvs) rfl rfl (Nat.le_of_ble_eq_true rfl) rfl ?_
    refine mB hT 2 rfl ?_
    refine hC.2.1 _ [_] _ _ _ _ (c_isBasket_t hb) rfl (Nat.le_of_ble_eq_true rfl) rfl ?_
    refine mB hT 2 rfl ?_
    refine hC.2.2.1 _ [_] _ _ _ _ (c_isStuff_t hk) rfl (Nat.le_of_ble_eq_true rfl) rfl ?_
    refine mB hT 3 rfl ?_
    refine hC.2.2.2.1 _ 0 [_] _ _ _ _ _ (c_isMaking_t (i := 0) hi hn) rfl rfl (Nat.le_of_ble_eq_true rfl) rfl ?_
    refine mB hT 8 rfl ?_
    refine hC.2.2.2.2.1 _ 0 [_, _, _, _] _ _ _ _ _ (hk1) rfl rfl (Nat.le_of_ble_eq_true rfl) rfl ?_
    refine mB hT 6 rfl ?_
    refine hC.2.2.2.2.2 _ 0 [_, _, _, _] _ _ _ _ _ (hk3) rfl rfl (Nat.le_of_ble_eq_true rfl) rfl ?_
    refine mB hT 6 rfl ?_
    exact hR _ (by decide) _ _ _ rfl rfl
  · obtain ⟨be3, de3, sz3, ro3, co3, mi3, T3, hk3⟩ := x_mixed_4_0 (l := l) (D := D) (ca := ca) (ad := ad) (vs := vs) (be := be1) (de := de1) (sz := sz1) (ro := ro1) (co := co1) (mi := mi1) (T := T1) (B := B1) (df := df) hn hb hk h2
    rw [← eB3] at hk3
    generalize thX _ _ = a2 at hk3
    refine ⟨be3, de3, sz3, ro3, co3, mi3, T3, ?_⟩
    refine PX2_blame (Nat.le_of_ble_eq_true rfl) ?_
    intro G hT hC hR
    refine mB hT 2 rfl ?_
    refine hC.1 _ 0 [_] _ _ _ _ _ (c_isVersion_t (i := 4) hv hvs) rfl rfl (Nat.le_of_ble_eq_true rfl) rfl ?_
    refine mB hT 2 rfl ?_
    refine hC.2.1 _ [_] _ _ _ _ (c_isBasket_t hb) rfl (Nat.le_of_ble_eq_true rfl) rfl ?_
    refine mB hT 2 rfl ?_
    refine hC.2.2.1 _ [_] _ _ _ _ (c_isStuff_t hk) rfl (Nat.le_of_ble_eq_true rfl) rfl ?_
    refine mB hT 3 rfl ?_
    refine hC.2.2.2.1 _ 0 [_] _ _ _ _ _ (c_isMaking_t (i := 0) hi hn) rfl rfl (Nat.le_of_ble_eq_true rfl) rfl ?_
    refine mB hT 8 rfl ?_
    refine hC.2.2.2.2.1 _ 0 [_, _, _, _] _ _ _ _ _ (hk1) rfl rfl (Nat.le_of_ble_eq_true rfl) rfl ?_
    refine mB hT 6 rfl ?_
    refine hC.2.2.2.2.2 _ 0 [_, _, _, _] _ _ _ _ _ (hk3) rfl rfl (Nat.le_of_ble_eq_true rfl) rfl ?_
    refine mB hT 6 rfl ?_
    exact hR _ (by decide) _ _ _ rfl rfl
set_option maxRecDepth 20000 in
theorem x_blame_B_4_0 {n vs : Nat} {be de : Int64} {sz : Int32} {ro co mi : Nat → Int64} {T : Nat → Nat → Int64} {B : Nat → Nat → Nat → Int32} {hd : Nat → Nat → Int32} {df : Nat → Int32} (hv : 4 < vs) (hvs : vs ≤ 6) (hi : 0 < n) (hn : n ≤ 4) {b : Nat} (hb : b < 4) {k : Nat} (hk : k < 3) (h1 : ¬ detX n (lyT n ((cpX (cpX B 7 6 0 1) 7 4 1 4) 7) T) = 0) (h2a : ∀ T2 : Nat → Nat → Int64, detX n (lyT n ((cpX (cpX (cpX (cpX B 7 6 0 1) 7 4 1 4) 7 6 0 0) 7 4 0 4) 7) T2) = 0) : ∃ (be4 de4 : Int64) (sz4 : Int32) (ro4 co4 mi4 : Nat → Int64) (T4 : Nat → Nat → Int64), KX2_blame l D ca ad [.ref 0, .int 4, .int (Int32.ofNat b), .int (Int32.ofNat k), .int 0] (XW (Int32.ofNat n) (Int32.ofNat vs) be de sz ro co mi T B hd df) (some (.long (-9000000000000000004))) (XW (Int32.ofNat n) (Int32.ofNat vs) be4 de4 sz4 ro4 co4 mi4 T4 (cpX (cpX (cpX (cpX B 7 6 0 1) 7 4 1 4) 7 6 0 0) 7 4 0 4) hd df) := by
  obtain ⟨B1, eB⟩ : ∃ z, z = (cpX (cpX B 7 6 0 1) 7 4 1 4) := ⟨_, rfl⟩
  obtain ⟨B3, eB3⟩ : ∃ z, z = (cpX (cpX B1 7 6 0 0) 7 4 0 4) := ⟨_, rfl⟩
  rw [← eB] at h2a
  rw [← eB, ← eB3]
  obtain ⟨be1, de1, sz1, ro1, co1, mi1, T1, hk1⟩ := x_mixed_4_1 (l := l) (D := D) (ca := ca) (ad := ad) (vs := vs) (be := be) (de := de) (sz := sz) (ro := ro) (co := co) (mi := mi) (df := df) hn hb hk h1
  rw [← eB] at hk1
  generalize thX _ _ = a1 at hk1
  have h2 := h2a T1
  obtain ⟨be3, de3, sz3, ro3, co3, mi3, T3, hk3⟩ := x_mixed_B_4_0 (l := l) (D := D) (ca := ca) (ad := ad) (vs := vs) (be := be1) (de := de1) (sz := sz1) (ro := ro1) (co := co1) (mi := mi1) (T := T1) (B := B1) (df := df) hn hb hk h2
  rw [← eB3] at hk3
  refine ⟨be3, de3, sz3, ro3, co3, mi3, T3, ?_⟩
  refine PX2_blame (Nat.le_of_ble_eq_true rfl) ?_
  intro G hT hC hR
  refine mB hT 2 rfl ?_
  refine hC.1 _ 0 [_] _ _ _ _ _ (c_isVersion_t (i := 4) hv hvs) rfl rfl (Nat.le_of_ble_eq_true rfl) rfl ?_
  refine mB hT 2 rfl ?_
  refine hC.2.1 _ [_] _ _ _ _ (c_isBasket_t hb) rfl (Nat.le_of_ble_eq_true rfl) rfl ?_
  refine mB hT 2 rfl ?_
  refine hC.2.2.1 _ [_] _ _ _ _ (c_isStuff_t hk) rfl (Nat.le_of_ble_eq_true rfl) rfl ?_
  refine mB hT 3 rfl ?_
  refine hC.2.2.2.1 _ 0 [_] _ _ _ _ _ (c_isMaking_t (i := 0) hi hn) rfl rfl (Nat.le_of_ble_eq_true rfl) rfl ?_
  refine mB hT 8 rfl ?_
  refine hC.2.2.2.2.1 _ 0 [_, _, _, _] _ _ _ _ _ (hk1) rfl rfl (Nat.le_of_ble_eq_true rfl) rfl ?_
  refine mB hT 6 rfl ?_
  refine hC.2.2.2.2.2 _ 0 [_, _, _, _] _ _ _ _ _ (hk3) rfl rfl (Nat.le_of_ble_eq_true rfl) rfl ?_
  refine mB hT 5 rfl ?_
  refine mIf (fun h1 => ?_) (fun h1 => ?_)
  · refine mNf (lv2 := [(7, .long (-9000000000000000004)), (5, .long a1), (0, .ref 0), (1, .int 4), (2, .int (Int32.ofNat b)), (3, .int (Int32.ofNat k)), (4, .int 0)]) (st2 := []) rfl rfl ?_
    refine mB hT 1 rfl ?_
    exact hR _ (by decide) _ _ _ rfl rfl
  · refine mNf (lv2 := [(7, .long (-9000000000000000004)), (5, .long a1), (0, .ref 0), (1, .int 4), (2, .int (Int32.ofNat b)), (3, .int (Int32.ofNat k)), (4, .int 0)]) (st2 := []) rfl rfl ?_
    refine mB hT 5 rfl ?_
    exact hR _ (by decide) _ _ _ rfl rfl
set_option maxRecDepth 20000 in
theorem x_blame_C_4_0 {n vs : Nat} {be de : Int64} {sz : Int32} {ro co mi : Nat → Int64} {T : Nat → Nat → Int64} {B : Nat → Nat → Nat → Int32} {hd : Nat → Nat → Int32} {df : Nat → Int32} (hv : 4 < vs) (hvs : vs ≤ 6) (hi : 0 < n) (hn : n ≤ 4) {b : Nat} (hb : b < 4) {k : Nat} (hk : k < 3) (h1 : ¬ detX n (lyT n ((cpX (cpX B 7 6 0 1) 7 4 1 4) 7) T) = 0) (h2a : ∀ T2 : Nat → Nat → Int64, ¬ detX n (lyT n ((cpX (cpX (cpX (cpX B 7 6 0 1) 7 4 1 4) 7 6 0 0) 7 4 0 4) 7) T2) = 0) (ha : ¬ (thX (smX n ((cpX (cpX B 7 6 0 1) 7 4 1 4) 7) (roX n (lyT n ((cpX (cpX B 7 6 0 1) 7 4 1 4) 7) T) (hd b) ro) k 1) (absX (detX n (lyT n ((cpX (cpX B 7 6 0 1) 7 4 1 4) 7) T)))) = -9000000000000000004) (hb2 : ∀ (T2 : Nat → Nat → Int64) (ro2 : Nat → Int64), ¬ (thX (smX n ((cpX (cpX (cpX (cpX B 7 6 0 1) 7 4 1 4) 7 6 0 0) 7 4 0 4) 7) (roX n (lyT n ((cpX (cpX (cpX (cpX B 7 6 0 1) 7 4 1 4) 7 6 0 0) 7 4 0 4) 7) T2) (hd b) ro2) k 1) (absX (detX n (lyT n ((cpX (cpX (cpX (cpX B 7 6 0 1) 7 4 1 4) 7 6 0 0) 7 4 0 4) 7) T2)))) = -9000000000000000004) : ∃ (T2 : Nat → Nat → Int64) (ro2 : Nat → Int64), ∃ (be4 de4 : Int64) (sz4 : Int32) (ro4 co4 mi4 : Nat → Int64) (T4 : Nat → Nat → Int64), KX2_blame l D ca ad [.ref 0, .int 4, .int (Int32.ofNat b), .int (Int32.ofNat k), .int 0] (XW (Int32.ofNat n) (Int32.ofNat vs) be de sz ro co mi T B hd df) (some (.long ((thX (smX n ((cpX (cpX B 7 6 0 1) 7 4 1 4) 7) (roX n (lyT n ((cpX (cpX B 7 6 0 1) 7 4 1 4) 7) T) (hd b) ro) k 1) (absX (detX n (lyT n ((cpX (cpX B 7 6 0 1) 7 4 1 4) 7) T)))) - (thX (smX n ((cpX (cpX (cpX (cpX B 7 6 0 1) 7 4 1 4) 7 6 0 0) 7 4 0 4) 7) (roX n (lyT n ((cpX (cpX (cpX (cpX B 7 6 0 1) 7 4 1 4) 7 6 0 0) 7 4 0 4) 7) T2) (hd b) ro2) k 1) (absX (detX n (lyT n ((cpX (cpX (cpX (cpX B 7 6 0 1) 7 4 1 4) 7 6 0 0) 7 4 0 4) 7) T2))))))) (XW (Int32.ofNat n) (Int32.ofNat vs) be4 de4 sz4 ro4 co4 mi4 T4 (cpX (cpX (cpX (cpX B 7 6 0 1) 7 4 1 4) 7 6 0 0) 7 4 0 4) hd df) := by
  obtain ⟨B1, eB⟩ : ∃ z, z = (cpX (cpX B 7 6 0 1) 7 4 1 4) := ⟨_, rfl⟩
  obtain ⟨B3, eB3⟩ : ∃ z, z = (cpX (cpX B1 7 6 0 0) 7 4 0 4) := ⟨_, rfl⟩
  obtain ⟨be1, de1, sz1, ro1, co1, mi1, T1, hk1⟩ := x_mixed_4_1 (l := l) (D := D) (ca := ca) (ad := ad) (vs := vs) (be := be) (de := de) (sz := sz) (ro := ro) (co := co) (mi := mi) (df := df) hn hb hk h1
  refine ⟨T1, ro1, ?_⟩
  have hb3 := hb2 T1 ro1
  rw [← eB] at h2a hk1 hb3
  rw [← eB, ← eB3]
  have h2 := h2a T1
  obtain ⟨be3, de3, sz3, ro3, co3, mi3, T3, hk3⟩ := x_mixed_4_0 (l := l) (D := D) (ca := ca) (ad := ad) (vs := vs) (be := be1) (de := de1) (sz := sz1) (ro := ro1) (co := co1) (mi := mi1) (T := T1) (B := B1) (df := df) hn hb hk h2
  rw [← eB3] at hk3
  rw [← eB3] at hb3
  rw [← eB] at ha
  obtain ⟨a1, ea1⟩ : ∃ z, z = (thX (smX n (B1 7) (roX n (lyT n (B1 7) T) (hd b) ro) k 1) (absX (detX n (lyT n (B1 7) T)))) := ⟨_, rfl⟩
  obtain ⟨a2, ea2⟩ : ∃ z, z = (thX (smX n (B3 7) (roX n (lyT n (B3 7) T1) (hd b) ro1) k 1) (absX (detX n (lyT n (B3 7) T1)))) := ⟨_, rfl⟩
  rw [← ea1] at hk1 ha ⊢
  rw [← ea2] at hk3 hb3 ⊢
  refine ⟨be3, de3, sz3, ro3, co3, mi3, T3, ?_⟩
  refine PX2_blame (Nat.le_of_ble_eq_true rfl) ?_
  intro G hT hC hR
  refine mB hT 2 rfl ?_
  refine hC.1 _ 0 [_] _ _ _ _ _ (c_isVersion_t (i := 4) hv hvs) rfl rfl (Nat.le_of_ble_eq_true rfl) rfl ?_
  refine mB hT 2 rfl ?_
  refine hC.2.1 _ [_] _ _ _ _ (c_isBasket_t hb) rfl (Nat.le_of_ble_eq_true rfl) rfl ?_
  refine mB hT 2 rfl ?_
  refine hC.2.2.1 _ [_] _ _ _ _ (c_isStuff_t hk) rfl (Nat.le_of_ble_eq_true rfl) rfl ?_
  refine mB hT 3 rfl ?_
  refine hC.2.2.2.1 _ 0 [_] _ _ _ _ _ (c_isMaking_t (i := 0) hi hn) rfl rfl (Nat.le_of_ble_eq_true rfl) rfl ?_
  refine mB hT 8 rfl ?_
  refine hC.2.2.2.2.1 _ 0 [_, _, _, _] _ _ _ _ _ (hk1) rfl rfl (Nat.le_of_ble_eq_true rfl) rfl ?_
  refine mB hT 6 rfl ?_
  refine hC.2.2.2.2.2 _ 0 [_, _, _, _] _ _ _ _ _ (hk3) rfl rfl (Nat.le_of_ble_eq_true rfl) rfl ?_
  refine mB hT 5 rfl ?_
  refine mIf (fun hp => absurd hp (fun q => ha (lc_eq.mp q))) (fun _ => ?_)
  refine mNf (lv2 := [(7, .long a2), (5, .long a1), (0, .ref 0), (1, .int 4), (2, .int (Int32.ofNat b)), (3, .int (Int32.ofNat k)), (4, .int 0)]) (st2 := []) rfl rfl ?_
  refine mB hT 4 rfl ?_
  refine mIf (fun hp => absurd hp (fun q => hb3 (lc_eq.mp q))) (fun _ => ?_)
  refine mB hT 3 rfl ?_
  exact hR _ (by decide) _ _ _ rfl rfl
set_option maxRecDepth 20000 in
theorem x_blame_A_4_1 {n vs : Nat} {be de : Int64} {sz : Int32} {ro co mi : Nat → Int64} {T : Nat → Nat → Int64} {B : Nat → Nat → Nat → Int32} {hd : Nat → Nat → Int32} {df : Nat → Int32} (hv : 4 < vs) (hvs : vs ≤ 6) (hi : 1 < n) (hn : n ≤ 4) {b : Nat} (hb : b < 4) {k : Nat} (hk : k < 3) (h1 : detX n (lyT n ((cpX (cpX B 7 6 0 2) 7 4 2 4) 7) T) = 0) : ∃ (be4 de4 : Int64) (sz4 : Int32) (ro4 co4 mi4 : Nat → Int64) (T4 : Nat → Nat → Int64), KX2_blame l D ca ad [.ref 0, .int 4, .int (Int32.ofNat b), .int (Int32.ofNat k), .int 1] (XW (Int32.ofNat n) (Int32.ofNat vs) be de sz ro co mi T B hd df) (some (.long (-9000000000000000004))) (XW (Int32.ofNat n) (Int32.ofNat vs) be4 de4 sz4 ro4 co4 mi4 T4 (cpX (cpX (cpX (cpX B 7 6 0 2) 7 4 2 4) 7 6 0 1) 7 4 1 4) hd df) := by
  obtain ⟨B1, eB⟩ : ∃ z, z = (cpX (cpX B 7 6 0 2) 7 4 2 4) := ⟨_, rfl⟩
  obtain ⟨B3, eB3⟩ : ∃ z, z = (cpX (cpX B1 7 6 0 1) 7 4 1 4) := ⟨_, rfl⟩
  rw [← eB, ← eB3]
  obtain ⟨be1, de1, sz1, ro1, co1, mi1, T1, hk1⟩ := x_mixed_B_4_2 (l := l) (D := D) (ca := ca) (ad := ad) (vs := vs) (be := be) (de := de) (sz := sz) (ro := ro) (co := co) (mi := mi) (df := df) hn hb hk h1
  rw [← eB] at hk1
  by_cases h2 : detX n (lyT n ((cpX (cpX B1 7 6 0 1) 7 4 1 4) 7) T1) = 0
  · obtain ⟨be3, de3, sz3, ro3, co3, mi3, T3, hk3⟩ := x_mixed_B_4_1 (l := l) (D := D) (ca := ca) (ad := ad) (vs := vs) (be := be1) (de := de1) (sz := sz1) (ro := ro1) (co := co1) (mi := mi1) (T := T1) (B := B1) (df := df) hn hb hk h2
    rw [← eB3] at hk3
    refine ⟨be3, de3, sz3, ro3, co3, mi3, T3, ?_⟩
    refine PX2_blame (Nat.le_of_ble_eq_true rfl) ?_
    intro G hT hC hR
    refine mB hT 2 rfl ?_
    refine hC.1 _ 0 [_] _ _ _ _ _ (c_isVersion_t (i := 4) hv hvs) rfl rfl (Nat.le_of_ble_eq_true rfl) rfl ?_
    refine mB hT 2 rfl ?_
    refine hC.2.1 _ [_] _ _ _ _ (c_isBasket_t hb) rfl (Nat.le_of_ble_eq_true rfl) rfl ?_
    refine mB hT 2 rfl ?_
    refine hC.2.2.1 _ [_] _ _ _ _ (c_isStuff_t hk) rfl (Nat.le_of_ble_eq_true rfl) rfl ?_
    refine mB hT 3 rfl ?_
    refine hC.2.2.2.1 _ 0 [_] _ _ _ _ _ (c_isMaking_t (i := 1) hi hn) rfl rfl (Nat.le_of_ble_eq_true rfl) rfl ?_
    refine mB hT 8 rfl ?_
    refine hC.2.2.2.2.1 _ 0 [_, _, _, _] _ _ _ _ _ (hk1) rfl rfl (Nat.le_of_ble_eq_true rfl) rfl ?_
    refine mB hT 6 rfl ?_
    refine hC.2.2.2.2.2 _ 0 [_, _, _, _] _ _ _ _ _ (hk3) rfl rfl (Nat.le_of_ble_eq_true rfl) rfl ?_
    refine mB hT 6 rfl ?_
    exact hR _ (by decide) _ _ _ rfl rfl
  · obtain ⟨be3, de3, sz3, ro3, co3, mi3, T3, hk3⟩ := x_mixed_4_1 (l := l) (D := D) (ca := ca) (ad := ad) (vs := vs) (be := be1) (de := de1) (sz := sz1) (ro := ro1) (co := co1) (mi := mi1) (T := T1) (B := B1) (df := df) hn hb hk h2
    rw [← eB3] at hk3
    generalize thX _ _ = a2 at hk3
    refine ⟨be3, de3, sz3, ro3, co3, mi3, T3, ?_⟩
    refine PX2_blame (Nat.le_of_ble_eq_true rfl) ?_
    intro G hT hC hR
    refine mB hT 2 rfl ?_
    refine hC.1 _ 0 [_] _ _ _ _ _ (c_isVersion_t (i := 4) hv hvs) rfl rfl (Nat.le_of_ble_eq_true rfl) rfl ?_
    refine mB hT 2 rfl ?_
    refine hC.2.1 _ [_] _ _ _ _ (c_isBasket_t hb) rfl (Nat.le_of_ble_eq_true rfl) rfl ?_
    refine mB hT 2 rfl ?_
    refine hC.2.2.1 _ [_] _ _ _ _ (c_isStuff_t hk) rfl (Nat.le_of_ble_eq_true rfl) rfl ?_
    refine mB hT 3 rfl ?_
    refine hC.2.2.2.1 _ 0 [_] _ _ _ _ _ (c_isMaking_t (i := 1) hi hn) rfl rfl (Nat.le_of_ble_eq_true rfl) rfl ?_
    refine mB hT 8 rfl ?_
    refine hC.2.2.2.2.1 _ 0 [_, _, _, _] _ _ _ _ _ (hk1) rfl rfl (Nat.le_of_ble_eq_true rfl) rfl ?_
    refine mB hT 6 rfl ?_
    refine hC.2.2.2.2.2 _ 0 [_, _, _, _] _ _ _ _ _ (hk3) rfl rfl (Nat.le_of_ble_eq_true rfl) rfl ?_
    refine mB hT 6 rfl ?_
    exact hR _ (by decide) _ _ _ rfl rfl
set_option maxRecDepth 20000 in
theorem x_blame_B_4_1 {n vs : Nat} {be de : Int64} {sz : Int32} {ro co mi : Nat → Int64} {T : Nat → Nat → Int64} {B : Nat → Nat → Nat → Int32} {hd : Nat → Nat → Int32} {df : Nat → Int32} (hv : 4 < vs) (hvs : vs ≤ 6) (hi : 1 < n) (hn : n ≤ 4) {b : Nat} (hb : b < 4) {k : Nat} (hk : k < 3) (h1 : ¬ detX n (lyT n ((cpX (cpX B 7 6 0 2) 7 4 2 4) 7) T) = 0) (h2a : ∀ T2 : Nat → Nat → Int64, detX n (lyT n ((cpX (cpX (cpX (cpX B 7 6 0 2) 7 4 2 4) 7 6 0 1) 7 4 1 4) 7) T2) = 0) : ∃ (be4 de4 : Int64) (sz4 : Int32) (ro4 co4 mi4 : Nat → Int64) (T4 : Nat → Nat → Int64), KX2_blame l D ca ad [.ref 0, .int 4, .int (Int32.ofNat b), .int (Int32.ofNat k), .int 1] (XW (Int32.ofNat n) (Int32.ofNat vs) be de sz ro co mi T B hd df) (some (.long (-9000000000000000004))) (XW (Int32.ofNat n) (Int32.ofNat vs) be4 de4 sz4 ro4 co4 mi4 T4 (cpX (cpX (cpX (cpX B 7 6 0 2) 7 4 2 4) 7 6 0 1) 7 4 1 4) hd df) := by
  obtain ⟨B1, eB⟩ : ∃ z, z = (cpX (cpX B 7 6 0 2) 7 4 2 4) := ⟨_, rfl⟩
  obtain ⟨B3, eB3⟩ : ∃ z, z = (cpX (cpX B1 7 6 0 1) 7 4 1 4) := ⟨_, rfl⟩
  rw [← eB] at h2a
  rw [← eB, ← eB3]
  obtain ⟨be1, de1, sz1, ro1, co1, mi1, T1, hk1⟩ := x_mixed_4_2 (l := l) (D := D) (ca := ca) (ad := ad) (vs := vs) (be := be) (de := de) (sz := sz) (ro := ro) (co := co) (mi := mi) (df := df) hn hb hk h1
  rw [← eB] at hk1
  generalize thX _ _ = a1 at hk1
  have h2 := h2a T1
  obtain ⟨be3, de3, sz3, ro3, co3, mi3, T3, hk3⟩ := x_mixed_B_4_1 (l := l) (D := D) (ca := ca) (ad := ad) (vs := vs) (be := be1) (de := de1) (sz := sz1) (ro := ro1) (co := co1) (mi := mi1) (T := T1) (B := B1) (df := df) hn hb hk h2
  rw [← eB3] at hk3
  refine ⟨be3, de3, sz3, ro3, co3, mi3, T3, ?_⟩
  refine PX2_blame (Nat.le_of_ble_eq_true rfl) ?_
  intro G hT hC hR
  refine mB hT 2 rfl ?_
  refine hC.1 _ 0 [_] _ _ _ _ _ (c_isVersion_t (i := 4) hv hvs) rfl rfl (Nat.le_of_ble_eq_true rfl) rfl ?_
  refine mB hT 2 rfl ?_
  refine hC.2.1 _ [_] _ _ _ _ (c_isBasket_t hb) rfl (Nat.le_of_ble_eq_true rfl) rfl ?_
  refine mB hT 2 rfl ?_
  refine hC.2.2.1 _ [_] _ _ _ _ (c_isStuff_t hk) rfl (Nat.le_of_ble_eq_true rfl) rfl ?_
  refine mB hT 3 rfl ?_
  refine hC.2.2.2.1 _ 0 [_] _ _ _ _ _ (c_isMaking_t (i := 1) hi hn) rfl rfl (Nat.le_of_ble_eq_true rfl) rfl ?_
  refine mB hT 8 rfl ?_
  refine hC.2.2.2.2.1 _ 0 [_, _, _, _] _ _ _ _ _ (hk1) rfl rfl (Nat.le_of_ble_eq_true rfl) rfl ?_
  refine mB hT 6 rfl ?_
  refine hC.2.2.2.2.2 _ 0 [_, _, _, _] _ _ _ _ _ (hk3) rfl rfl (Nat.le_of_ble_eq_true rfl) rfl ?_
  refine mB hT 5 rfl ?_
  refine mIf (fun h1 => ?_) (fun h1 => ?_)
  · refine mNf (lv2 := [(7, .long (-9000000000000000004)), (5, .long a1), (0, .ref 0), (1, .int 4), (2, .int (Int32.ofNat b)), (3, .int (Int32.ofNat k)), (4, .int 1)]) (st2 := []) rfl rfl ?_
    refine mB hT 1 rfl ?_
    exact hR _ (by decide) _ _ _ rfl rfl
  · refine mNf (lv2 := [(7, .long (-9000000000000000004)), (5, .long a1), (0, .ref 0), (1, .int 4), (2, .int (Int32.ofNat b)), (3, .int (Int32.ofNat k)), (4, .int 1)]) (st2 := []) rfl rfl ?_
    refine mB hT 5 rfl ?_
    exact hR _ (by decide) _ _ _ rfl rfl
set_option maxRecDepth 20000 in
theorem x_blame_C_4_1 {n vs : Nat} {be de : Int64} {sz : Int32} {ro co mi : Nat → Int64} {T : Nat → Nat → Int64} {B : Nat → Nat → Nat → Int32} {hd : Nat → Nat → Int32} {df : Nat → Int32} (hv : 4 < vs) (hvs : vs ≤ 6) (hi : 1 < n) (hn : n ≤ 4) {b : Nat} (hb : b < 4) {k : Nat} (hk : k < 3) (h1 : ¬ detX n (lyT n ((cpX (cpX B 7 6 0 2) 7 4 2 4) 7) T) = 0) (h2a : ∀ T2 : Nat → Nat → Int64, ¬ detX n (lyT n ((cpX (cpX (cpX (cpX B 7 6 0 2) 7 4 2 4) 7 6 0 1) 7 4 1 4) 7) T2) = 0) (ha : ¬ (thX (smX n ((cpX (cpX B 7 6 0 2) 7 4 2 4) 7) (roX n (lyT n ((cpX (cpX B 7 6 0 2) 7 4 2 4) 7) T) (hd b) ro) k 1) (absX (detX n (lyT n ((cpX (cpX B 7 6 0 2) 7 4 2 4) 7) T)))) = -9000000000000000004) (hb2 : ∀ (T2 : Nat → Nat → Int64) (ro2 : Nat → Int64), ¬ (thX (smX n ((cpX (cpX (cpX (cpX B 7 6 0 2) 7 4 2 4) 7 6 0 1) 7 4 1 4) 7) (roX n (lyT n ((cpX (cpX (cpX (cpX B 7 6 0 2) 7 4 2 4) 7 6 0 1) 7 4 1 4) 7) T2) (hd b) ro2) k 1) (absX (detX n (lyT n ((cpX (cpX (cpX (cpX B 7 6 0 2) 7 4 2 4) 7 6 0 1) 7 4 1 4) 7) T2)))) = -9000000000000000004) : ∃ (T2 : Nat → Nat → Int64) (ro2 : Nat → Int64), ∃ (be4 de4 : Int64) (sz4 : Int32) (ro4 co4 mi4 : Nat → Int64) (T4 : Nat → Nat → Int64), KX2_blame l D ca ad [.ref 0, .int 4, .int (Int32.ofNat b), .int (Int32.ofNat k), .int 1] (XW (Int32.ofNat n) (Int32.ofNat vs) be de sz ro co mi T B hd df) (some (.long ((thX (smX n ((cpX (cpX B 7 6 0 2) 7 4 2 4) 7) (roX n (lyT n ((cpX (cpX B 7 6 0 2) 7 4 2 4) 7) T) (hd b) ro) k 1) (absX (detX n (lyT n ((cpX (cpX B 7 6 0 2) 7 4 2 4) 7) T)))) - (thX (smX n ((cpX (cpX (cpX (cpX B 7 6 0 2) 7 4 2 4) 7 6 0 1) 7 4 1 4) 7) (roX n (lyT n ((cpX (cpX (cpX (cpX B 7 6 0 2) 7 4 2 4) 7 6 0 1) 7 4 1 4) 7) T2) (hd b) ro2) k 1) (absX (detX n (lyT n ((cpX (cpX (cpX (cpX B 7 6 0 2) 7 4 2 4) 7 6 0 1) 7 4 1 4) 7) T2))))))) (XW (Int32.ofNat n) (Int32.ofNat vs) be4 de4 sz4 ro4 co4 mi4 T4 (cpX (cpX (cpX (cpX B 7 6 0 2) 7 4 2 4) 7 6 0 1) 7 4 1 4) hd df) := by
  obtain ⟨B1, eB⟩ : ∃ z, z = (cpX (cpX B 7 6 0 2) 7 4 2 4) := ⟨_, rfl⟩
  obtain ⟨B3, eB3⟩ : ∃ z, z = (cpX (cpX B1 7 6 0 1) 7 4 1 4) := ⟨_, rfl⟩
  obtain ⟨be1, de1, sz1, ro1, co1, mi1, T1, hk1⟩ := x_mixed_4_2 (l := l) (D := D) (ca := ca) (ad := ad) (vs := vs) (be := be) (de := de) (sz := sz) (ro := ro) (co := co) (mi := mi) (df := df) hn hb hk h1
  refine ⟨T1, ro1, ?_⟩
  have hb3 := hb2 T1 ro1
  rw [← eB] at h2a hk1 hb3
  rw [← eB, ← eB3]
  have h2 := h2a T1
  obtain ⟨be3, de3, sz3, ro3, co3, mi3, T3, hk3⟩ := x_mixed_4_1 (l := l) (D := D) (ca := ca) (ad := ad) (vs := vs) (be := be1) (de := de1) (sz := sz1) (ro := ro1) (co := co1) (mi := mi1) (T := T1) (B := B1) (df := df) hn hb hk h2
  rw [← eB3] at hk3
  rw [← eB3] at hb3
  rw [← eB] at ha
  obtain ⟨a1, ea1⟩ : ∃ z, z = (thX (smX n (B1 7) (roX n (lyT n (B1 7) T) (hd b) ro) k 1) (absX (detX n (lyT n (B1 7) T)))) := ⟨_, rfl⟩
  obtain ⟨a2, ea2⟩ : ∃ z, z = (thX (smX n (B3 7) (roX n (lyT n (B3 7) T1) (hd b) ro1) k 1) (absX (detX n (lyT n (B3 7) T1)))) := ⟨_, rfl⟩
  rw [← ea1] at hk1 ha ⊢
  rw [← ea2] at hk3 hb3 ⊢
  refine ⟨be3, de3, sz3, ro3, co3, mi3, T3, ?_⟩
  refine PX2_blame (Nat.le_of_ble_eq_true rfl) ?_
  intro G hT hC hR
  refine mB hT 2 rfl ?_
  refine hC.1 _ 0 [_] _ _ _ _ _ (c_isVersion_t (i := 4) hv hvs) rfl rfl (Nat.le_of_ble_eq_true rfl) rfl ?_
  refine mB hT 2 rfl ?_
  refine hC.2.1 _ [_] _ _ _ _ (c_isBasket_t hb) rfl (Nat.le_of_ble_eq_true rfl) rfl ?_
  refine mB hT 2 rfl ?_
  refine hC.2.2.1 _ [_] _ _ _ _ (c_isStuff_t hk) rfl (Nat.le_of_ble_eq_true rfl) rfl ?_
  refine mB hT 3 rfl ?_
  refine hC.2.2.2.1 _ 0 [_] _ _ _ _ _ (c_isMaking_t (i := 1) hi hn) rfl rfl (Nat.le_of_ble_eq_true rfl) rfl ?_
  refine mB hT 8 rfl ?_
  refine hC.2.2.2.2.1 _ 0 [_, _, _, _] _ _ _ _ _ (hk1) rfl rfl (Nat.le_of_ble_eq_true rfl) rfl ?_
  refine mB hT 6 rfl ?_
  refine hC.2.2.2.2.2 _ 0 [_, _, _, _] _ _ _ _ _ (hk3) rfl rfl (Nat.le_of_ble_eq_true rfl) rfl ?_
  refine mB hT 5 rfl ?_
  refine mIf (fun hp => absurd hp (fun q => ha (lc_eq.mp q))) (fun _ => ?_)
  refine mNf (lv2 := [(7, .long a2), (5, .long a1), (0, .ref 0), (1, .int 4), (2, .int (Int32.ofNat b)), (3, .int (Int32.ofNat k)), (4, .int 1)]) (st2 := []) rfl rfl ?_
  refine mB hT 4 rfl ?_
  refine mIf (fun hp => absurd hp (fun q => hb3 (lc_eq.mp q))) (fun _ => ?_)
  refine mB hT 3 rfl ?_
  exact hR _ (by decide) _ _ _ rfl rfl
set_option maxRecDepth 20000 in
theorem x_blame_A_4_2 {n vs : Nat} {be de : Int64} {sz : Int32} {ro co mi : Nat → Int64} {T : Nat → Nat → Int64} {B : Nat → Nat → Nat → Int32} {hd : Nat → Nat → Int32} {df : Nat → Int32} (hv : 4 < vs) (hvs : vs ≤ 6) (hi : 2 < n) (hn : n ≤ 4) {b : Nat} (hb : b < 4) {k : Nat} (hk : k < 3) (h1 : detX n (lyT n ((cpX (cpX B 7 6 0 3) 7 4 3 4) 7) T) = 0) : ∃ (be4 de4 : Int64) (sz4 : Int32) (ro4 co4 mi4 : Nat → Int64) (T4 : Nat → Nat → Int64), KX2_blame l D ca ad [.ref 0, .int 4, .int (Int32.ofNat b), .int (Int32.ofNat k), .int 2] (XW (Int32.ofNat n) (Int32.ofNat vs) be de sz ro co mi T B hd df) (some (.long (-9000000000000000004))) (XW (Int32.ofNat n) (Int32.ofNat vs) be4 de4 sz4 ro4 co4 mi4 T4 (cpX (cpX (cpX (cpX B 7 6 0 3) 7 4 3 4) 7 6 0 2) 7 4 2 4) hd df) := by
  obtain ⟨B1, eB⟩ : ∃ z, z = (cpX (cpX B 7 6 0 3) 7 4 3 4) := ⟨_, rfl⟩
  obtain ⟨B3, eB3⟩ : ∃ z, z = (cpX (cpX B1 7 6 0 2) 7 4 2 4) := ⟨_, rfl⟩
  rw [← eB, ← eB3]
  obtain ⟨be1, de1, sz1, ro1, co1, mi1, T1, hk1⟩ := x_mixed_B_4_3 (l := l) (D := D) (ca := ca) (ad := ad) (vs := vs) (be := be) (de := de) (sz := sz) (ro := ro) (co := co) (mi := mi) (df := df) hn hb hk h1
  rw [← eB] at hk1
  by_cases h2 : detX n (lyT n ((cpX (cpX B1 7 6 0 2) 7 4 2 4) 7) T1) = 0
  · obtain ⟨be3, de3, sz3, ro3, co3, mi3, T3, hk3⟩ := x_mixed_B_4_2 (l := l) (D := D) (ca := ca) (ad := ad) (vs := vs) (be := be1) (de := de1) (sz := sz1) (ro := ro1) (co := co1) (mi := mi1) (T := T1) (B := B1) (df := df) hn hb hk h2
    rw [← eB3] at hk3
    refine ⟨be3, de3, sz3, ro3, co3, mi3, T3, ?_⟩
    refine PX2_blame (Nat.le_of_ble_eq_true rfl) ?_
    intro G hT hC hR
    refine mB hT 2 rfl ?_
    refine hC.1 _ 0 [_] _ _ _ _ _ (c_isVersion_t (i := 4) hv hvs) rfl rfl (Nat.le_of_ble_eq_true rfl) rfl ?_
    refine mB hT 2 rfl ?_
    refine hC.2.1 _ [_] _ _ _ _ (c_isBasket_t hb) rfl (Nat.le_of_ble_eq_true rfl) rfl ?_
    refine mB hT 2 rfl ?_
    refine hC.2.2.1 _ [_] _ _ _ _ (c_isStuff_t hk) rfl (Nat.le_of_ble_eq_true rfl) rfl ?_
    refine mB hT 3 rfl ?_
    refine hC.2.2.2.1 _ 0 [_] _ _ _ _ _ (c_isMaking_t (i := 2) hi hn) rfl rfl (Nat.le_of_ble_eq_true rfl) rfl ?_
    refine mB hT 8 rfl ?_
    refine hC.2.2.2.2.1 _ 0 [_, _, _, _] _ _ _ _ _ (hk1) rfl rfl (Nat.le_of_ble_eq_true rfl) rfl ?_
    refine mB hT 6 rfl ?_
    refine hC.2.2.2.2.2 _ 0 [_, _, _, _] _ _ _ _ _ (hk3) rfl rfl (Nat.le_of_ble_eq_true rfl) rfl ?_
    refine mB hT 6 rfl ?_
    exact hR _ (by decide) _ _ _ rfl rfl
  · obtain ⟨be3, de3, sz3, ro3, co3, mi3, T3, hk3⟩ := x_mixed_4_2 (l := l) (D := D) (ca := ca) (ad := ad) (vs := vs) (be := be1) (de := de1) (sz := sz1) (ro := ro1) (co := co1) (mi := mi1) (T := T1) (B := B1) (df := df) hn hb hk h2
    rw [← eB3] at hk3
    generalize thX _ _ = a2 at hk3
    refine ⟨be3, de3, sz3, ro3, co3, mi3, T3, ?_⟩
    refine PX2_blame (Nat.le_of_ble_eq_true rfl) ?_
    intro G hT hC hR
    refine mB hT 2 rfl ?_
    refine hC.1 _ 0 [_] _ _ _ _ _ (c_isVersion_t (i := 4) hv hvs) rfl rfl (Nat.le_of_ble_eq_true rfl) rfl ?_
    refine mB hT 2 rfl ?_
    refine hC.2.1 _ [_] _ _ _ _ (c_isBasket_t hb) rfl (Nat.le_of_ble_eq_true rfl) rfl ?_
    refine mB hT 2 rfl ?_
    refine hC.2.2.1 _ [_] _ _ _ _ (c_isStuff_t hk) rfl (Nat.le_of_ble_eq_true rfl) rfl ?_
    refine mB hT 3 rfl ?_
    refine hC.2.2.2.1 _ 0 [_] _ _ _ _ _ (c_isMaking_t (i := 2) hi hn) rfl rfl (Nat.le_of_ble_eq_true rfl) rfl ?_
    refine mB hT 8 rfl ?_
    refine hC.2.2.2.2.1 _ 0 [_, _, _, _] _ _ _ _ _ (hk1) rfl rfl (Nat.le_of_ble_eq_true rfl) rfl ?_
    refine mB hT 6 rfl ?_
    refine hC.2.2.2.2.2 _ 0 [_, _, _, _] _ _ _ _ _ (hk3) rfl rfl (Nat.le_of_ble_eq_true rfl) rfl ?_
    refine mB hT 6 rfl ?_
    exact hR _ (by decide) _ _ _ rfl rfl
set_option maxRecDepth 20000 in
theorem x_blame_B_4_2 {n vs : Nat} {be de : Int64} {sz : Int32} {ro co mi : Nat → Int64} {T : Nat → Nat → Int64} {B : Nat → Nat → Nat → Int32} {hd : Nat → Nat → Int32} {df : Nat → Int32} (hv : 4 < vs) (hvs : vs ≤ 6) (hi : 2 < n) (hn : n ≤ 4) {b : Nat} (hb : b < 4) {k : Nat} (hk : k < 3) (h1 : ¬ detX n (lyT n ((cpX (cpX B 7 6 0 3) 7 4 3 4) 7) T) = 0) (h2a : ∀ T2 : Nat → Nat → Int64, detX n (lyT n ((cpX (cpX (cpX (cpX B 7 6 0 3) 7 4 3 4) 7 6 0 2) 7 4 2 4) 7) T2) = 0) : ∃ (be4 de4 : Int64) (sz4 : Int32) (ro4 co4 mi4 : Nat → Int64) (T4 : Nat → Nat → Int64), KX2_blame l D ca ad [.ref 0, .int 4, .int (Int32.ofNat b), .int (Int32.ofNat k), .int 2] (XW (Int32.ofNat n) (Int32.ofNat vs) be de sz ro co mi T B hd df) (some (.long (-9000000000000000004))) (XW (Int32.ofNat n) (Int32.ofNat vs) be4 de4 sz4 ro4 co4 mi4 T4 (cpX (cpX (cpX (cpX B 7 6 0 3) 7 4 3 4) 7 6 0 2) 7 4 2 4) hd df) := by
  obtain ⟨B1, eB⟩ : ∃ z, z = (cpX (cpX B 7 6 0 3) 7 4 3 4) := ⟨_, rfl⟩
  obtain ⟨B3, eB3⟩ : ∃ z, z = (cpX (cpX B1 7 6 0 2) 7 4 2 4) := ⟨_, rfl⟩
  rw [← eB] at h2a
  rw [← eB, ← eB3]
  obtain ⟨be1, de1, sz1, ro1, co1, mi1, T1, hk1⟩ := x_mixed_4_3 (l := l) (D := D) (ca := ca) (ad := ad) (vs := vs) (be := be) (de := de) (sz := sz) (ro := ro) (co := co) (mi := mi) (df := df) hn hb hk h1
  rw [← eB] at hk1
  generalize thX _ _ = a1 at hk1
  have h2 := h2a T1
  obtain ⟨be3, de3, sz3, ro3, co3, mi3, T3, hk3⟩ := x_mixed_B_4_2 (l := l) (D := D) (ca := ca) (ad := ad) (vs := vs) (be := be1) (de := de1) (sz := sz1) (ro := ro1) (co := co1) (mi := mi1) (T := T1) (B := B1) (df := df) hn hb hk h2
  rw [← eB3] at hk3
  refine ⟨be3, de3, sz3, ro3, co3, mi3, T3, ?_⟩
  refine PX2_blame (Nat.le_of_ble_eq_true rfl) ?_
  intro G hT hC hR
  refine mB hT 2 rfl ?_
  refine hC.1 _ 0 [_] _ _ _ _ _ (c_isVersion_t (i := 4) hv hvs) rfl rfl (Nat.le_of_ble_eq_true rfl) rfl ?_
  refine mB hT 2 rfl ?_
  refine hC.2.1 _ [_] _ _ _ _ (c_isBasket_t hb) rfl (Nat.le_of_ble_eq_true rfl) rfl ?_
  refine mB hT 2 rfl ?_
  refine hC.2.2.1 _ [_] _ _ _ _ (c_isStuff_t hk) rfl (Nat.le_of_ble_eq_true rfl) rfl ?_
  refine mB hT 3 rfl ?_
  refine hC.2.2.2.1 _ 0 [_] _ _ _ _ _ (c_isMaking_t (i := 2) hi hn) rfl rfl (Nat.le_of_ble_eq_true rfl) rfl ?_
  refine mB hT 8 rfl ?_
  refine hC.2.2.2.2.1 _ 0 [_, _, _, _] _ _ _ _ _ (hk1) rfl rfl (Nat.le_of_ble_eq_true rfl) rfl ?_
  refine mB hT 6 rfl ?_
  refine hC.2.2.2.2.2 _ 0 [_, _, _, _] _ _ _ _ _ (hk3) rfl rfl (Nat.le_of_ble_eq_true rfl) rfl ?_
  refine mB hT 5 rfl ?_
  refine mIf (fun h1 => ?_) (fun h1 => ?_)
  · refine mNf (lv2 := [(7, .long (-9000000000000000004)), (5, .long a1), (0, .ref 0), (1, .int 4), (2, .int (Int32.ofNat b)), (3, .int (Int32.ofNat k)), (4, .int 2)]) (st2 := []) rfl rfl ?_
    refine mB hT 1 rfl ?_
    exact hR _ (by decide) _ _ _ rfl rfl
  · refine mNf (lv2 := [(7, .long (-9000000000000000004)), (5, .long a1), (0, .ref 0), (1, .int 4), (2, .int (Int32.ofNat b)), (3, .int (Int32.ofNat k)), (4, .int 2)]) (st2 := []) rfl rfl ?_
    refine mB hT 5 rfl ?_
    exact hR _ (by decide) _ _ _ rfl rfl
set_option maxRecDepth 20000 in
theorem x_blame_C_4_2 {n vs : Nat} {be de : Int64} {sz : Int32} {ro co mi : Nat → Int64} {T : Nat → Nat → Int64} {B : Nat → Nat → Nat → Int32} {hd : Nat → Nat → Int32} {df : Nat → Int32} (hv : 4 < vs) (hvs : vs ≤ 6) (hi : 2 < n) (hn : n ≤ 4) {b : Nat} (hb : b < 4) {k : Nat} (hk : k < 3) (h1 : ¬ detX n (lyT n ((cpX (cpX B 7 6 0 3) 7 4 3 4) 7) T) = 0) (h2a : ∀ T2 : Nat → Nat → Int64, ¬ detX n (lyT n ((cpX (cpX (cpX (cpX B 7 6 0 3) 7 4 3 4) 7 6 0 2) 7 4 2 4) 7) T2) = 0) (ha : ¬ (thX (smX n ((cpX (cpX B 7 6 0 3) 7 4 3 4) 7) (roX n (lyT n ((cpX (cpX B 7 6 0 3) 7 4 3 4) 7) T) (hd b) ro) k 1) (absX (detX n (lyT n ((cpX (cpX B 7 6 0 3) 7 4 3 4) 7) T)))) = -9000000000000000004) (hb2 : ∀ (T2 : Nat → Nat → Int64) (ro2 : Nat → Int64), ¬ (thX (smX n ((cpX (cpX (cpX (cpX B 7 6 0 3) 7 4 3 4) 7 6 0 2) 7 4 2 4) 7) (roX n (lyT n ((cpX (cpX (cpX (cpX B 7 6 0 3) 7 4 3 4) 7 6 0 2) 7 4 2 4) 7) T2) (hd b) ro2) k 1) (absX (detX n (lyT n ((cpX (cpX (cpX (cpX B 7 6 0 3) 7 4 3 4) 7 6 0 2) 7 4 2 4) 7) T2)))) = -9000000000000000004) : ∃ (T2 : Nat → Nat → Int64) (ro2 : Nat → Int64), ∃ (be4 de4 : Int64) (sz4 : Int32) (ro4 co4 mi4 : Nat → Int64) (T4 : Nat → Nat → Int64), KX2_blame l D ca ad [.ref 0, .int 4, .int (Int32.ofNat b), .int (Int32.ofNat k), .int 2] (XW (Int32.ofNat n) (Int32.ofNat vs) be de sz ro co mi T B hd df) (some (.long ((thX (smX n ((cpX (cpX B 7 6 0 3) 7 4 3 4) 7) (roX n (lyT n ((cpX (cpX B 7 6 0 3) 7 4 3 4) 7) T) (hd b) ro) k 1) (absX (detX n (lyT n ((cpX (cpX B 7 6 0 3) 7 4 3 4) 7) T)))) - (thX (smX n ((cpX (cpX (cpX (cpX B 7 6 0 3) 7 4 3 4) 7 6 0 2) 7 4 2 4) 7) (roX n (lyT n ((cpX (cpX (cpX (cpX B 7 6 0 3) 7 4 3 4) 7 6 0 2) 7 4 2 4) 7) T2) (hd b) ro2) k 1) (absX (detX n (lyT n ((cpX (cpX (cpX (cpX B 7 6 0 3) 7 4 3 4) 7 6 0 2) 7 4 2 4) 7) T2))))))) (XW (Int32.ofNat n) (Int32.ofNat vs) be4 de4 sz4 ro4 co4 mi4 T4 (cpX (cpX (cpX (cpX B 7 6 0 3) 7 4 3 4) 7 6 0 2) 7 4 2 4) hd df) := by
  obtain ⟨B1, eB⟩ : ∃ z, z = (cpX (cpX B 7 6 0 3) 7 4 3 4) := ⟨_, rfl⟩
  obtain ⟨B3, eB3⟩ : ∃ z, z = (cpX (cpX B1 7 6 0 2) 7 4 2 4) := ⟨_, rfl⟩
  obtain ⟨be1, de1, sz1, ro1, co1, mi1, T1, hk1⟩ := x_mixed_4_3 (l := l) (D := D) (ca := ca) (ad := ad) (vs := vs) (be := be) (de := de) (sz := sz) (ro := ro) (co := co) (mi := mi) (df := df) hn hb hk h1
  refine ⟨T1, ro1, ?_⟩
  have hb3 := hb2 T1 ro1
  rw [← eB] at h2a hk1 hb3
  rw [← eB, ← eB3]
  have h2 := h2a T1
  obtain ⟨be3, de3, sz3, ro3, co3, mi3, T3, hk3⟩ := x_mixed_4_2 (l := l) (D := D) (ca := ca) (ad := ad) (vs := vs) (be := be1) (de := de1) (sz := sz1) (ro := ro1) (co := co1) (mi := mi1) (T := T1) (B := B1) (df := df) hn hb hk h2
  rw [← eB3] at hk3
  rw [← eB3] at hb3
  rw [← eB] at ha
  obtain ⟨a1, ea1⟩ : ∃ z, z = (thX (smX n (B1 7) (roX n (lyT n (B1 7) T) (hd b) ro) k 1) (absX (detX n (lyT n (B1 7) T)))) := ⟨_, rfl⟩
  obtain ⟨a2, ea2⟩ : ∃ z, z = (thX (smX n (B3 7) (roX n (lyT n (B3 7) T1) (hd b) ro1) k 1) (absX (detX n (lyT n (B3 7) T1)))) := ⟨_, rfl⟩
  rw [← ea1] at hk1 ha ⊢
  rw [← ea2] at hk3 hb3 ⊢
  refine ⟨be3, de3, sz3, ro3, co3, mi3, T3, ?_⟩
  refine PX2_blame (Nat.le_of_ble_eq_true rfl) ?_
  intro G hT hC hR
  refine mB hT 2 rfl ?_
  refine hC.1 _ 0 [_] _ _ _ _ _ (c_isVersion_t (i := 4) hv hvs) rfl rfl (Nat.le_of_ble_eq_true rfl) rfl ?_
  refine mB hT 2 rfl ?_
  refine hC.2.1 _ [_] _ _ _ _ (c_isBasket_t hb) rfl (Nat.le_of_ble_eq_true rfl) rfl ?_
  refine mB hT 2 rfl ?_
  refine hC.2.2.1 _ [_] _ _ _ _ (c_isStuff_t hk) rfl (Nat.le_of_ble_eq_true rfl) rfl ?_
  refine mB hT 3 rfl ?_
  refine hC.2.2.2.1 _ 0 [_] _ _ _ _ _ (c_isMaking_t (i := 2) hi hn) rfl rfl (Nat.le_of_ble_eq_true rfl) rfl ?_
  refine mB hT 8 rfl ?_
  refine hC.2.2.2.2.1 _ 0 [_, _, _, _] _ _ _ _ _ (hk1) rfl rfl (Nat.le_of_ble_eq_true rfl) rfl ?_
  refine mB hT 6 rfl ?_
  refine hC.2.2.2.2.2 _ 0 [_, _, _, _] _ _ _ _ _ (hk3) rfl rfl (Nat.le_of_ble_eq_true rfl) rfl ?_
  refine mB hT 5 rfl ?_
  refine mIf (fun hp => absurd hp (fun q => ha (lc_eq.mp q))) (fun _ => ?_)
  refine mNf (lv2 := [(7, .long a2), (5, .long a1), (0, .ref 0), (1, .int 4), (2, .int (Int32.ofNat b)), (3, .int (Int32.ofNat k)), (4, .int 2)]) (st2 := []) rfl rfl ?_
  refine mB hT 4 rfl ?_
  refine mIf (fun hp => absurd hp (fun q => hb3 (lc_eq.mp q))) (fun _ => ?_)
  refine mB hT 3 rfl ?_
  exact hR _ (by decide) _ _ _ rfl rfl
set_option maxRecDepth 20000 in
theorem x_blame_A_4_3 {n vs : Nat} {be de : Int64} {sz : Int32} {ro co mi : Nat → Int64} {T : Nat → Nat → Int64} {B : Nat → Nat → Nat → Int32} {hd : Nat → Nat → Int32} {df : Nat → Int32} (hv : 4 < vs) (hvs : vs ≤ 6) (hi : 3 < n) (hn : n ≤ 4) {b : Nat} (hb : b < 4) {k : Nat} (hk : k < 3) (h1 : detX n (lyT n ((cpX (cpX B 7 6 0 4) 7 4 4 4) 7) T) = 0) : ∃ (be4 de4 : Int64) (sz4 : Int32) (ro4 co4 mi4 : Nat → Int64) (T4 : Nat → Nat → Int64), KX2_blame l D ca ad [.ref 0, .int 4, .int (Int32.ofNat b), .int (Int32.ofNat k), .int 3] (XW (Int32.ofNat n) (Int32.ofNat vs) be de sz ro co mi T B hd df) (some (.long (-9000000000000000004))) (XW (Int32.ofNat n) (Int32.ofNat vs) be4 de4 sz4 ro4 co4 mi4 T4 (cpX (cpX (cpX (cpX B 7 6 0 4) 7 4 4 4) 7 6 0 3) 7 4 3 4) hd df) := by
  obtain ⟨B1, eB⟩ : ∃ z, z = (cpX (cpX B 7 6 0 4) 7 4 4 4) := ⟨_, rfl⟩
  obtain ⟨B3, eB3⟩ : ∃ z, z = (cpX (cpX B1 7 6 0 3) 7 4 3 4) := ⟨_, rfl⟩
  rw [← eB, ← eB3]
  obtain ⟨be1, de1, sz1, ro1, co1, mi1, T1, hk1⟩ := x_mixed_B_4_4 (l := l) (D := D) (ca := ca) (ad := ad) (vs := vs) (be := be) (de := de) (sz := sz) (ro := ro) (co := co) (mi := mi) (df := df) hn hb hk h1
  rw [← eB] at hk1
  by_cases h2 : detX n (lyT n ((cpX (cpX B1 7 6 0 3) 7 4 3 4) 7) T1) = 0
  · obtain ⟨be3, de3, sz3, ro3, co3, mi3, T3, hk3⟩ := x_mixed_B_4_3 (l := l) (D := D) (ca := ca) (ad := ad) (vs := vs) (be := be1) (de := de1) (sz := sz1) (ro := ro1) (co := co1) (mi := mi1) (T := T1) (B := B1) (df := df) hn hb hk h2
    rw [← eB3] at hk3
    refine ⟨be3, de3, sz3, ro3, co3, mi3, T3, ?_⟩
    refine PX2_blame (Nat.le_of_ble_eq_true rfl) ?_
    intro G hT hC hR
    refine mB hT 2 rfl ?_
    refine hC.1 _ 0 [_] _ _ _ _ _ (c_isVersion_t (i := 4) hv hvs) rfl rfl (Nat.le_of_ble_eq_true rfl) rfl ?_
    refine mB hT 2 rfl ?_
    refine hC.2.1 _ [_] _ _ _ _ (c_isBasket_t hb) rfl (Nat.le_of_ble_eq_true rfl) rfl ?_
    refine mB hT 2 rfl ?_
    refine hC.2.2.1 _ [_] _ _ _ _ (c_isStuff_t hk) rfl (Nat.le_of_ble_eq_true rfl) rfl ?_
    refine mB hT 3 rfl ?_
    refine hC.2.2.2.1 _ 0 [_] _ _ _ _ _ (c_isMaking_t (i := 3) hi hn) rfl rfl (Nat.le_of_ble_eq_true rfl) rfl ?_
    refine mB hT 8 rfl ?_
    refine hC.2.2.2.2.1 _ 0 [_, _, _, _] _ _ _ _ _ (hk1) rfl rfl (Nat.le_of_ble_eq_true rfl) rfl ?_
    refine mB hT 6 rfl ?_
    refine hC.2.2.2.2.2 _ 0 [_, _, _, _] _ _ _ _ _ (hk3) rfl rfl (Nat.le_of_ble_eq_true rfl) rfl ?_
    refine mB hT 6 rfl ?_
    exact hR _ (by decide) _ _ _ rfl rfl
  · obtain ⟨be3, de3, sz3, ro3, co3, mi3, T3, hk3⟩ := x_mixed_4_3 (l := l) (D := D) (ca := ca) (ad := ad) (vs := vs) (be := be1) (de := de1) (sz := sz1) (ro := ro1) (co := co1) (mi := mi1) (T := T1) (B := B1) (df := df) hn hb hk h2
    rw [← eB3] at hk3
    generalize thX _ _ = a2 at hk3
    refine ⟨be3, de3, sz3, ro3, co3, mi3, T3, ?_⟩
    refine PX2_blame (Nat.le_of_ble_eq_true rfl) ?_
    intro G hT hC hR
    refine mB hT 2 rfl ?_
    refine hC.1 _ 0 [_] _ _ _ _ _ (c_isVersion_t (i := 4) hv hvs) rfl rfl (Nat.le_of_ble_eq_true rfl) rfl ?_
    refine mB hT 2 rfl ?_
    refine hC.2.1 _ [_] _ _ _ _ (c_isBasket_t hb) rfl (Nat.le_of_ble_eq_true rfl) rfl ?_
    refine mB hT 2 rfl ?_
    refine hC.2.2.1 _ [_] _ _ _ _ (c_isStuff_t hk) rfl (Nat.le_of_ble_eq_true rfl) rfl ?_
    refine mB hT 3 rfl ?_
    refine hC.2.2.2.1 _ 0 [_] _ _ _ _ _ (c_isMaking_t (i := 3) hi hn) rfl rfl (Nat.le_of_ble_eq_true rfl) rfl ?_
    refine mB hT 8 rfl ?_
    refine hC.2.2.2.2.1 _ 0 [_, _, _, _] _ _ _ _ _ (hk1) rfl rfl (Nat.le_of_ble_eq_true rfl) rfl ?_
    refine mB hT 6 rfl ?_
    refine hC.2.2.2.2.2 _ 0 [_, _, _, _] _ _ _ _ _ (hk3) rfl rfl (Nat.le_of_ble_eq_true rfl) rfl ?_
    refine mB hT 6 rfl ?_
    exact hR _ (by decide) _ _ _ rfl rfl
set_option maxRecDepth 20000 in
theorem x_blame_B_4_3 {n vs : Nat} {be de : Int64} {sz : Int32} {ro co mi : Nat → Int64} {T : Nat → Nat → Int64} {B : Nat → Nat → Nat → Int32} {hd : Nat → Nat → Int32} {df : Nat → Int32} (hv : 4 < vs) (hvs : vs ≤ 6) (hi : 3 < n) (hn : n ≤ 4) {b : Nat} (hb : b < 4) {k : Nat} (hk : k < 3) (h1 : ¬ detX n (lyT n ((cpX (cpX B 7 6 0 4) 7 4 4 4) 7) T) = 0) (h2a : ∀ T2 : Nat → Nat → Int64, detX n (lyT n ((cpX (cpX (cpX (cpX B 7 6 0 4) 7 4 4 4) 7 6 0 3) 7 4 3 4) 7) T2) = 0) : ∃ (be4 de4 : Int64) (sz4 : Int32) (ro4 co4 mi4 : Nat → Int64) (T4 : Nat → Nat → Int64), KX2_blame l D ca ad [.ref 0, .int 4, .int (Int32.ofNat b), .int (Int32.ofNat k), .int 3] (XW (Int32.ofNat n) (Int32.ofNat vs) be de sz ro co mi T B hd df) (some (.long (-9000000000000000004))) (XW (Int32.ofNat n) (Int32.ofNat vs) be4 de4 sz4 ro4 co4 mi4 T4 (cpX (cpX (cpX (cpX B 7 6 0 4) 7 4 4 4) 7 6 0 3) 7 4 3 4) hd df) := by
  obtain ⟨B1, eB⟩ : ∃ z, z = (cpX (cpX B 7 6 0 4) 7 4 4 4) := ⟨_, rfl⟩
  obtain ⟨B3, eB3⟩ : ∃ z, z = (cpX (cpX B1 7 6 0 3) 7 4 3 4) := ⟨_, rfl⟩
  rw [← eB] at h2a
  rw [← eB, ← eB3]
  obtain ⟨be1, de1, sz1, ro1, co1, mi1, T1, hk1⟩ := x_mixed_4_4 (l := l) (D := D) (ca := ca) (ad := ad) (vs := vs) (be := be) (de := de) (sz := sz) (ro := ro) (co := co) (mi := mi) (df := df) hn hb hk h1
  rw [← eB] at hk1
  generalize thX _ _ = a1 at hk1
  have h2 := h2a T1
  obtain ⟨be3, de3, sz3, ro3, co3, mi3, T3, hk3⟩ := x_mixed_B_4_3 (l := l) (D := D) (ca := ca) (ad := ad) (vs := vs) (be := be1) (de := de1) (sz := sz1) (ro := ro1) (co := co1) (mi := mi1) (T := T1) (B := B1) (df := df) hn hb hk h2
  rw [← eB3] at hk3
  refine ⟨be3, de3, sz3, ro3, co3, mi3, T3, ?_⟩
  refine PX2_blame (Nat.le_of_ble_eq_true rfl) ?_
  intro G hT hC hR
  refine mB hT 2 rfl ?_
  refine hC.1 _ 0 [_] _ _ _ _ _ (c_isVersion_t (i := 4) hv hvs) rfl rfl (Nat.le_of_ble_eq_true rfl) rfl ?_
  refine mB hT 2 rfl ?_
  refine hC.2.1 _ [_] _ _ _ _ (c_isBasket_t hb) rfl (Nat.le_of_ble_eq_true rfl) rfl ?_
  refine mB hT 2 rfl ?_
  refine hC.2.2.1 _ [_] _ _ _ _ (c_isStuff_t hk) rfl (Nat.le_of_ble_eq_true rfl) rfl ?_
  refine mB hT 3 rfl ?_
  refine hC.2.2.2.1 _ 0 [_] _ _ _ _ _ (c_isMaking_t (i := 3) hi hn) rfl rfl (Nat.le_of_ble_eq_true rfl) rfl ?_
  refine mB hT 8 rfl ?_
  refine hC.2.2.2.2.1 _ 0 [_, _, _, _] _ _ _ _ _ (hk1) rfl rfl (Nat.le_of_ble_eq_true rfl) rfl ?_
  refine mB hT 6 rfl ?_
  refine hC.2.2.2.2.2 _ 0 [_, _, _, _] _ _ _ _ _ (hk3) rfl rfl (Nat.le_of_ble_eq_true rfl) rfl ?_
  refine mB hT 5 rfl ?_
  refine mIf (fun h1 => ?_) (fun h1 => ?_)
  · refine mNf (lv2 := [(7, .long (-9000000000000000004)), (5, .long a1), (0, .ref 0), (1, .int 4), (2, .int (Int32.ofNat b)), (3, .int (Int32.ofNat k)), (4, .int 3)]) (st2 := []) rfl rfl ?_
    refine mB hT 1 rfl ?_
    exact hR _ (by decide) _ _ _ rfl rfl
  · refine mNf (lv2 := [(7, .long (-9000000000000000004)), (5, .long a1), (0, .ref 0), (1, .int 4), (2, .int (Int32.ofNat b)), (3, .int (Int32.ofNat k)), (4, .int 3)]) (st2 := []) rfl rfl ?_
    refine mB hT 5 rfl ?_
    exact hR _ (by decide) _ _ _ rfl rfl
set_option maxRecDepth 20000 in
theorem x_blame_C_4_3 {n vs : Nat} {be de : Int64} {sz : Int32} {ro co mi : Nat → Int64} {T : Nat → Nat → Int64} {B : Nat → Nat → Nat → Int32} {hd : Nat → Nat → Int32} {df : Nat → Int32} (hv : 4 < vs) (hvs : vs ≤ 6) (hi : 3 < n) (hn : n ≤ 4) {b : Nat} (hb : b < 4) {k : Nat} (hk : k < 3) (h1 : ¬ detX n (lyT n ((cpX (cpX B 7 6 0 4) 7 4 4 4) 7) T) = 0) (h2a : ∀ T2 : Nat → Nat → Int64, ¬ detX n (lyT n ((cpX (cpX (cpX (cpX B 7 6 0 4) 7 4 4 4) 7 6 0 3) 7 4 3 4) 7) T2) = 0) (ha : ¬ (thX (smX n ((cpX (cpX B 7 6 0 4) 7 4 4 4) 7) (roX n (lyT n ((cpX (cpX B 7 6 0 4) 7 4 4 4) 7) T) (hd b) ro) k 1) (absX (detX n (lyT n ((cpX (cpX B 7 6 0 4) 7 4 4 4) 7) T)))) = -9000000000000000004) (hb2 : ∀ (T2 : Nat → Nat → Int64) (ro2 : Nat → Int64), ¬ (thX (smX n ((cpX (cpX (cpX (cpX B 7 6 0 4) 7 4 4 4) 7 6 0 3) 7 4 3 4) 7) (roX n (lyT n ((cpX (cpX (cpX (cpX B 7 6 0 4) 7 4 4 4) 7 6 0 3) 7 4 3 4) 7) T2) (hd b) ro2) k 1) (absX (detX n (lyT n ((cpX (cpX (cpX (cpX B 7 6 0 4) 7 4 4 4) 7 6 0 3) 7 4 3 4) 7) T2)))) = -9000000000000000004) : ∃ (T2 : Nat → Nat → Int64) (ro2 : Nat → Int64), ∃ (be4 de4 : Int64) (sz4 : Int32) (ro4 co4 mi4 : Nat → Int64) (T4 : Nat → Nat → Int64), KX2_blame l D ca ad [.ref 0, .int 4, .int (Int32.ofNat b), .int (Int32.ofNat k), .int 3] (XW (Int32.ofNat n) (Int32.ofNat vs) be de sz ro co mi T B hd df) (some (.long ((thX (smX n ((cpX (cpX B 7 6 0 4) 7 4 4 4) 7) (roX n (lyT n ((cpX (cpX B 7 6 0 4) 7 4 4 4) 7) T) (hd b) ro) k 1) (absX (detX n (lyT n ((cpX (cpX B 7 6 0 4) 7 4 4 4) 7) T)))) - (thX (smX n ((cpX (cpX (cpX (cpX B 7 6 0 4) 7 4 4 4) 7 6 0 3) 7 4 3 4) 7) (roX n (lyT n ((cpX (cpX (cpX (cpX B 7 6 0 4) 7 4 4 4) 7 6 0 3) 7 4 3 4) 7) T2) (hd b) ro2) k 1) (absX (detX n (lyT n ((cpX (cpX (cpX (cpX B 7 6 0 4) 7 4 4 4) 7 6 0 3) 7 4 3 4) 7) T2))))))) (XW (Int32.ofNat n) (Int32.ofNat vs) be4 de4 sz4 ro4 co4 mi4 T4 (cpX (cpX (cpX (cpX B 7 6 0 4) 7 4 4 4) 7 6 0 3) 7 4 3 4) hd df) := by
  obtain ⟨B1, eB⟩ : ∃ z, z = (cpX (cpX B 7 6 0 4) 7 4 4 4) := ⟨_, rfl⟩
  obtain ⟨B3, eB3⟩ : ∃ z, z = (cpX (cpX B1 7 6 0 3) 7 4 3 4) := ⟨_, rfl⟩
  obtain ⟨be1, de1, sz1, ro1, co1, mi1, T1, hk1⟩ := x_mixed_4_4 (l := l) (D := D) (ca := ca) (ad := ad) (vs := vs) (be := be) (de := de) (sz := sz) (ro := ro) (co := co) (mi := mi) (df := df) hn hb hk h1
  refine ⟨T1, ro1, ?_⟩
  have hb3 := hb2 T1 ro1
  rw [← eB] at h2a hk1 hb3
  rw [← eB, ← eB3]
  have h2 := h2a T1
  obtain ⟨be3, de3, sz3, ro3, co3, mi3, T3, hk3⟩ := x_mixed_4_3 (l := l) (D := D) (ca := ca) (ad := ad) (vs := vs) (be := be1) (de := de1) (sz := sz1) (ro := ro1) (co := co1) (mi := mi1) (T := T1) (B := B1) (df := df) hn hb hk h2
  rw [← eB3] at hk3
  rw [← eB3] at hb3
  rw [← eB] at ha
  obtain ⟨a1, ea1⟩ : ∃ z, z = (thX (smX n (B1 7) (roX n (lyT n (B1 7) T) (hd b) ro) k 1) (absX (detX n (lyT n (B1 7) T)))) := ⟨_, rfl⟩
  obtain ⟨a2, ea2⟩ : ∃ z, z = (thX (smX n (B3 7) (roX n (lyT n (B3 7) T1) (hd b) ro1) k 1) (absX (detX n (lyT n (B3 7) T1)))) := ⟨_, rfl⟩
  rw [← ea1] at hk1 ha ⊢
  rw [← ea2] at hk3 hb3 ⊢
  refine ⟨be3, de3, sz3, ro3, co3, mi3, T3, ?_⟩
  refine PX2_blame (Nat.le_of_ble_eq_true rfl) ?_
  intro G hT hC hR
  refine mB hT 2 rfl ?_
  refine hC.1 _ 0 [_] _ _ _ _ _ (c_isVersion_t (i := 4) hv hvs) rfl rfl (Nat.le_of_ble_eq_true rfl) rfl ?_
  refine mB hT 2 rfl ?_
  refine hC.2.1 _ [_] _ _ _ _ (c_isBasket_t hb) rfl (Nat.le_of_ble_eq_true rfl) rfl ?_
  refine mB hT 2 rfl ?_
  refine hC.2.2.1 _ [_] _ _ _ _ (c_isStuff_t hk) rfl (Nat.le_of_ble_eq_true rfl) rfl ?_
  refine mB hT 3 rfl ?_
  refine hC.2.2.2.1 _ 0 [_] _ _ _ _ _ (c_isMaking_t (i := 3) hi hn) rfl rfl (Nat.le_of_ble_eq_true rfl) rfl ?_
  refine mB hT 8 rfl ?_
  refine hC.2.2.2.2.1 _ 0 [_, _, _, _] _ _ _ _ _ (hk1) rfl rfl (Nat.le_of_ble_eq_true rfl) rfl ?_
  refine mB hT 6 rfl ?_
  refine hC.2.2.2.2.2 _ 0 [_, _, _, _] _ _ _ _ _ (hk3) rfl rfl (Nat.le_of_ble_eq_true rfl) rfl ?_
  refine mB hT 5 rfl ?_
  refine mIf (fun hp => absurd hp (fun q => ha (lc_eq.mp q))) (fun _ => ?_)
  refine mNf (lv2 := [(7, .long a2), (5, .long a1), (0, .ref 0), (1, .int 4), (2, .int (Int32.ofNat b)), (3, .int (Int32.ofNat k)), (4, .int 3)]) (st2 := []) rfl rfl ?_
  refine mB hT 4 rfl ?_
  refine mIf (fun hp => absurd hp (fun q => hb3 (lc_eq.mp q))) (fun _ => ?_)
  refine mB hT 3 rfl ?_
  exact hR _ (by decide) _ _ _ rfl rfl
set_option maxRecDepth 20000 in
theorem x_blame_A_5_0 {n vs : Nat} {be de : Int64} {sz : Int32} {ro co mi : Nat → Int64} {T : Nat → Nat → Int64} {B : Nat → Nat → Nat → Int32} {hd : Nat → Nat → Int32} {df : Nat → Int32} (hv : 5 < vs) (hvs : vs ≤ 6) (hi : 0 < n) (hn : n ≤ 4) {b : Nat} (hb : b < 4) {k : Nat} (hk : k < 3) (h1 : detX n (lyT n ((cpX (cpX B 7 6 0 1) 7 5 1 4) 7) T) = 0) : ∃ (be4 de4 : Int64) (sz4 : Int32) (ro4 co4 mi4 : Nat → Int64) (T4 : Nat → Nat → Int64), KX2_blame l D ca ad [.ref 0, .int 5, .int (Int32.ofNat b), .int (Int32.ofNat k), .int 0] (XW (Int32.ofNat n) (Int32.ofNat vs) be de sz ro co mi T B hd df) (some (.long (-9000000000000000004))) (XW (Int32.ofNat n) (Int32.ofNat vs) be4 de4 sz4 ro4 co4 mi4 T4 (cpX (cpX (cpX (cpX B 7 6 0 1) 7 5 1 4) 7 6 0 0) 7 5 0 4) hd df) := by
  obtain ⟨B1, eB⟩ : ∃ z, z = (cpX (cpX B 7 6 0 1) 7 5 1 4) := ⟨_, rfl⟩
  obtain ⟨B3, eB3⟩ : ∃ z, z = (cpX (cpX B1 7 6 0 0) 7 5 0 4) := ⟨_, rfl⟩
  rw [← eB, ← eB3]
  obtain ⟨be1, de1, sz1, ro1, co1, mi1, T1, hk1⟩ := x_mixed_B_5_1 (l := l) (D := D) (ca := ca) (ad := ad) (vs := vs) (be := be) (de := de) (sz := sz) (ro := ro) (co := co) (mi := mi) (df := df) hn hb hk h1
  rw [← eB] at hk1
  by_cases h2 : detX n (lyT n ((cpX (cpX B1 7 6 0 0) 7 5 0 4) 7) T1) = 0
  · obtain ⟨be3, de3, sz3, ro3, co3, mi3, T3, hk3⟩ := x_mixed_B_5_0 (l := l) (D := D) (ca := ca) (ad := ad) (vs := vs) (be := be1) (de := de1) (sz := sz1) (ro := ro1) (co := co1) (mi := mi1) (T := T1) (B := B1) (df := df) hn hb hk h2
    rw [← eB3] at hk3
    refine ⟨be3, de3, sz3, ro3, co3, mi3, T3, ?_⟩
    refine PX2_blame (Nat.le_of_ble_eq_true rfl) ?_
    intro G hT hC hR
    refine mB hT 2 rfl ?_
    refine hC.1 _ 0 [_] _ _ _ _ _ (c_isVersion_t (i := 5) hv hvs) rfl rfl (Nat.le_of_ble_eq_true rfl) rfl ?_
    refine mB hT 2 rfl ?_
    refine hC.2.1 _ [_] _ _ _ _ (c_isBasket_t hb) rfl (Nat.le_of_ble_eq_true rfl) rfl ?_
    refine mB hT 2 rfl ?_
    refine hC.2.2.1 _ [_] _ _ _ _ (c_isStuff_t hk) rfl (Nat.le_of_ble_eq_true rfl) rfl ?_
    refine mB hT 3 rfl ?_
    refine hC.2.2.2.1 _ 0 [_] _ _ _ _ _ (c_isMaking_t (i := 0) hi hn) rfl rfl (Nat.le_of_ble_eq_true rfl) rfl ?_
    refine mB hT 8 rfl ?_
    refine hC.2.2.2.2.1 _ 0 [_, _, _, _] _ _ _ _ _ (hk1) rfl rfl (Nat.le_of_ble_eq_true rfl) rfl ?_
    refine mB hT 6 rfl ?_
    refine hC.2.2.2.2.2 _ 0 [_, _, _, _] _ _ _ _ _ (hk3) rfl rfl (Nat.le_of_ble_eq_true rfl) rfl ?_
    refine mB hT 6 rfl ?_
    exact hR _ (by decide) _ _ _ rfl rfl
  · obtain ⟨be3, de3, sz3, ro3, co3, mi3, T3, hk3⟩ := x_mixed_5_0 (l := l) (D := D) (ca := ca) (ad := ad) (vs := vs) (be := be1) (de := de1) (sz := sz1) (ro := ro1) (co := co1) (mi := mi1) (T := T1) (B := B1) (df := df) hn hb hk h2
    rw [← eB3] at hk3
    generalize thX _ _ = a2 at hk3
    refine ⟨be3, de3, sz3, ro3, co3, mi3, T3, ?_⟩
    refine PX2_blame (Nat.le_of_ble_eq_true rfl) ?_
    intro G hT hC hR
    refine mB hT 2 rfl ?_
    refine hC.1 _ 0 [_] _ _ _ _ _ (c_isVersion_t (i := 5) hv hvs) rfl rfl (Nat.le_of_ble_eq_true rfl) rfl ?_
    refine mB hT 2 rfl ?_
    refine hC.2.1 _ [_] _ _ _ _ (c_isBasket_t hb) rfl (Nat.le_of_ble_eq_true rfl) rfl ?_
    refine mB hT 2 rfl ?_
    refine hC.2.2.1 _ [_] _ _ _ _ (c_isStuff_t hk) rfl (Nat.le_of_ble_eq_true rfl) rfl ?_
    refine mB hT 3 rfl ?_
    refine hC.2.2.2.1 _ 0 [_] _ _ _ _ _ (c_isMaking_t (i := 0) hi hn) rfl rfl (Nat.le_of_ble_eq_true rfl) rfl ?_
    refine mB hT 8 rfl ?_
    refine hC.2.2.2.2.1 _ 0 [_, _, _, _] _ _ _ _ _ (hk1) rfl rfl (Nat.le_of_ble_eq_true rfl) rfl ?_
    refine mB hT 6 rfl ?_
    refine hC.2.2.2.2.2 _ 0 [_, _, _, _] _ _ _ _ _ (hk3) rfl rfl (Nat.le_of_ble_eq_true rfl) rfl ?_
    refine mB hT 6 rfl ?_
    exact hR _ (by decide) _ _ _ rfl rfl
set_option maxRecDepth 20000 in
theorem x_blame_B_5_0 {n vs : Nat} {be de : Int64} {sz : Int32} {ro co mi : Nat → Int64} {T : Nat → Nat → Int64} {B : Nat → Nat → Nat → Int32} {hd : Nat → Nat → Int32} {df : Nat → Int32} (hv : 5 < vs) (hvs : vs ≤ 6) (hi : 0 < n) (hn : n ≤ 4) {b : Nat} (hb : b < 4) {k : Nat} (hk : k < 3) (h1 : ¬ detX n (lyT n ((cpX (cpX B 7 6 0 1) 7 5 1 4) 7) T) = 0) (h2a : ∀ T2 : Nat → Nat → Int64, detX n (lyT n ((cpX (cpX (cpX (cpX B 7 6 0 1) 7 5 1 4) 7 6 0 0) 7 5 0 4) 7) T2) = 0) : ∃ (be4 de4 : Int64) (sz4 : Int32) (ro4 co4 mi4 : Nat → Int64) (T4 : Nat → Nat → Int64), KX2_blame l D ca ad [.ref 0, .int 5, .int (Int32.ofNat b), .int (Int32.ofNat k), .int 0] (XW (Int32.ofNat n) (Int32.ofNat vs) be de sz ro co mi T B hd df) (some (.long (-9000000000000000004))) (XW (Int32.ofNat n) (Int32.ofNat vs) be4 de4 sz4 ro4 co4 mi4 T4 (cpX (cpX (cpX (cpX B 7 6 0 1) 7 5 1 4) 7 6 0 0) 7 5 0 4) hd df) := by
  obtain ⟨B1, eB⟩ : ∃ z, z = (cpX (cpX B 7 6 0 1) 7 5 1 4) := ⟨_, rfl⟩
  obtain ⟨B3, eB3⟩ : ∃ z, z = (cpX (cpX B1 7 6 0 0) 7 5 0 4) := ⟨_, rfl⟩
  rw [← eB] at h2a
  rw [← eB, ← eB3]
  obtain ⟨be1, de1, sz1, ro1, co1, mi1, T1, hk1⟩ := x_mixed_5_1 (l := l) (D := D) (ca := ca) (ad := ad) (vs := vs) (be := be) (de := de) (sz := sz) (ro := ro) (co := co) (mi := mi) (df := df) hn hb hk h1
  rw [← eB] at hk1
  generalize thX _ _ = a1 at hk1
  have h2 := h2a T1
  obtain ⟨be3, de3, sz3, ro3, co3, mi3, T3, hk3⟩ := x_mixed_B_5_0 (l := l) (D := D) (ca := ca) (ad := ad) (vs := vs) (be := be1) (de := de1) (sz := sz1) (ro := ro1) (co := co1) (mi := mi1) (T := T1) (B := B1) (df := df) hn hb hk h2
  rw [← eB3] at hk3
  refine ⟨be3, de3, sz3, ro3, co3, mi3, T3, ?_⟩
  refine PX2_blame (Nat.le_of_ble_eq_true rfl) ?_
  intro G hT hC hR
  refine mB hT 2 rfl ?_
  refine hC.1 _ 0 [_] _ _ _ _ _ (c_isVersion_t (i := 5) hv hvs) rfl rfl (Nat.le_of_ble_eq_true rfl) rfl ?_
  refine mB hT 2 rfl ?_
  refine hC.2.1 _ [_] _ _ _ _ (c_isBasket_t hb) rfl (Nat.le_of_ble_eq_true rfl) rfl ?_
  refine mB hT 2 rfl ?_
  refine hC.2.2.1 _ [_] _ _ _ _ (c_isStuff_t hk) rfl (Nat.le_of_ble_eq_true rfl) rfl ?_
  refine mB hT 3 rfl ?_
  refine hC.2.2.2.1 _ 0 [_] _ _ _ _ _ (c_isMaking_t (i := 0) hi hn) rfl rfl (Nat.le_of_ble_eq_true rfl) rfl ?_
  refine mB hT 8 rfl ?_
  refine hC.2.2.2.2.1 _ 0 [_, _, _, _] _ _ _ _ _ (hk1) rfl rfl (Nat.le_of_ble_eq_true rfl) rfl ?_
  refine mB hT 6 rfl ?_
  refine hC.2.2.2.2.2 _ 0 [_, _, _, _] _ _ _ _ _ (hk3) rfl rfl (Nat.le_of_ble_eq_true rfl) rfl ?_
  refine mB hT 5 rfl ?_
  refine mIf (fun h1 => ?_) (fun h1 => ?_)
  · refine mNf (lv2 := [(7, .long (-9000000000000000004)), (5, .long a1), (0, .ref 0), (1, .int 5), (2, .int (Int32.ofNat b)), (3, .int (Int32.ofNat k)), (4, .int 0)]) (st2 := []) rfl rfl ?_
    refine mB hT 1 rfl ?_
    exact hR _ (by decide) _ _ _ rfl rfl
  · refine mNf (lv2 := [(7, .long (-9000000000000000004)), (5, .long a1), (0, .ref 0), (1, .int 5), (2, .int (Int32.ofNat b)), (3, .int (Int32.ofNat k)), (4, .int 0)]) (st2 := []) rfl rfl ?_
    refine mB hT 5 rfl ?_
    exact hR _ (by decide) _ _ _ rfl rfl
set_option maxRecDepth 20000 in
theorem x_blame_C_5_0 {n vs : Nat} {be de : Int64} {sz : Int32} {ro co mi : Nat → Int64} {T : Nat → Nat → Int64} {B : Nat → Nat → Nat → Int32} {hd : Nat → Nat → Int32} {df : Nat → Int32} (hv : 5 < vs) (hvs : vs ≤ 6) (hi : 0 < n) (hn : n ≤ 4) {b : Nat} (hb : b < 4) {k : Nat} (hk : k < 3) (h1 : ¬ detX n (lyT n ((cpX (cpX B 7 6 0 1) 7 5 1 4) 7) T) = 0) (h2a : ∀ T2 : Nat → Nat → Int64, ¬ detX n (lyT n ((cpX (cpX (cpX (cpX B 7 6 0 1) 7 5 1 4) 7 6 0 0) 7 5 0 4) 7) T2) = 0) (ha : ¬ (thX (smX n ((cpX (cpX B 7 6 0 1) 7 5 1 4) 7) (roX n (lyT n ((cpX (cpX B 7 6 0 1) 7 5 1 4) 7) T) (hd b) ro) k 1) (absX (detX n (lyT n ((cpX (cpX B 7 6 0 1) 7 5 1 4) 7) T)))) = -9000000000000000004) (hb2 : ∀ (T2 : Nat → Nat → Int64) (ro2 : Nat → Int64), ¬ (thX (smX n ((cpX (cpX (cpX (cpX B 7 6 0 1) 7 5 1 4) 7 6 0 0) 7 5 0 4) 7) (roX n (lyT n ((cpX (cpX (cpX (cpX B 7 6 0 1) 7 5 1 4) 7 6 0 0) 7 5 0 4) 7) T2) (hd b) ro2) k 1) (absX (detX n (lyT n ((cpX (cpX (cpX (cpX B 7 6 0 1) 7 5 1 4) 7 6 0 0) 7 5 0 4) 7) T2)))) = -9000000000000000004) : ∃ (T2 : Nat → Nat → Int64) (ro2 : Nat → Int64), ∃ (be4 de4 : Int64) (sz4 : Int32) (ro4 co4 mi4 : Nat → Int64) (T4 : Nat → Nat → Int64), KX2_blame l D ca ad [.ref 0, .int 5, .int (Int32.ofNat b), .int (Int32.ofNat k), .int 0] (XW (Int32.ofNat n) (Int32.ofNat vs) be de sz ro co mi T B hd df) (some (.long ((thX (smX n ((cpX (cpX B 7 6 0 1) 7 5 1 4) 7) (roX n (lyT n ((cpX (cpX B 7 6 0 1) 7 5 1 4) 7) T) (hd b) ro) k 1) (absX (detX n (lyT n ((cpX (cpX B 7 6 0 1) 7 5 1 4) 7) T)))) - (thX (smX n ((cpX (cpX (cpX (cpX B 7 6 0 1) 7 5 1 4) 7 6 0 0) 7 5 0 4) 7) (roX n (lyT n ((cpX (cpX (cpX (cpX B 7 6 0 1) 7 5 1 4) 7 6 0 0) 7 5 0 4) 7) T2) (hd b) ro2) k 1) (absX (detX n (lyT n ((cpX (cpX (cpX (cpX B 7 6 0 1) 7 5 1 4) 7 6 0 0) 7 5 0 4) 7) T2))))))) (XW (Int32.ofNat n) (Int32.ofNat vs) be4 de4 sz4 ro4 co4 mi4 T4 (cpX (cpX (cpX (cpX B 7 6 0 1) 7 5 1 4) 7 6 0 0) 7 5 0 4) hd df) := by
  obtain ⟨B1, eB⟩ : ∃ z, z = (cpX (cpX B 7 6 0 1) 7 5 1 4) := ⟨_, rfl⟩
  obtain ⟨B3, eB3⟩ : ∃ z, z = (cpX (cpX B1 7 6 0 0) 7 5 0 4) := ⟨_, rfl⟩
  obtain ⟨be1, de1, sz1, ro1, co1, mi1, T1, hk1⟩ := x_mixed_5_1 (l := l) (D := D) (ca := ca) (ad := ad) (vs := vs) (be := be) (de := de) (sz := sz) (ro := ro) (co := co) (mi := mi) (df := df) hn hb hk h1
  refine ⟨T1, ro1, ?_⟩
  have hb3 := hb2 T1 ro1
  rw [← eB] at h2a hk1 hb3
  rw [← eB, ← eB3]
  have h2 := h2a T1
  obtain ⟨be3, de3, sz3, ro3, co3, mi3, T3, hk3⟩ := x_mixed_5_0 (l := l) (D := D) (ca := ca) (ad := ad) (vs := vs) (be := be1) (de := de1) (sz := sz1) (ro := ro1) (co := co1) (mi := mi1) (T := T1) (B := B1) (df := df) hn hb hk h2
  rw [← eB3] at hk3
  rw [← eB3] at hb3
  rw [← eB] at ha
  obtain ⟨a1, ea1⟩ : ∃ z, z = (thX (smX n (B1 7) (roX n (lyT n (B1 7) T) (hd b) ro) k 1) (absX (detX n (lyT n (B1 7) T)))) := ⟨_, rfl⟩
  obtain ⟨a2, ea2⟩ : ∃ z, z = (thX (smX n (B3 7) (roX n (lyT n (B3 7) T1) (hd b) ro1) k 1) (absX (detX n (lyT n (B3 7) T1)))) := ⟨_, rfl⟩
  rw [← ea1] at hk1 ha ⊢
  rw [← ea2] at hk3 hb3 ⊢
  refine ⟨be3, de3, sz3, ro3, co3, mi3, T3, ?_⟩
  refine PX2_blame (Nat.le_of_ble_eq_true rfl) ?_
  intro G hT hC hR
  refine mB hT 2 rfl ?_
  refine hC.1 _ 0 [_] _ _ _ _ _ (c_isVersion_t (i := 5) hv hvs) rfl rfl (Nat.le_of_ble_eq_true rfl) rfl ?_
  refine mB hT 2 rfl ?_
  refine hC.2.1 _ [_] _ _ _ _ (c_isBasket_t hb) rfl (Nat.le_of_ble_eq_true rfl) rfl ?_
  refine mB hT 2 rfl ?_
  refine hC.2.2.1 _ [_] _ _ _ _ (c_isStuff_t hk) rfl (Nat.le_of_ble_eq_true rfl) rfl ?_
  refine mB hT 3 rfl ?_
  refine hC.2.2.2.1 _ 0 [_] _ _ _ _ _ (c_isMaking_t (i := 0) hi hn) rfl rfl (Nat.le_of_ble_eq_true rfl) rfl ?_
  refine mB hT 8 rfl ?_
  refine hC.2.2.2.2.1 _ 0 [_, _, _, _] _ _ _ _ _ (hk1) rfl rfl (Nat.le_of_ble_eq_true rfl) rfl ?_
  refine mB hT 6 rfl ?_
  refine hC.2.2.2.2.2 _ 0 [_, _, _, _] _ _ _ _ _ (hk3) rfl rfl (Nat.le_of_ble_eq_true rfl) rfl ?_
  refine mB hT 5 rfl ?_
  refine mIf (fun hp => absurd hp (fun q => ha (lc_eq.mp q))) (fun _ => ?_)
  refine mNf (lv2 := [(7, .long a2), (5, .long a1), (0, .ref 0), (1, .int 5), (2, .int (Int32.ofNat b)), (3, .int (Int32.ofNat k)), (4, .int 0)]) (st2 := []) rfl rfl ?_
  refine mB hT 4 rfl ?_
  refine mIf (fun hp => absurd hp (fun q => hb3 (lc_eq.mp q))) (fun _ => ?_)
  refine mB hT 3 rfl ?_
  exact hR _ (by decide) _ _ _ rfl rfl
set_option maxRecDepth 20000 in
theorem x_blame_A_5_1 {n vs : Nat} {be de : Int64} {sz : Int32} {ro co mi : Nat → Int64} {T : Nat → Nat → Int64} {B : Nat → Nat → Nat → Int32} {hd : Nat → Nat → Int32} {df : Nat → Int32} (hv : 5 < vs) (hvs : vs ≤ 6) (hi : 1 < n) (hn : n ≤ 4) {b : Nat} (hb : b < 4) {k : Nat} (hk : k < 3) (h1 : detX n (lyT n ((cpX (cpX B 7 6 0 2) 7 5 2 4) 7) T) = 0) : ∃ (be4 de4 : Int64) (sz4 : Int32) (ro4 co4 mi4 : Nat → Int64) (T4 : Nat → Nat → Int64), KX2_blame l D ca ad [.ref 0, .int 5, .int (Int32.ofNat b), .int (Int32.ofNat k), .int 1] (XW (Int32.ofNat n) (Int32.ofNat vs) be de sz ro co mi T B hd df) (some (.long (-9000000000000000004))) (XW (Int32.ofNat n) (Int32.ofNat vs) be4 de4 sz4 ro4 co4 mi4 T4 (cpX (cpX (cpX (cpX B 7 6 0 2) 7 5 2 4) 7 6 0 1) 7 5 1 4) hd df) := by
  obtain ⟨B1, eB⟩ : ∃ z, z = (cpX (cpX B 7 6 0 2) 7 5 2 4) := ⟨_, rfl⟩
  obtain ⟨B3, eB3⟩ : ∃ z, z = (cpX (cpX B1 7 6 0 1) 7 5 1 4) := ⟨_, rfl⟩
  rw [← eB, ← eB3]
  obtain ⟨be1, de1, sz1, ro1, co1, mi1, T1, hk1⟩ := x_mixed_B_5_2 (l := l) (D := D) (ca := ca) (ad := ad) (vs := vs) (be := be) (de := de) (sz := sz) (ro := ro) (co := co) (mi := mi) (df := df) hn hb hk h1
  rw [← eB] at hk1
  by_cases h2 : detX n (lyT n ((cpX (cpX B1 7 6 0 1) 7 5 1 4) 7) T1) = 0
  · obtain ⟨be3, de3, sz3, ro3, co3, mi3, T3, hk3⟩ := x_mixed_B_5_1 (l := l) (D := D) (ca := ca) (ad := ad) (vs := vs) (be := be1) (de := de1) (sz := sz1) (ro := ro1) (co := co1) (mi := mi1) (T := T1) (B := B1) (df := df) hn hb hk h2
    rw [← eB3] at hk3
    refine ⟨be3, de3, sz3, ro3, co3, mi3, T3, ?_⟩
    refine PX2_blame (Nat.le_of_ble_eq_true rfl) ?_
    intro G hT hC hR
    refine mB hT 2 rfl ?_
    refine hC.1 _ 0 [_] _ _ _ _ _ (c_isVersion_t (i := 5) hv hvs) rfl rfl (Nat.le_of_ble_eq_true rfl) rfl ?_
    refine mB hT 2 rfl ?_
    refine hC.2.1 _ [_] _ _ _ _ (c_isBasket_t hb) rfl (Nat.le_of_ble_eq_true rfl) rfl ?_
    refine mB hT 2 rfl ?_
    refine hC.2.2.1 _ [_] _ _ _ _ (c_isStuff_t hk) rfl (Nat.le_of_ble_eq_true rfl) rfl ?_
    refine mB hT 3 rfl ?_
    refine hC.2.2.2.1 _ 0 [_] _ _ _ _ _ (c_isMaking_t (i := 1) hi hn) rfl rfl (Nat.le_of_ble_eq_true rfl) rfl ?_
    refine mB hT 8 rfl ?_
    refine hC.2.2.2.2.1 _ 0 [_, _, _, _] _ _ _ _ _ (hk1) rfl rfl (Nat.le_of_ble_eq_true rfl) rfl ?_
    refine mB hT 6 rfl ?_
    refine hC.2.2.2.2.2 _ 0 [_, _, _, _] _ _ _ _ _ (hk3) rfl rfl (Nat.le_of_ble_eq_true rfl) rfl ?_
    refine mB hT 6 rfl ?_
    exact hR _ (by decide) _ _ _ rfl rfl
  · obtain ⟨be3, de3, sz3, ro3, co3, mi3, T3, hk3⟩ := x_mixed_5_1 (l := l) (D := D) (ca := ca) (ad := ad) (vs := vs) (be := be1) (de := de1) (sz := sz1) (ro := ro1) (co := co1) (mi := mi1) (T := T1) (B := B1) (df := df) hn hb hk h2
    rw [← eB3] at hk3
    generalize thX _ _ = a2 at hk3
    refine ⟨be3, de3, sz3, ro3, co3, mi3, T3, ?_⟩
    refine PX2_blame (Nat.le_of_ble_eq_true rfl) ?_
    intro G hT hC hR
    refine mB hT 2 rfl ?_
    refine hC.1 _ 0 [_] _ _ _ _ _ (c_isVersion_t (i := 5) hv hvs) rfl rfl (Nat.le_of_ble_eq_true rfl) rfl ?_
    refine mB hT 2 rfl ?_
    refine hC.2.1 _ [_] _ _ _ _ (c_isBasket_t hb) rfl (Nat.le_of_ble_eq_true rfl) rfl ?_
    refine mB hT 2 rfl ?_
    refine hC.2.2.1 _ [_] _ _ _ _ (c_isStuff_t hk) rfl (Nat.le_of_ble_eq_true rfl) rfl ?_
    refine mB hT 3 rfl ?_
    refine hC.2.2.2.1 _ 0 [_] _ _ _ _ _ (c_isMaking_t (i := 1) hi hn) rfl rfl (Nat.le_of_ble_eq_true rfl) rfl ?_
    refine mB hT 8 rfl ?_
    refine hC.2.2.2.2.1 _ 0 [_, _, _, _] _ _ _ _ _ (hk1) rfl rfl (Nat.le_of_ble_eq_true rfl) rfl ?_
    refine mB hT 6 rfl ?_
    refine hC.2.2.2.2.2 _ 0 [_, _, _, _] _ _ _ _ _ (hk3) rfl rfl (Nat.le_of_ble_eq_true rfl) rfl ?_
    refine mB hT 6 rfl ?_
    exact hR _ (by decide) _ _ _ rfl rfl
set_option maxRecDepth 20000 in
theorem x_blame_B_5_1 {n vs : Nat} {be de : Int64} {sz : Int32} {ro co mi : Nat → Int64} {T : Nat → Nat → Int64} {B : Nat → Nat → Nat → Int32} {hd : Nat → Nat → Int32} {df : Nat → Int32} (hv : 5 < vs) (hvs : vs ≤ 6) (hi : 1 < n) (hn : n ≤ 4) {b : Nat} (hb : b < 4) {k : Nat} (hk : k < 3) (h1 : ¬ detX n (lyT n ((cpX (cpX B 7 6 0 2) 7 5 2 4) 7) T) = 0) (h2a : ∀ T2 : Nat → Nat → Int64, detX n (lyT n ((cpX (cpX (cpX (cpX B 7 6 0 2) 7 5 2 4) 7 6 0 1) 7 5 1 4) 7) T2) = 0) : ∃ (be4 de4 : Int64) (sz4 : Int32) (ro4 co4 mi4 : Nat → Int64) (T4 : Nat → Nat → Int64), KX2_blame l D ca ad [.ref 0, .int 5, .int (Int32.ofNat b), .int (Int32.ofNat k), .int 1] (XW (Int32.ofNat n) (Int32.ofNat vs) be de sz ro co mi T B hd df) (some (.long (-9000000000000000004))) (XW (Int32.ofNat n) (Int32.ofNat vs) be4 de4 sz4 ro4 co4 mi4 T4 (cpX (cpX (cpX (cpX B 7 6 0 2) 7 5 2 4) 7 6 0 1) 7 5 1 4) hd df) := by
  obtain ⟨B1, eB⟩ : ∃ z, z = (cpX (cpX B 7 6 0 2) 7 5 2 4) := ⟨_, rfl⟩
  obtain ⟨B3, eB3⟩ : ∃ z, z = (cpX (cpX B1 7 6 0 1) 7 5 1 4) := ⟨_, rfl⟩
  rw [← eB] at h2a
  rw [← eB, ← eB3]
  obtain ⟨be1, de1, sz1, ro1, co1, mi1, T1, hk1⟩ := x_mixed_5_2 (l := l) (D := D) (ca := ca) (ad := ad) (vs := vs) (be := be) (de := de) (sz := sz) (ro := ro) (co := co) (mi := mi) (df := df) hn hb hk h1
  rw [← eB] at hk1
  generalize thX _ _ = a1 at hk1
  have h2 := h2a T1
  obtain ⟨be3, de3, sz3, ro3, co3, mi3, T3, hk3⟩ := x_mixed_B_5_1 (l := l) (D := D) (ca := ca) (ad := ad) (vs := vs) (be := be1) (de := de1) (sz := sz1) (ro := ro1) (co := co1) (mi := mi1) (T := T1) (B := B1) (df := df) hn hb hk h2
  rw [← eB3] at hk3
  refine ⟨be3, de3, sz3, ro3, co3, mi3, T3, ?_⟩
  refine PX2_blame (Nat.le_of_ble_eq_true rfl) ?_
  intro G hT hC hR
  refine mB hT 2 rfl ?_
  refine hC.1 _ 0 [_] _ _ _ _ _ (c_isVersion_t (i := 5) hv hvs) rfl rfl (Nat.le_of_ble_eq_true rfl) rfl ?_
  refine mB hT 2 rfl ?_
  refine hC.2.1 _ [_] _ _ _ _ (c_isBasket_t hb) rfl (Nat.le_of_ble_eq_true rfl) rfl ?_
  refine mB hT 2 rfl ?_
  refine hC.2.2.1 _ [_] _ _ _ _ (c_isStuff_t hk) rfl (Nat.le_of_ble_eq_true rfl) rfl ?_
  refine mB hT 3 rfl ?_
  refine hC.2.2.2.1 _ 0 [_] _ _ _ _ _ (c_isMaking_t (i := 1) hi hn) rfl rfl (Nat.le_of_ble_eq_true rfl) rfl ?_
  refine mB hT 8 rfl ?_
  refine hC.2.2.2.2.1 _ 0 [_, _, _, _] _ _ _ _ _ (hk1) rfl rfl (Nat.le_of_ble_eq_true rfl) rfl ?_
  refine mB hT 6 rfl ?_
  refine hC.2.2.2.2.2 _ 0 [_, _, _, _] _ _ _ _ _ (hk3) rfl rfl (Nat.le_of_ble_eq_true rfl) rfl ?_
  refine mB hT 5 rfl ?_
  refine mIf (fun h1 => ?_) (fun h1 => ?_)
  · refine mNf (lv2 := [(7, .long (-9000000000000000004)), (5, .long a1), (0, .ref 0), (1, .int 5), (2, .int (Int32.ofNat b)), (3, .int (Int32.ofNat k)), (4, .int 1)]) (st2 := []) rfl rfl ?_
    refine mB hT 1 rfl ?_
    exact hR _ (by decide) _ _ _ rfl rfl
  · refine mNf (lv2 := [(7, .long (-9000000000000000004)), (5, .long a1), (0, .ref 0), (1, .int 5), (2, .int (Int32.ofNat b)), (3, .int (Int32.ofNat k)), (4, .int 1)]) (st2 := []) rfl rfl ?_
    refine mB hT 5 rfl ?_
    exact hR _ (by decide) _ _ _ rfl rfl
set_option maxRecDepth 20000 in
theorem x_blame_C_5_1 {n vs : Nat} {be de : Int64} {sz : Int32} {ro co mi : Nat → Int64} {T : Nat → Nat → Int64} {B : Nat → Nat → Nat → Int32} {hd : Nat → Nat → Int32} {df : Nat → Int32} (hv : 5 < vs) (hvs : vs ≤ 6) (hi : 1 < n) (hn : n ≤ 4) {b : Nat} (hb : b < 4) {k : Nat} (hk : k < 3) (h1 : ¬ detX n (lyT n ((cpX (cpX B 7 6 0 2) 7 5 2 4) 7) T) = 0) (h2a : ∀ T2 : Nat → Nat → Int64, ¬ detX n (lyT n ((cpX (cpX (cpX (cpX B 7 6 0 2) 7 5 2 4) 7 6 0 1) 7 5 1 4) 7) T2) = 0) (ha : ¬ (thX (smX n ((cpX (cpX B 7 6 0 2) 7 5 2 4) 7) (roX n (lyT n ((cpX (cpX B 7 6 0 2) 7 5 2 4) 7) T) (hd b) ro) k 1) (absX (detX n (lyT n ((cpX (cpX B 7 6 0 2) 7 5 2 4) 7) T)))) = -9000000000000000004) (hb2 : ∀ (T2 : Nat → Nat → Int64) (ro2 : Nat → Int64), ¬ (thX (smX n ((cpX (cpX (cpX (cpX B 7 6 0 2) 7 5 2 4) 7 6 0 1) 7 5 1 4) 7) (roX n (lyT n ((cpX (cpX (cpX (cpX B 7 6 0 2) 7 5 2 4) 7 6 0 1) 7 5 1 4) 7) T2) (hd b) ro2) k 1) (absX (detX n (lyT n ((cpX (cpX (cpX (cpX B 7 6 0 2) 7 5 2 4) 7 6 0 1) 7 5 1 4) 7) T2)))) = -9000000000000000004) : ∃ (T2 : Nat → Nat → Int64) (ro2 : Nat → Int64), ∃ (be4 de4 : Int64) (sz4 : Int32) (ro4 co4 mi4 : Nat → Int64) (T4 : Nat → Nat → Int64), KX2_blame l D ca ad [.ref 0, .int 5, .int (Int32.ofNat b), .int (Int32.ofNat k), .int 1] (XW (Int32.ofNat n) (Int32.ofNat vs) be de sz ro co mi T B hd df) (some (.long ((thX (smX n ((cpX (cpX B 7 6 0 2) 7 5 2 4) 7) (roX n (lyT n ((cpX (cpX B 7 6 0 2) 7 5 2 4) 7) T) (hd b) ro) k 1) (absX (detX n (lyT n ((cpX (cpX B 7 6 0 2) 7 5 2 4) 7) T)))) - (thX (smX n ((cpX (cpX (cpX (cpX B 7 6 0 2) 7 5 2 4) 7 6 0 1) 7 5 1 4) 7) (roX n (lyT n ((cpX (cpX (cpX (cpX B 7 6 0 2) 7 5 2 4) 7 6 0 1) 7 5 1 4) 7) T2) (hd b) ro2) k 1) (absX (detX n (lyT n ((cpX (cpX (cpX (cpX B 7 6 0 2) 7 5 2 4) 7 6 0 1) 7 5 1 4) 7) T2))))))) (XW (Int32.ofNat n) (Int32.ofNat vs) be4 de4 sz4 ro4 co4 mi4 T4 (cpX (cpX (cpX (cpX B 7 6 0 2) 7 5 2 4) 7 6 0 1) 7 5 1 4) hd df) := by
  obtain ⟨B1, eB⟩ : ∃ z, z = (cpX (cpX B 7 6 0 2) 7 5 2 4) := ⟨_, rfl⟩
  obtain ⟨B3, eB3⟩ : ∃ z, z = (cpX (cpX B1 7 6 0 1) 7 5 1 4) := ⟨_, rfl⟩
  obtain ⟨be1, de1, sz1, ro1, co1, mi1, T1, hk1⟩ := x_mixed_5_2 (l := l) (D := D) (ca := ca) (ad := ad) (vs := vs) (be := be) (de := de) (sz := sz) (ro := ro) (co := co) (mi := mi) (df := df) hn hb hk h1
  refine ⟨T1, ro1, ?_⟩
  have hb3 := hb2 T1 ro1
  rw [← eB] at h2a hk1 hb3
  rw [← eB, ← eB3]
  have h2 := h2a T1
  obtain ⟨be3, de3, sz3, ro3, co3, mi3, T3, hk3⟩ := x_mixed_5_1 (l := l) (D := D) (ca := ca) (ad := ad) (vs := vs) (be := be1) (de := de1) (sz := sz1) (ro := ro1) (co := co1) (mi := mi1) (T := T1) (B := B1) (df := df) hn hb hk h2
  rw [← eB3] at hk3
  rw [← eB3] at hb3
  rw [← eB] at ha
  obtain ⟨a1, ea1⟩ : ∃ z, z = (thX (smX n (B1 7) (roX n (lyT n (B1 7) T) (hd b) ro) k 1) (absX (detX n (lyT n (B1 7) T)))) := ⟨_, rfl⟩
  obtain ⟨a2, ea2⟩ : ∃ z, z = (thX (smX n (B3 7) (roX n (lyT n (B3 7) T1) (hd b) ro1) k 1) (absX (detX n (lyT n (B3 7) T1)))) := ⟨_, rfl⟩
  rw [← ea1] at hk1 ha ⊢
  rw [← ea2] at hk3 hb3 ⊢
  refine ⟨be3, de3, sz3, ro3, co3, mi3, T3, ?_⟩
  refine PX2_blame (Nat.le_of_ble_eq_true rfl) ?_
  intro G hT hC hR
  refine mB hT 2 rfl ?_
  refine hC.1 _ 0 [_] _ _ _ _ _ (c_isVersion_t (i := 5) hv hvs) rfl rfl (Nat.le_of_ble_eq_true rfl) rfl ?_
  refine mB hT 2 rfl ?_
  refine hC.2.1 _ [_] _ _ _ _ (c_isBasket_t hb) rfl (Nat.le_of_ble_eq_true rfl) rfl ?_
  refine mB hT 2 rfl ?_
  refine hC.2.2.1 _ [_] _ _ _ _ (c_isStuff_t hk) rfl (Nat.le_of_ble_eq_true rfl) rfl ?_
  refine mB hT 3 rfl ?_
  refine hC.2.2.2.1 _ 0 [_] _ _ _ _ _ (c_isMaking_t (i := 1) hi hn) rfl rfl (Nat.le_of_ble_eq_true rfl) rfl ?_
  refine mB hT 8 rfl ?_
  refine hC.2.2.2.2.1 _ 0 [_, _, _, _] _ _ _ _ _ (hk1) rfl rfl (Nat.le_of_ble_eq_true rfl) rfl ?_
  refine mB hT 6 rfl ?_
  refine hC.2.2.2.2.2 _ 0 [_, _, _, _] _ _ _ _ _ (hk3) rfl rfl (Nat.le_of_ble_eq_true rfl) rfl ?_
  refine mB hT 5 rfl ?_
  refine mIf (fun hp => absurd hp (fun q => ha (lc_eq.mp q))) (fun _ => ?_)
  refine mNf (lv2 := [(7, .long a2), (5, .long a1), (0, .ref 0), (1, .int 5), (2, .int (Int32.ofNat b)), (3, .int (Int32.ofNat k)), (4, .int 1)]) (st2 := []) rfl rfl ?_
  refine mB hT 4 rfl ?_
  refine mIf (fun hp => absurd hp (fun q => hb3 (lc_eq.mp q))) (fun _ => ?_)
  refine mB hT 3 rfl ?_
  exact hR _ (by decide) _ _ _ rfl rfl
set_option maxRecDepth 20000 in
theorem x_blame_A_5_2 {n vs : Nat} {be de : Int64} {sz : Int32} {ro co mi : Nat → Int64} {T : Nat → Nat → Int64} {B : Nat → Nat → Nat → Int32} {hd : Nat → Nat → Int32} {df : Nat → Int32} (hv : 5 < vs) (hvs : vs ≤ 6) (hi : 2 < n) (hn : n ≤ 4) {b : Nat} (hb : b < 4) {k : Nat} (hk : k < 3) (h1 : detX n (lyT n ((cpX (cpX B 7 6 0 3) 7 5 3 4) 7) T) = 0) : ∃ (be4 de4 : Int64) (sz4 : Int32) (ro4 co4 mi4 : Nat → Int64) (T4 : Nat → Nat → Int64), KX2_blame l D ca ad [.ref 0, .int 5, .int (Int32.ofNat b), .int (Int32.ofNat k), .int 2] (XW (Int32.ofNat n) (Int32.ofNat vs) be de sz ro co mi T B hd df) (some (.long (-9000000000000000004))) (XW (Int32.ofNat n) (Int32.ofNat vs) be4 de4 sz4 ro4 co4 mi4 T4 (cpX (cpX (cpX (cpX B 7 6 0 3) 7 5 3 4) 7 6 0 2) 7 5 2 4) hd df) := by
  obtain ⟨B1, eB⟩ : ∃ z, z = (cpX (cpX B 7 6 0 3) 7 5 3 4) := ⟨_, rfl⟩
  obtain ⟨B3, eB3⟩ : ∃ z, z = (cpX (cpX B1 7 6 0 2) 7 5 2 4) := ⟨_, rfl⟩
  rw [← eB, ← eB3]
  obtain ⟨be1, de1, sz1, ro1, co1, mi1, T1, hk1⟩ := x_mixed_B_5_3 (l := l) (D := D) (ca := ca) (ad := ad) (vs := vs) (be := be) (de := de) (sz := sz) (ro := ro) (co := co) (mi := mi) (df := df) hn hb hk h1
  rw [← eB] at hk1
  by_cases h2 : detX n (lyT n ((cpX (cpX B1 7 6 0 2) 7 5 2 4) 7) T1) = 0
  · obtain ⟨be3, de3, sz3, ro3, co3, mi3, T3, hk3⟩ := x_mixed_B_5_2 (l := l) (D := D) (ca := ca) (ad := ad) (vs := vs) (be := be1) (de := de1) (sz := sz1) (ro := ro1) (co := co1) (mi := mi1) (T := T1) (B := B1) (df := df) hn hb hk h2
    rw [← eB3] at hk3
    refine ⟨be3, de3, sz3, ro3, co3, mi3, T3, ?_⟩
    refine PX2_blame (Nat.le_of_ble_eq_true rfl) ?_
    intro G hT hC hR
    refine mB hT 2 rfl ?_
    refine hC.1 _ 0 [_] _ _ _ _ _ (c_isVersion_t (i := 5) hv hvs) rfl rfl (Nat.le_of_ble_eq_true rfl) rfl ?_
    refine mB hT 2 rfl ?_
    refine hC.2.1 _ [_] _ _ _ _ (c_isBasket_t hb) rfl (Nat.le_of_ble_eq_true rfl) rfl ?_
    refine mB hT 2 rfl ?_
    refine hC.2.2.1 _ [_] _ _ _ _ (c_isStuff_t hk) rfl (Nat.le_of_ble_eq_true rfl) rfl ?_
    refine mB hT 3 rfl ?_
    refine hC.2.2.2.1 _ 0 [_] _ _ _ _ _ (c_isMaking_t (i := 2) hi hn) rfl rfl (Nat.le_of_ble_eq_true rfl) rfl ?_
    refine mB hT 8 rfl ?_
    refine hC.2.2.2.2.1 _ 0 [_, _, _, _] _ _ _ _ _ (hk1) rfl rfl (Nat.le_of_ble_eq_true rfl) rfl ?_
    refine mB hT 6 rfl ?_
    refine hC.2.2.2.2.2 _ 0 [_, _, _, _] _ _ _ _ _ (hk3) rfl rfl (Nat.le_of_ble_eq_true rfl) rfl ?_
    refine mB hT 6 rfl ?_
    exact hR _ (by decide) _ _ _ rfl rfl
  · obtain ⟨be3, de3, sz3, ro3, co3, mi3, T3, hk3⟩ := x_mixed_5_2 (l := l) (D := D) (ca := ca) (ad := ad) (vs := vs) (be := be1) (de := de1) (sz := sz1) (ro := ro1) (co := co1) (mi := mi1) (T := T1) (B := B1) (df := df) hn hb hk h2
    rw [← eB3] at hk3
    generalize thX _ _ = a2 at hk3
    refine ⟨be3, de3, sz3, ro3, co3, mi3, T3, ?_⟩
    refine PX2_blame (Nat.le_of_ble_eq_true rfl) ?_
    intro G hT hC hR
    refine mB hT 2 rfl ?_
    refine hC.1 _ 0 [_] _ _ _ _ _ (c_isVersion_t (i := 5) hv hvs) rfl rfl (Nat.le_of_ble_eq_true rfl) rfl ?_
    refine mB hT 2 rfl ?_
    refine hC.2.1 _ [_] _ _ _ _ (c_isBasket_t hb) rfl (Nat.le_of_ble_eq_true rfl) rfl ?_
    refine mB hT 2 rfl ?_
    refine hC.2.2.1 _ [_] _ _ _ _ (c_isStuff_t hk) rfl (Nat.le_of_ble_eq_true rfl) rfl ?_
    refine mB hT 3 rfl ?_
    refine hC.2.2.2.1 _ 0 [_] _ _ _ _ _ (c_isMaking_t (i := 2) hi hn) rfl rfl (Nat.le_of_ble_eq_true rfl) rfl ?_
    refine mB hT 8 rfl ?_
    refine hC.2.2.2.2.1 _ 0 [_, _, _, _] _ _ _ _ _ (hk1) rfl rfl (Nat.le_of_ble_eq_true rfl) rfl ?_
    refine mB hT 6 rfl ?_
    refine hC.2.2.2.2.2 _ 0 [_, _, _, _] _ _ _ _ _ (hk3) rfl rfl (Nat.le_of_ble_eq_true rfl) rfl ?_
    refine mB hT 6 rfl ?_
    exact hR _ (by decide) _ _ _ rfl rfl
set_option maxRecDepth 20000 in
theorem x_blame_B_5_2 {n vs : Nat} {be de : Int64} {sz : Int32} {ro co mi : Nat → Int64} {T : Nat → Nat → Int64} {B : Nat → Nat → Nat → Int32} {hd : Nat → Nat → Int32} {df : Nat → Int32} (hv : 5 < vs) (hvs : vs ≤ 6) (hi : 2 < n) (hn : n ≤ 4) {b : Nat} (hb : b < 4) {k : Nat} (hk : k < 3) (h1 : ¬ detX n (lyT n ((cpX (cpX B 7 6 0 3) 7 5 3 4) 7) T) = 0) (h2a : ∀ T2 : Nat → Nat → Int64, detX n (lyT n ((cpX (cpX (cpX (cpX B 7 6 0 3) 7 5 3 4) 7 6 0 2) 7 5 2 4) 7) T2) = 0) : ∃ (be4 de4 : Int64) (sz4 : Int32) (ro4 co4 mi4 : Nat → Int64) (T4 : Nat → Nat → Int64), KX2_blame l D ca ad [.ref 0, .int 5, .int (Int32.ofNat b), .int (Int32.ofNat k), .int 2] (XW (Int32.ofNat n) (Int32.ofNat vs) be de sz ro co mi T B hd df) (some (.long (-9000000000000000004))) (XW (Int32.ofNat n) (Int32.ofNat vs) be4 de4 sz4 ro4 co4 mi4 T4 (cpX (cpX (cpX (cpX B 7 6 0 3) 7 5 3 4) 7 6 0 2) 7 5 2 4) hd df) := by
  obtain ⟨B1, eB⟩ : ∃ z, z = (cpX (cpX B 7 6 0 3) 7 5 3 4) := ⟨_, rfl⟩
  obtain ⟨B3, eB3⟩ : ∃ z, z = (cpX (cpX B1 7 6 0 2) 7 5 2 4) := ⟨_, rfl⟩
  rw [← eB] at h2a
  rw [← eB, ← eB3]
  obtain ⟨be1, de1, sz1, ro1, co1, mi1, T1, hk1⟩ := x_mixed_5_3 (l := l) (D := D) (ca := ca) (ad := ad) (vs := vs) (be := be) (de := de) (sz := sz) (ro := ro) (co := co) (mi := mi) (df := df) hn hb hk h1
  rw [← eB] at hk1
  generalize thX _ _ = a1 at hk1
  have h2 := h2a T1
  obtain ⟨be3, de3, sz3, ro3, co3, mi3, T3, hk3⟩ := x_mixed_B_5_2 (l := l) (D := D) (ca := ca) (ad := ad) (vs := vs) (be := be1) (de := de1) (sz := sz1) (ro := ro1) (co := co1) (mi := mi1) (T := T1) (B := B1) (df := df) hn hb hk h2
  rw [← eB3] at hk3
  refine ⟨be3, de3, sz3, ro3, co3, mi3, T3, ?_⟩
  refine PX2_blame (Nat.le_of_ble_eq_true rfl) ?_
  intro G hT hC hR
  refine mB hT 2 rfl ?_
  refine hC.1 _ 0 [_] _ _ _ _ _ (c_isVersion_t (i := 5) hv hvs) rfl rfl (Nat.le_of_ble_eq_true rfl) rfl ?_
  refine mB hT 2 rfl ?_
  refine hC.2.1 _ [_] _ _ _ _ (c_isBasket_t hb) rfl (Nat.le_of_ble_eq_true rfl) rfl ?_
  refine mB hT 2 rfl ?_
  refine hC.2.2.1 _ [_] _ _ _ _ (c_isStuff_t hk) rfl (Nat.le_of_ble_eq_true rfl) rfl ?_
  refine mB hT 3 rfl ?_
  refine hC.2.2.2.1 _ 0 [_] _ _ _ _ _ (c_isMaking_t (i := 2) hi hn) rfl rfl (Nat.le_of_ble_eq_true rfl) rfl ?_
  refine mB hT 8 rfl ?_
  refine hC.2.2.2.2.1 _ 0 [_, _, _, _] _ _ _ _ _ (hk1) rfl rfl (Nat.le_of_ble_eq_true rfl) rfl ?_
  refine mB hT 6 rfl ?_
  refine hC.2.2.2.2.2 _ 0 [_, _, _, _] _ _ _ _ _ (hk3) rfl rfl (Nat.le_of_ble_eq_true rfl) rfl ?_
  refine mB hT 5 rfl ?_
  refine mIf (fun h1 => ?_) (fun h1 => ?_)
  · refine mNf (lv2 := [(7, .long (-9000000000000000004)), (5, .long a1), (0, .ref 0), (1, .int 5), (2, .int (Int32.ofNat b)), (3, .int (Int32.ofNat k)), (4, .int 2)]) (st2 := []) rfl rfl ?_
    refine mB hT 1 rfl ?_
    exact hR _ (by decide) _ _ _ rfl rfl
  · refine mNf (lv2 := [(7, .long (-9000000000000000004)), (5, .long a1), (0, .ref 0), (1, .int 5), (2, .int (Int32.ofNat b)), (3, .int (Int32.ofNat k)), (4, .int 2)]) (st2 := []) rfl rfl ?_
    refine mB hT 5 rfl ?_
    exact hR _ (by decide) _ _ _ rfl rfl
set_option maxRecDepth 20000 in
theorem x_blame_C_5_2 {n vs : Nat} {be de : Int64} {sz : Int32} {ro co mi : Nat → Int64} {T : Nat → Nat → Int64} {B : Nat → Nat → Nat → Int32} {hd : Nat → Nat → Int32} {df : Nat → Int32} (hv : 5 < vs) (hvs : vs ≤ 6) (hi : 2 < n) (hn : n ≤ 4) {b : Nat} (hb : b < 4) {k : Nat} (hk : k < 3) (h1 : ¬ detX n (lyT n ((cpX (cpX B 7 6 0 3) 7 5 3 4) 7) T) = 0) (h2a : ∀ T2 : Nat → Nat → Int64, ¬ detX n (lyT n ((cpX (cpX (cpX (cpX B 7 6 0 3) 7 5 3 4) 7 6 0 2) 7 5 2 4) 7) T2) = 0) (ha : ¬ (thX (smX n ((cpX (cpX B 7 6 0 3) 7 5 3 4) 7) (roX n (lyT n ((cpX (cpX B 7 6 0 3) 7 5 3 4) 7) T) (hd b) ro) k 1) (absX (detX n (lyT n ((cpX (cpX B 7 6 0 3) 7 5 3 4) 7) T)))) = -9000000000000000004) (hb2 : ∀ (T2 : Nat → Nat → Int64) (ro2 : Nat → Int64), ¬ (thX (smX n ((cpX (cpX (cpX (cpX B 7 6 0 3) 7 5 3 4) 7 6 0 2) 7 5 2 4) 7) (roX n (lyT n ((cpX (cpX (cpX (cpX B 7 6 0 3) 7 5 3 4) 7 6 0 2) 7 5 2 4) 7) T2) (hd b) ro2) k 1) (absX (detX n (lyT n ((cpX (cpX (cpX (cpX B 7 6 0 3) 7 5 3 4) 7 6 0 2) 7 5 2 4) 7) T2)))) = -9000000000000000004) : ∃ (T2 : Nat → Nat → Int64) (ro2 : Nat → Int64), ∃ (be4 de4 : Int64) (sz4 : Int32) (ro4 co4 mi4 : Nat → Int64) (T4 : Nat → Nat → Int64), KX2_blame l D ca ad [.ref 0, .int 5, .int (Int32.ofNat b), .int (Int32.ofNat k), .int 2] (XW (Int32.ofNat n) (Int32.ofNat vs) be de sz ro co mi T B hd df) (some (.long ((thX (smX n ((cpX (cpX B 7 6 0 3) 7 5 3 4) 7) (roX n (lyT n ((cpX (cpX B 7 6 0 3) 7 5 3 4) 7) T) (hd b) ro) k 1) (absX (detX n (lyT n ((cpX (cpX B 7 6 0 3) 7 5 3 4) 7) T)))) - (thX (smX n ((cpX (cpX (cpX (cpX B 7 6 0 3) 7 5 3 4) 7 6 0 2) 7 5 2 4) 7) (roX n (lyT n ((cpX (cpX (cpX (cpX B 7 6 0 3) 7 5 3 4) 7 6 0 2) 7 5 2 4) 7) T2) (hd b) ro2) k 1) (absX (detX n (lyT n ((cpX (cpX (cpX (cpX B 7 6 0 3) 7 5 3 4) 7 6 0 2) 7 5 2 4) 7) T2))))))) (XW (Int32.ofNat n) (Int32.ofNat vs) be4 de4 sz4 ro4 co4 mi4 T4 (cpX (cpX (cpX (cpX B 7 6 0 3) 7 5 3 4) 7 6 0 2) 7 5 2 4) hd df) := by
  obtain ⟨B1, eB⟩ : ∃ z, z = (cpX (cpX B 7 6 0 3) 7 5 3 4) := ⟨_, rfl⟩
  obtain ⟨B3, eB3⟩ : ∃ z, z = (cpX (cpX B1 7 6 0 2) 7 5 2 4) := ⟨_, rfl⟩
  obtain ⟨be1, de1, sz1, ro1, co1, mi1, T1, hk1⟩ := x_mixed_5_3 (l := l) (D := D) (ca := ca) (ad := ad) (vs := vs) (be := be) (de := de) (sz := sz) (ro := ro) (co := co) (mi := mi) (df := df) hn hb hk h1
  refine ⟨T1, ro1, ?_⟩
  have hb3 := hb2 T1 ro1
  rw [← eB] at h2a hk1 hb3
  rw [← eB, ← eB3]
  have h2 := h2a T1
  obtain ⟨be3, de3, sz3, ro3, co3, mi3, T3, hk3⟩ := x_mixed_5_2 (l := l) (D := D) (ca := ca) (ad := ad) (vs := vs) (be := be1) (de := de1) (sz := sz1) (ro := ro1) (co := co1) (mi := mi1) (T := T1) (B := B1) (df := df) hn hb hk h2
  rw [← eB3] at hk3
  rw [← eB3] at hb3
  rw [← eB] at ha
  obtain ⟨a1, ea1⟩ : ∃ z, z = (thX (smX n (B1 7) (roX n (lyT n (B1 7) T) (hd b) ro) k 1) (absX (detX n (lyT n (B1 7) T)))) := ⟨_, rfl⟩
  obtain ⟨a2, ea2⟩ : ∃ z, z = (thX (smX n (B3 7) (roX n (lyT n (B3 7) T1) (hd b) ro1) k 1) (absX (detX n (lyT n (B3 7) T1)))) := ⟨_, rfl⟩
  rw [← ea1] at hk1 ha ⊢
  rw [← ea2] at hk3 hb3 ⊢
  refine ⟨be3, de3, sz3, ro3, co3, mi3, T3, ?_⟩
  refine PX2_blame (Nat.le_of_ble_eq_true rfl) ?_
  intro G hT hC hR
  refine mB hT 2 rfl ?_
  refine hC.1 _ 0 [_] _ _ _ _ _ (c_isVersion_t (i := 5) hv hvs) rfl rfl (Nat.le_of_ble_eq_true rfl) rfl ?_
  refine mB hT 2 rfl ?_
  refine hC.2.1 _ [_] _ _ _ _ (c_isBasket_t hb) rfl (Nat.le_of_ble_eq_true rfl) rfl ?_
  refine mB hT 2 rfl ?_
  refine hC.2.2.1 _ [_] _ _ _ _ (c_isStuff_t hk) rfl (Nat.le_of_ble_eq_true rfl) rfl ?_
  refine mB hT 3 rfl ?_
  refine hC.2.2.2.1 _ 0 [_] _ _ _ _ _ (c_isMaking_t (i := 2) hi hn) rfl rfl (Nat.le_of_ble_eq_true rfl) rfl ?_
  refine mB hT 8 rfl ?_
  refine hC.2.2.2.2.1 _ 0 [_, _, _, _] _ _ _ _ _ (hk1) rfl rfl (Nat.le_of_ble_eq_true rfl) rfl ?_
  refine mB hT 6 rfl ?_
  refine hC.2.2.2.2.2 _ 0 [_, _, _, _] _ _ _ _ _ (hk3) rfl rfl (Nat.le_of_ble_eq_true rfl) rfl ?_
  refine mB hT 5 rfl ?_
  refine mIf (fun hp => absurd hp (fun q => ha (lc_eq.mp q))) (fun _ => ?_)
  refine mNf (lv2 := [(7, .long a2), (5, .long a1), (0, .ref 0), (1, .int 5), (2, .int (Int32.ofNat b)), (3, .int (Int32.ofNat k)), (4, .int 2)]) (st2 := []) rfl rfl ?_
  refine mB hT 4 rfl ?_
  refine mIf (fun hp => absurd hp (fun q => hb3 (lc_eq.mp q))) (fun _ => ?_)
  refine mB hT 3 rfl ?_
  exact hR _ (by decide) _ _ _ rfl rfl
set_option maxRecDepth 20000 in
theorem x_blame_A_5_3 {n vs : Nat} {be de : Int64} {sz : Int32} {ro co mi : Nat → Int64} {T : Nat → Nat → Int64} {B : Nat → Nat → Nat → Int32} {hd : Nat → Nat → Int32} {df : Nat → Int32} (hv : 5 < vs) (hvs : vs ≤ 6) (hi : 3 < n) (hn : n ≤ 4) {b : Nat} (hb : b < 4) {k : Nat} (hk : k < 3) (h1 : detX n (lyT n ((cpX (cpX B 7 6 0 4) 7 5 4 4) 7) T) = 0) : ∃ (be4 de4 : Int64) (sz4 : Int32) (ro4 co4 mi4 : Nat → Int64) (T4 : Nat → Nat → Int64), KX2_blame l D ca ad [.ref 0, .int 5, .int (Int32.ofNat b), .int (Int32.ofNat k), .int 3] (XW (Int32.ofNat n) (Int32.ofNat vs) be de sz ro co mi T B hd df) (some (.long (-9000000000000000004))) (XW (Int32.ofNat n) (Int32.ofNat vs) be4 de4 sz4 ro4 co4 mi4 T4 (cpX (cpX (cpX (cpX B 7 6 0 4) 7 5 4 4) 7 6 0 3) 7 5 3 4) hd df) := by
  obtain ⟨B1, eB⟩ : ∃ z, z = (cpX (cpX B 7 6 0 4) 7 5 4 4) := ⟨_, rfl⟩
  obtain ⟨B3, eB3⟩ : ∃ z, z = (cpX (cpX B1 7 6 0 3) 7 5 3 4) := ⟨_, rfl⟩
  rw [← eB, ← eB3]
  obtain ⟨be1, de1, sz1, ro1, co1, mi1, T1, hk1⟩ := x_mixed_B_5_4 (l := l) (D := D) (ca := ca) (ad := ad) (vs := vs) (be := be) (de := de) (sz := sz) (ro := ro) (co := co) (mi := mi) (df := df) hn hb hk h1
  rw [← eB] at hk1
  by_cases h2 : detX n (lyT n ((cpX (cpX B1 7 6 0 3) 7 5 3 4) 7) T1) = 0
  · obtain ⟨be3, de3, sz3, ro3, co3, mi3, T3, hk3⟩ := x_mixed_B_5_3 (l := l) (D := D) (ca := ca) (ad := ad) (vs := vs) (be := be1) (de := de1) (sz := sz1) (ro := ro1) (co := co1) (mi := mi1) (T := T1) (B := B1) (df := df) hn hb hk h2
    rw [← eB3] at hk3
    refine ⟨be3, de3, sz3, ro3, co3, mi3, T3, ?_⟩
    refine PX2_blame (Nat.le_of_ble_eq_true rfl) ?_
    intro G hT hC hR
    refine mB hT 2 rfl ?_
    refine hC.1 _ 0 [_] _ _ _ _ _ (c_isVersion_t (i := 5) hv hvs) rfl rfl (Nat.le_of_ble_eq_true rfl) rfl ?_
    refine mB hT 2 rfl ?_
    refine hC.2.1 _ [_] _ _ _ _ (c_isBasket_t hb) rfl (Nat.le_of_ble_eq_true rfl) rfl ?_
    refine mB hT 2 rfl ?_
    refine hC.2.2.1 _ [_] _ _ _ _ (c_isStuff_t hk) rfl (Nat.le_of_ble_eq_true rfl) rfl ?_
    refine mB hT 3 rfl ?_
    refine hC.2.2.2.1 _ 0 [_] _ _ _ _ _ (c_isMaking_t (i := 3) hi hn) rfl rfl (Nat.le_of_ble_eq_true rfl) rfl ?_
    refine mB hT 8 rfl ?_
    refine hC.2.2.2.2.1 _ 0 [_, _, _, _] _ _ _ _ _ (hk1) rfl rfl (Nat.le_of_ble_eq_true rfl) rfl ?_
    refine mB hT 6 rfl ?_
    refine hC.2.2.2.2.2 _ 0 [_, _, _, _] _ _ _ _ _ (hk3) rfl rfl (Nat.le_of_ble_eq_true rfl) rfl ?_
    refine mB hT 6 rfl ?_
    exact hR _ (by decide) _ _ _ rfl rfl
  · obtain ⟨be3, de3, sz3, ro3, co3, mi3, T3, hk3⟩ := x_mixed_5_3 (l := l) (D := D) (ca := ca) (ad := ad) (vs := vs) (be := be1) (de := de1) (sz := sz1) (ro := ro1) (co := co1) (mi := mi1) (T := T1) (B := B1) (df := df) hn hb hk h2
    rw [← eB3] at hk3
    generalize thX _ _ = a2 at hk3
    refine ⟨be3, de3, sz3, ro3, co3, mi3, T3, ?_⟩
    refine PX2_blame (Nat.le_of_ble_eq_true rfl) ?_
    intro G hT hC hR
    refine mB hT 2 rfl ?_
    refine hC.1 _ 0 [_] _ _ _ _ _ (c_isVersion_t (i := 5) hv hvs) rfl rfl (Nat.le_of_ble_eq_true rfl) rfl ?_
    refine mB hT 2 rfl ?_
    refine hC.2.1 _ [_] _ _ _ _ (c_isBasket_t hb) rfl (Nat.le_of_ble_eq_true rfl) rfl ?_
    refine mB hT 2 rfl ?_
    refine hC.2.2.1 _ [_] _ _ _ _ (c_isStuff_t hk) rfl (Nat.le_of_ble_eq_true rfl) rfl ?_
    refine mB hT 3 rfl ?_
    refine hC.2.2.2.1 _ 0 [_] _ _ _ _ _ (c_isMaking_t (i := 3) hi hn) rfl rfl (Nat.le_of_ble_eq_true rfl) rfl ?_
    refine mB hT 8 rfl ?_
    refine hC.2.2.2.2.1 _ 0 [_, _, _, _] _ _ _ _ _ (hk1) rfl rfl (Nat.le_of_ble_eq_true rfl) rfl ?_
    refine mB hT 6 rfl ?_
    refine hC.2.2.2.2.2 _ 0 [_, _, _, _] _ _ _ _ _ (hk3) rfl rfl (Nat.le_of_ble_eq_true rfl) rfl ?_
    refine mB hT 6 rfl ?_
    exact hR _ (by decide) _ _ _ rfl rfl
set_option maxRecDepth 20000 in
theorem x_blame_B_5_3 {n vs : Nat} {be de : Int64} {sz : Int32} {ro co mi : Nat → Int64} {T : Nat → Nat → Int64} {B : Nat → Nat → Nat → Int32} {hd : Nat → Nat → Int32} {df : Nat → Int32} (hv : 5 < vs) (hvs : vs ≤ 6) (hi : 3 < n) (hn : n ≤ 4) {b : Nat} (hb : b < 4) {k : Nat} (hk : k < 3) (h1 : ¬ detX n (lyT n ((cpX (cpX B 7 6 0 4) 7 5 4 4) 7) T) = 0) (h2a : ∀ T2 : Nat → Nat → Int64, detX n (lyT n ((cpX (cpX (cpX (cpX B 7 6 0 4) 7 5 4 4) 7 6 0 3) 7 5 3 4) 7) T2) = 0) : ∃ (be4 de4 : Int64) (sz4 : Int32) (ro4 co4 mi4 : Nat → Int64) (T4 : Nat → Nat → Int64), KX2_blame l D ca ad [.ref 0, .int 5, .int (Int32.ofNat b), .int (Int32.ofNat k), .int 3] (XW (Int32.ofNat n) (Int32.ofNat vs) be de sz ro co mi T B hd df) (some (.long (-9000000000000000004))) (XW (Int32.ofNat n) (Int32.ofNat vs) be4 de4 sz4 ro4 co4 mi4 T4 (cpX (cpX (cpX (cpX B 7 6 0 4) 7 5 4 4) 7 6 0 3) 7 5 3 4) hd df) := by
  obtain ⟨B1, eB⟩ : ∃ z, z = (cpX (cpX B 7 6 0 4) 7 5 4 4) := ⟨_, rfl⟩
  obtain ⟨B3, eB3⟩ : ∃ z, z = (cpX (cpX B1 7 6 0 3) 7 5 3 4) := ⟨_, rfl⟩
  rw [← eB] at h2a
  rw [← eB, ← eB3]
  obtain ⟨be1, de1, sz1, ro1, co1, mi1, T1, hk1⟩ := x_mixed_5_4 (l := l) (D := D) (ca := ca) (ad := ad) (vs := vs) (be := be) (de := de) (sz := sz) (ro := ro) (co := co) (mi := mi) (df := df) hn hb hk h1
  rw [← eB] at hk1
  generalize thX _ _ = a1 at hk1
  have h2 := h2a T1
  obtain ⟨be3, de3, sz3, ro3, co3, mi3, T3, hk3⟩ := x_mixed_B_5_3 (l := l) (D := D) (ca := ca) (ad := ad) (vs := vs) (be := be1) (de := de1) (sz := sz1) (ro := ro1) (co := co1) (mi := mi1) (T := T1) (B := B1) (df := df) hn hb hk h2
  rw [← eB3] at hk3
  refine ⟨be3, de3, sz3, ro3, co3, mi3, T3, ?_⟩
  refine PX2_blame (Nat.le_of_ble_eq_true rfl) ?_
  intro G hT hC hR
  refine mB hT 2 rfl ?_
  refine hC.1 _ 0 [_] _ _ _ _ _ (c_isVersion_t (i := 5) hv hvs) rfl rfl (Nat.le_of_ble_eq_true rfl) rfl ?_
  refine mB hT 2 rfl ?_
  refine hC.2.1 _ [_] _ _ _ _ (c_isBasket_t hb) rfl (Nat.le_of_ble_eq_true rfl) rfl ?_
  refine mB hT 2 rfl ?_
  refine hC.2.2.1 _ [_] _ _ _ _ (c_isStuff_t hk) rfl (Nat.le_of_ble_eq_true rfl) rfl ?_
  refine mB hT 3 rfl ?_
  refine hC.2.2.2.1 _ 0 [_] _ _ _ _ _ (c_isMaking_t (i := 3) hi hn) rfl rfl (Nat.le_of_ble_eq_true rfl) rfl ?_
  refine mB hT 8 rfl ?_
  refine hC.2.2.2.2.1 _ 0 [_, _, _, _] _ _ _ _ _ (hk1) rfl rfl (Nat.le_of_ble_eq_true rfl) rfl ?_
  refine mB hT 6 rfl ?_
  refine hC.2.2.2.2.2 _ 0 [_, _, _, _] _ _ _ _ _ (hk3) rfl rfl (Nat.le_of_ble_eq_true rfl) rfl ?_
  refine mB hT 5 rfl ?_
  refine mIf (fun h1 => ?_) (fun h1 => ?_)
  · refine mNf (lv2 := [(7, .long (-9000000000000000004)), (5, .long a1), (0, .ref 0), (1, .int 5), (2, .int (Int32.ofNat b)), (3, .int (Int32.ofNat k)), (4, .int 3)]) (st2 := []) rfl rfl ?_
    refine mB hT 1 rfl ?_
    exact hR _ (by decide) _ _ _ rfl rfl
  · refine mNf (lv2 := [(7, .long (-9000000000000000004)), (5, .long a1), (0, .ref 0), (1, .int 5), (2, .int (Int32.ofNat b)), (3, .int (Int32.ofNat k)), (4, .int 3)]) (st2 := []) rfl rfl ?_
    refine mB hT 5 rfl ?_
    exact hR _ (by decide) _ _ _ rfl rfl
set_option maxRecDepth 20000 in
theorem x_blame_C_5_3 {n vs : Nat} {be de : Int64} {sz : Int32} {ro co mi : Nat → Int64} {T : Nat → Nat → Int64} {B : Nat → Nat → Nat → Int32} {hd : Nat → Nat → Int32} {df : Nat → Int32} (hv : 5 < vs) (hvs : vs ≤ 6) (hi : 3 < n) (hn : n ≤ 4) {b : Nat} (hb : b < 4) {k : Nat} (hk : k < 3) (h1 : ¬ detX n (lyT n ((cpX (cpX B 7 6 0 4) 7 5 4 4) 7) T) = 0) (h2a : ∀ T2 : Nat → Nat → Int64, ¬ detX n (lyT n ((cpX (cpX (cpX (cpX B 7 6 0 4) 7 5 4 4) 7 6 0 3) 7 5 3 4) 7) T2) = 0) (ha : ¬ (thX (smX n ((cpX (cpX B 7 6 0 4) 7 5 4 4) 7) (roX n (lyT n ((cpX (cpX B 7 6 0 4) 7 5 4 4) 7) T) (hd b) ro) k 1) (absX (detX n (lyT n ((cpX (cpX B 7 6 0 4) 7 5 4 4) 7) T)))) = -9000000000000000004) (hb2 : ∀ (T2 : Nat → Nat → Int64) (ro2 : Nat → Int64), ¬ (thX (smX n ((cpX (cpX (cpX (cpX B 7 6 0 4) 7 5 4 4) 7 6 0 3) 7 5 3 4) 7) (roX n (lyT n ((cpX (cpX (cpX (cpX B 7 6 0 4) 7 5 4 4) 7 6 0 3) 7 5 3 4) 7) T2) (hd b) ro2) k 1) (absX (detX n (lyT n ((cpX (cpX (cpX (cpX B 7 6 0 4) 7 5 4 4) 7 6 0 3) 7 5 3 4) 7) T2)))) = -9000000000000000004) : ∃ (T2 : Nat → Nat → Int64) (ro2 : Nat → Int64), ∃ (be4 de4 : Int64) (sz4 : Int32) (ro4 co4 mi4 : Nat → Int64) (T4 : Nat → Nat → Int64), KX2_blame l D ca ad [.ref 0, .int 5, .int (Int32.ofNat b), .int (Int32.ofNat k), .int 3] (XW (Int32.ofNat n) (Int32.ofNat vs) be de sz ro co mi T B hd df) (some (.long ((thX (smX n ((cpX (cpX B 7 6 0 4) 7 5 4 4) 7) (roX n (lyT n ((cpX (cpX B 7 6 0 4) 7 5 4 4) 7) T) (hd b) ro) k 1) (absX (detX n (lyT n ((cpX (cpX B 7 6 0 4) 7 5 4 4) 7) T)))) - (thX (smX n ((cpX (cpX (cpX (cpX B 7 6 0 4) 7 5 4 4) 7 6 0 3) 7 5 3 4) 7) (roX n (lyT n ((cpX (cpX (cpX (cpX B 7 6 0 4) 7 5 4 4) 7 6 0 3) 7 5 3 4) 7) T2) (hd b) ro2) k 1) (absX (detX n (lyT n ((cpX (cpX (cpX (cpX B 7 6 0 4) 7 5 4 4) 7 6 0 3) 7 5 3 4) 7) T2))))))) (XW (Int32.ofNat n) (Int32.ofNat vs) be4 de4 sz4 ro4 co4 mi4 T4 (cpX (cpX (cpX (cpX B 7 6 0 4) 7 5 4 4) 7 6 0 3) 7 5 3 4) hd df) := by
  obtain ⟨B1, eB⟩ : ∃ z, z = (cpX (cpX B 7 6 0 4) 7 5 4 4) := ⟨_, rfl⟩
  obtain ⟨B3, eB3⟩ : ∃ z, z = (cpX (cpX B1 7 6 0 3) 7 5 3 4) := ⟨_, rfl⟩
  obtain ⟨be1, de1, sz1, ro1, co1, mi1, T1, hk1⟩ := x_mixed_5_4 (l := l) (D := D) (ca := ca) (ad := ad) (vs := vs) (be := be) (de := de) (sz := sz) (ro := ro) (co := co) (mi := mi) (df := df) hn hb hk h1
  refine ⟨T1, ro1, ?_⟩
  have hb3 := hb2 T1 ro1
  rw [← eB] at h2a hk1 hb3
  rw [← eB, ← eB3]
  have h2 := h2a T1
  obtain ⟨be3, de3, sz3, ro3, co3, mi3, T3, hk3⟩ := x_mixed_5_3 (l := l) (D := D) (ca := ca) (ad := ad) (vs := vs) (be := be1) (de := de1) (sz := sz1) (ro := ro1) (co := co1) (mi := mi1) (T := T1) (B := B1) (df := df) hn hb hk h2
  rw [← eB3] at hk3
  rw [← eB3] at hb3
  rw [← eB] at ha
  obtain ⟨a1, ea1⟩ : ∃ z, z = (thX (smX n (B1 7) (roX n (lyT n (B1 7) T) (hd b) ro) k 1) (absX (detX n (lyT n (B1 7) T)))) := ⟨_, rfl⟩
  obtain ⟨a2, ea2⟩ : ∃ z, z = (thX (smX n (B3 7) (roX n (lyT n (B3 7) T1) (hd b) ro1) k 1) (absX (detX n (lyT n (B3 7) T1)))) := ⟨_, rfl⟩
  rw [← ea1] at hk1 ha ⊢
  rw [← ea2] at hk3 hb3 ⊢
  refine ⟨be3, de3, sz3, ro3, co3, mi3, T3, ?_⟩
  refine PX2_blame (Nat.le_of_ble_eq_true rfl) ?_
  intro G hT hC hR
  refine mB hT 2 rfl ?_
  refine hC.1 _ 0 [_] _ _ _ _ _ (c_isVersion_t (i := 5) hv hvs) rfl rfl (Nat.le_of_ble_eq_true rfl) rfl ?_
  refine mB hT 2 rfl ?_
  refine hC.2.1 _ [_] _ _ _ _ (c_isBasket_t hb) rfl (Nat.le_of_ble_eq_true rfl) rfl ?_
  refine mB hT 2 rfl ?_
  refine hC.2.2.1 _ [_] _ _ _ _ (c_isStuff_t hk) rfl (Nat.le_of_ble_eq_true rfl) rfl ?_
  refine mB hT 3 rfl ?_
  refine hC.2.2.2.1 _ 0 [_] _ _ _ _ _ (c_isMaking_t (i := 3) hi hn) rfl rfl (Nat.le_of_ble_eq_true rfl) rfl ?_
  refine mB hT 8 rfl ?_
  refine hC.2.2.2.2.1 _ 0 [_, _, _, _] _ _ _ _ _ (hk1) rfl rfl (Nat.le_of_ble_eq_true rfl) rfl ?_
  refine mB hT 6 rfl ?_
  refine hC.2.2.2.2.2 _ 0 [_, _, _, _] _ _ _ _ _ (hk3) rfl rfl (Nat.le_of_ble_eq_true rfl) rfl ?_
  refine mB hT 5 rfl ?_
  refine mIf (fun hp => absurd hp (fun q => ha (lc_eq.mp q))) (fun _ => ?_)
  refine mNf (lv2 := [(7, .long a2), (5, .long a1), (0, .ref 0), (1, .int 5), (2, .int (Int32.ofNat b)), (3, .int (Int32.ofNat k)), (4, .int 3)]) (st2 := []) rfl rfl ?_
  refine mB hT 4 rfl ?_
  refine mIf (fun hp => absurd hp (fun q => hb3 (lc_eq.mp q))) (fun _ => ?_)
  refine mB hT 3 rfl ?_
  exact hR _ (by decide) _ _ _ rfl rfl
end
