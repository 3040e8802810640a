def roc (n : Nat) (rr ro : Nat → Int64) : Nat → Int64 := fun i => if i < n then rr i else ro i
theorem roX_roc (n : Nat) (T : Nat → Nat → Int64) (h : Nat → Int32) (ro : Nat → Int64) : roX n T h ro = roc n (rdX n T h) ro := rfl
section
variable {l : Launch} {D : va_G} {ca : Nat → ClassId} {ad : Nat → Nat}

set_option maxRecDepth 20000 in
theorem c_solve1_6_0_0p {n vs : Int32} {be de : Int64} {sz : Int32} {ro co mi : Nat → Int64} {T : Nat → Nat → Int64} {B : Nat → Nat → Nat → Int32} {hd : Nat → Nat → Int32} {df : Nat → Int32} {ly : Nat → Nat → Int64} {dt : Int64} {rr : Nat → Int64} (ely : ly = (lyT 0 (B 6) T)) (edt : dt = detX 0 ly) (h0 : ¬ dt = 0) : ∃ (co2 mi2 : Nat → Int64), KX1_solve l D ca ad [.ref 1, .ref 10, .int 0, .ref 23] (XW n vs be de sz ro co mi T B hd df) (some (.int 1)) (XW n vs (absX dt) dt 0 (roc 0 rr ro) co2 mi2 ly B hd df) := by
  obtain ⟨m0, em0⟩ : ∃ z, z = miX 0 ly mi := ⟨_, rfl⟩
  refine ⟨co, m0, ?_⟩
  refine PX1_solve (Nat.le_of_ble_eq_true rfl) (Or.inr rfl) ?_
  intro G hT hC hR
  refine mB hT 3 rfl ?_
  refine hC.1 _ 1 [_, _] _ _ _ _ _ (show KX1_layTable l D ca ad _ _ none (XW n vs be dt 0 ro co m0 ly B hd df) from (by rw [em0, edt, ely]; exact c_lay_6_0)) rfl rfl (Nat.le_of_ble_eq_true rfl) rfl ?_
  refine mB hT 5 rfl ?_
  refine mIf (fun hp => absurd hp (fun q => h0 (lc_eq.mp q))) (fun _ => ?_)
  refine mB hT 3 rfl ?_
  refine hC.2.1 _ [_] _ _ _ _ (c_abs _) rfl (Nat.le_of_ble_eq_true rfl) rfl ?_
  refine mB hT 8 rfl ?_
  exact hR _ (by decide) _ _ _ rfl rfl
theorem c_solve1_6_0_0 {n vs : Int32} {be de : Int64} {sz : Int32} {ro co mi : Nat → Int64} {T : Nat → Nat → Int64} {B : Nat → Nat → Nat → Int32} {hd : Nat → Nat → Int32} {df : Nat → Int32} (h0 : ¬ detX 0 (lyT 0 (B 6) T) = 0) : ∃ (de2 : Int64) (co2 mi2 : Nat → Int64) (T2 : Nat → Nat → Int64), KX1_solve l D ca ad [.ref 1, .ref 10, .int 0, .ref 23] (XW n vs be de sz ro co mi T B hd df) (some (.int 1)) (XW n vs (absX (detX 0 (lyT 0 (B 6) T))) de2 0 (roX 0 (lyT 0 (B 6) T) (hd 0) ro) co2 mi2 T2 B hd df) := by
  obtain ⟨c2, m2, k⟩ := c_solve1_6_0_0p (rr := rdX 0 (lyT 0 (B 6) T) (hd 0)) rfl rfl h0
  exact ⟨_, c2, m2, _, k⟩
set_option maxRecDepth 20000 in
theorem c_solve1_6_0_1p {n vs : Int32} {be de : Int64} {sz : Int32} {ro co mi : Nat → Int64} {T : Nat → Nat → Int64} {B : Nat → Nat → Nat → Int32} {hd : Nat → Nat → Int32} {df : Nat → Int32} {ly : Nat → Nat → Int64} {dt : Int64} {rr : Nat → Int64} (ely : ly = (lyT 0 (B 6) T)) (edt : dt = detX 0 ly) (h0 : ¬ dt = 0) : ∃ (co2 mi2 : Nat → Int64), KX1_solve l D ca ad [.ref 1, .ref 10, .int 0, .ref 24] (XW n vs be de sz ro co mi T B hd df) (some (.int 1)) (XW n vs (absX dt) dt 0 (roc 0 rr ro) co2 mi2 ly B hd df) := by
  obtain ⟨m0, em0⟩ : ∃ z, z = miX 0 ly mi := ⟨_, rfl⟩
  refine ⟨co, m0, ?_⟩
  refine PX1_solve (Nat.le_of_ble_eq_true rfl) (Or.inr rfl) ?_
  intro G hT hC hR
  refine mB hT 3 rfl ?_
  refine hC.1 _ 1 [_, _] _ _ _ _ _ (show KX1_layTable l D ca ad _ _ none (XW n vs be dt 0 ro co m0 ly B hd df) from (by rw [em0, edt, ely]; exact c_lay_6_0)) rfl rfl (Nat.le_of_ble_eq_true rfl) rfl ?_
  refine mB hT 5 rfl ?_
  refine mIf (fun hp => absurd hp (fun q => h0 (lc_eq.mp q))) (fun _ => ?_)
  refine mB hT 3 rfl ?_
  refine hC.2.1 _ [_] _ _ _ _ (c_abs _) rfl (Nat.le_of_ble_eq_true rfl) rfl ?_
  refine mB hT 8 rfl ?_
  exact hR _ (by decide) _ _ _ rfl rfl
theorem c_solve1_6_0_1 {n vs : Int32} {be de : Int64} {sz : Int32} {ro co mi : Nat → Int64} {T : Nat → Nat → Int64} {B : Nat → Nat → Nat → Int32} {hd : Nat → Nat → Int32} {df : Nat → Int32} (h0 : ¬ detX 0 (lyT 0 (B 6) T) = 0) : ∃ (de2 : Int64) (co2 mi2 : Nat → Int64) (T2 : Nat → Nat → Int64), KX1_solve l D ca ad [.ref 1, .ref 10, .int 0, .ref 24] (XW n vs be de sz ro co mi T B hd df) (some (.int 1)) (XW n vs (absX (detX 0 (lyT 0 (B 6) T))) de2 0 (roX 0 (lyT 0 (B 6) T) (hd 1) ro) co2 mi2 T2 B hd df) := by
  obtain ⟨c2, m2, k⟩ := c_solve1_6_0_1p (rr := rdX 0 (lyT 0 (B 6) T) (hd 1)) rfl rfl h0
  exact ⟨_, c2, m2, _, k⟩
set_option maxRecDepth 20000 in
theorem c_solve1_6_0_2p {n vs : Int32} {be de : Int64} {sz : Int32} {ro co mi : Nat → Int64} {T : Nat → Nat → Int64} {B : Nat → Nat → Nat → Int32} {hd : Nat → Nat → Int32} {df : Nat → Int32} {ly : Nat → Nat → Int64} {dt : Int64} {rr : Nat → Int64} (ely : ly = (lyT 0 (B 6) T)) (edt : dt = detX 0 ly) (h0 : ¬ dt = 0) : ∃ (co2 mi2 : Nat → Int64), KX1_solve l D ca ad [.ref 1, .ref 10, .int 0, .ref 25] (XW n vs be de sz ro co mi T B hd df) (some (.int 1)) (XW n vs (absX dt) dt 0 (roc 0 rr ro) co2 mi2 ly B hd df) := by
  obtain ⟨m0, em0⟩ : ∃ z, z = miX 0 ly mi := ⟨_, rfl⟩
  refine ⟨co, m0, ?_⟩
  refine PX1_solve (Nat.le_of_ble_eq_true rfl) (Or.inr rfl) ?_
  intro G hT hC hR
  refine mB hT 3 rfl ?_
  refine hC.1 _ 1 [_, _] _ _ _ _ _ (show KX1_layTable l D ca ad _ _ none (XW n vs be dt 0 ro co m0 ly B hd df) from (by rw [em0, edt, ely]; exact c_lay_6_0)) rfl rfl (Nat.le_of_ble_eq_true rfl) rfl ?_
  refine mB hT 5 rfl ?_
  refine mIf (fun hp => absurd hp (fun q => h0 (lc_eq.mp q))) (fun _ => ?_)
  refine mB hT 3 rfl ?_
  refine hC.2.1 _ [_] _ _ _ _ (c_abs _) rfl (Nat.le_of_ble_eq_true rfl) rfl ?_
  refine mB hT 8 rfl ?_
  exact hR _ (by decide) _ _ _ rfl rfl
theorem c_solve1_6_0_2 {n vs : Int32} {be de : Int64} {sz : Int32} {ro co mi : Nat → Int64} {T : Nat → Nat → Int64} {B : Nat → Nat → Nat → Int32} {hd : Nat → Nat → Int32} {df : Nat → Int32} (h0 : ¬ detX 0 (lyT 0 (B 6) T) = 0) : ∃ (de2 : Int64) (co2 mi2 : Nat → Int64) (T2 : Nat → Nat → Int64), KX1_solve l D ca ad [.ref 1, .ref 10, .int 0, .ref 25] (XW n vs be de sz ro co mi T B hd df) (some (.int 1)) (XW n vs (absX (detX 0 (lyT 0 (B 6) T))) de2 0 (roX 0 (lyT 0 (B 6) T) (hd 2) ro) co2 mi2 T2 B hd df) := by
  obtain ⟨c2, m2, k⟩ := c_solve1_6_0_2p (rr := rdX 0 (lyT 0 (B 6) T) (hd 2)) rfl rfl h0
  exact ⟨_, c2, m2, _, k⟩
set_option maxRecDepth 20000 in
theorem c_solve1_6_0_3p {n vs : Int32} {be de : Int64} {sz : Int32} {ro co mi : Nat → Int64} {T : Nat → Nat → Int64} {B : Nat → Nat → Nat → Int32} {hd : Nat → Nat → Int32} {df : Nat → Int32} {ly : Nat → Nat → Int64} {dt : Int64} {rr : Nat → Int64} (ely : ly = (lyT 0 (B 6) T)) (edt : dt = detX 0 ly) (h0 : ¬ dt = 0) : ∃ (co2 mi2 : Nat → Int64), KX1_solve l D ca ad [.ref 1, .ref 10, .int 0, .ref 26] (XW n vs be de sz ro co mi T B hd df) (some (.int 1)) (XW n vs (absX dt) dt 0 (roc 0 rr ro) co2 mi2 ly B hd df) := by
  obtain ⟨m0, em0⟩ : ∃ z, z = miX 0 ly mi := ⟨_, rfl⟩
  refine ⟨co, m0, ?_⟩
  refine PX1_solve (Nat.le_of_ble_eq_true rfl) (Or.inr rfl) ?_
  intro G hT hC hR
  refine mB hT 3 rfl ?_
  refine hC.1 _ 1 [_, _] _ _ _ _ _ (show KX1_layTable l D ca ad _ _ none (XW n vs be dt 0 ro co m0 ly B hd df) from (by rw [em0, edt, ely]; exact c_lay_6_0)) rfl rfl (Nat.le_of_ble_eq_true rfl) rfl ?_
  refine mB hT 5 rfl ?_
  refine mIf (fun hp => absurd hp (fun q => h0 (lc_eq.mp q))) (fun _ => ?_)
  refine mB hT 3 rfl ?_
  refine hC.2.1 _ [_] _ _ _ _ (c_abs _) rfl (Nat.le_of_ble_eq_true rfl) rfl ?_
  refine mB hT 8 rfl ?_
  exact hR _ (by decide) _ _ _ rfl rfl
theorem c_solve1_6_0_3 {n vs : Int32} {be de : Int64} {sz : Int32} {ro co mi : Nat → Int64} {T : Nat → Nat → Int64} {B : Nat → Nat → Nat → Int32} {hd : Nat → Nat → Int32} {df : Nat → Int32} (h0 : ¬ detX 0 (lyT 0 (B 6) T) = 0) : ∃ (de2 : Int64) (co2 mi2 : Nat → Int64) (T2 : Nat → Nat → Int64), KX1_solve l D ca ad [.ref 1, .ref 10, .int 0, .ref 26] (XW n vs be de sz ro co mi T B hd df) (some (.int 1)) (XW n vs (absX (detX 0 (lyT 0 (B 6) T))) de2 0 (roX 0 (lyT 0 (B 6) T) (hd 3) ro) co2 mi2 T2 B hd df) := by
  obtain ⟨c2, m2, k⟩ := c_solve1_6_0_3p (rr := rdX 0 (lyT 0 (B 6) T) (hd 3)) rfl rfl h0
  exact ⟨_, c2, m2, _, k⟩
set_option maxRecDepth 20000 in
theorem c_solve1_6_0_4p {n vs : Int32} {be de : Int64} {sz : Int32} {ro co mi : Nat → Int64} {T : Nat → Nat → Int64} {B : Nat → Nat → Nat → Int32} {hd : Nat → Nat → Int32} {df : Nat → Int32} {ly : Nat → Nat → Int64} {dt : Int64} {rr : Nat → Int64} (ely : ly = (lyT 0 (B 6) T)) (edt : dt = detX 0 ly) (h0 : ¬ dt = 0) : ∃ (co2 mi2 : Nat → Int64), KX1_solve l D ca ad [.ref 1, .ref 10, .int 0, .ref 27] (XW n vs be de sz ro co mi T B hd df) (some (.int 1)) (XW n vs (absX dt) dt 0 (roc 0 rr ro) co2 mi2 ly B hd df) := by
  obtain ⟨m0, em0⟩ : ∃ z, z = miX 0 ly mi := ⟨_, rfl⟩
  refine ⟨co, m0, ?_⟩
  refine PX1_solve (Nat.le_of_ble_eq_true rfl) (Or.inr rfl) ?_
  intro G hT hC hR
  refine mB hT 3 rfl ?_
  refine hC.1 _ 1 [_, _] _ _ _ _ _ (show KX1_layTable l D ca ad _ _ none (XW n vs be dt 0 ro co m0 ly B hd df) from (by rw [em0, edt, ely]; exact c_lay_6_0)) rfl rfl (Nat.le_of_ble_eq_true rfl) rfl ?_
  refine mB hT 5 rfl ?_
  refine mIf (fun hp => absurd hp (fun q => h0 (lc_eq.mp q))) (fun _ => ?_)
  refine mB hT 3 rfl ?_
  refine hC.2.1 _ [_] _ _ _ _ (c_abs _) rfl (Nat.le_of_ble_eq_true rfl) rfl ?_
  refine mB hT 8 rfl ?_
  exact hR _ (by decide) _ _ _ rfl rfl
theorem c_solve1_6_0_4 {n vs : Int32} {be de : Int64} {sz : Int32} {ro co mi : Nat → Int64} {T : Nat → Nat → Int64} {B : Nat → Nat → Nat → Int32} {hd : Nat → Nat → Int32} {df : Nat → Int32} (h0 : ¬ detX 0 (lyT 0 (B 6) T) = 0) : ∃ (de2 : Int64) (co2 mi2 : Nat → Int64) (T2 : Nat → Nat → Int64), KX1_solve l D ca ad [.ref 1, .ref 10, .int 0, .ref 27] (XW n vs be de sz ro co mi T B hd df) (some (.int 1)) (XW n vs (absX (detX 0 (lyT 0 (B 6) T))) de2 0 (roX 0 (lyT 0 (B 6) T) df ro) co2 mi2 T2 B hd df) := by
  obtain ⟨c2, m2, k⟩ := c_solve1_6_0_4p (rr := rdX 0 (lyT 0 (B 6) T) df) rfl rfl h0
  exact ⟨_, c2, m2, _, k⟩
theorem c_solve0_6_1_0 {n vs : Int32} {be de : Int64} {sz : Int32} {ro co mi : Nat → Int64} {T : Nat → Nat → Int64} {B : Nat → Nat → Nat → Int32} {hd : Nat → Nat → Int32} {df : Nat → Int32} (h0 : detX 1 (lyT 1 (B 6) T) = 0) : ∃ (de2 : Int64) (mi2 : Nat → Int64) (T2 : Nat → Nat → Int64), KX1_solve l D ca ad [.ref 1, .ref 10, .int 1, .ref 23] (XW n vs be de sz ro co mi T B hd df) (some (.int 0)) (XW n vs be de2 1 ro co mi2 T2 B hd df) := by
  obtain ⟨ly, ely⟩ : ∃ z, z = (lyT 1 (B 6) T) := ⟨_, rfl⟩
  rw [← ely] at h0
  obtain ⟨dt, edt⟩ : ∃ z, z = detX 1 ly := ⟨_, rfl⟩
  rw [← edt] at h0
  obtain ⟨m0, em0⟩ : ∃ z, z = miX 1 ly mi := ⟨_, rfl⟩
  refine ⟨dt, m0, ly, ?_⟩
  refine PX1_solve (Nat.le_of_ble_eq_true rfl) (Or.inl rfl) ?_
  intro G hT hC hR
  refine mB hT 3 rfl ?_
  refine hC.1 _ 1 [_, _] _ _ _ _ _ (show KX1_layTable l D ca ad _ _ none (XW n vs be dt 1 ro co m0 ly B hd df) from (by rw [em0, edt, ely]; exact c_lay_6_1)) rfl rfl (Nat.le_of_ble_eq_true rfl) rfl ?_
  refine mB hT 5 rfl ?_
  refine mIf (fun _ => ?_) (fun hn => absurd (lc_eq.mpr h0) hn)
  refine mB hT 1 rfl ?_
  exact hR _ (by decide) _ _ _ rfl rfl
set_option maxRecDepth 20000 in
theorem c_solve1_6_1_0p {n vs : Int32} {be de : Int64} {sz : Int32} {ro co mi : Nat → Int64} {T : Nat → Nat → Int64} {B : Nat → Nat → Nat → Int32} {hd : Nat → Nat → Int32} {df : Nat → Int32} {ly : Nat → Nat → Int64} {dt : Int64} {rr : Nat → Int64} (ely : ly = (lyT 1 (B 6) T)) (edt : dt = detX 1 ly) (h0 : ¬ dt = 0) (hs : ¬ dt < 0) (hrr : ∀ i : Nat, rr i = detX 1 (clT 1 ly i (hd 0))) : ∃ (co2 mi2 : Nat → Int64), KX1_solve l D ca ad [.ref 1, .ref 10, .int 1, .ref 23] (XW n vs be de sz ro co mi T B hd df) (some (.int 1)) (XW n vs (absX dt) dt 1 (roc 1 rr ro) co2 mi2 ly B hd df) := by
  obtain ⟨m0, em0⟩ : ∃ z, z = miX 1 ly mi := ⟨_, rfl⟩
  obtain ⟨c1, ec1⟩ : ∃ z, z = coT 1 ly 0 co := ⟨_, rfl⟩
  obtain ⟨m1, em1⟩ : ∃ z, z = miX 1 (clT 1 ly 0 (hd 0)) m0 := ⟨_, rfl⟩
  refine ⟨c1, m1, ?_⟩
  refine PX1_solve (Nat.le_of_ble_eq_true rfl) (Or.inr rfl) ?_
  intro G hT hC hR
  refine mB hT 3 rfl ?_
  refine hC.1 _ 1 [_, _] _ _ _ _ _ (show KX1_layTable l D ca ad _ _ none (XW n vs be dt 1 ro co m0 ly B hd df) from (by rw [em0, edt, ely]; exact c_lay_6_1)) rfl rfl (Nat.le_of_ble_eq_true rfl) rfl ?_
  refine mB hT 5 rfl ?_
  refine mIf (fun hp => absurd hp (fun q => h0 (lc_eq.mp q))) (fun _ => ?_)
  refine mB hT 3 rfl ?_
  refine hC.2.1 _ [_] _ _ _ _ (c_abs _) rfl (Nat.le_of_ble_eq_true rfl) rfl ?_
  refine mB hT 10 rfl ?_
  refine mWd (w2 := (XW n vs (absX dt) dt 1 ro co m0 ly B hd df)) rfl ?_
  refine hC.2.2 _ 1 [_, _] _ _ _ _ _ (show KX1_determinantWithColumn l D ca ad _ _ (some (.long (detX 1 (clT 1 ly 0 (hd 0))))) (XW n vs (absX dt) dt 1 ro c1 m1 ly B hd df) from (by rw [em1, ec1]; exact c_dwc_0_1_0)) rfl rfl (Nat.le_of_ble_eq_true rfl) rfl ?_
  refine mB hT 9 rfl ?_
  refine mIf (fun _ => ?_) (fun hn => absurd (lc_ge.mpr (Int64.not_lt.mp hs)) hn)
  refine mNf (lv2 := [(5, .long (detX 1 (clT 1 ly 0 (hd 0)))), (4, .int 0), (0, .ref 1), (1, .ref 10), (2, .int 1), (3, .ref 23)]) (st2 := [.int 0, .ref 2]) rfl rfl ?_
  refine mB hT 1 rfl ?_
  refine mNf (lv2 := [(5, .long (detX 1 (clT 1 ly 0 (hd 0)))), (4, .int 0), (0, .ref 1), (1, .ref 10), (2, .int 1), (3, .ref 23)]) (st2 := [.long (rr 0), .int 0, .ref 2]) rfl (by rw [hrr 0] <;> rfl) ?_
  refine mB hT 8 rfl ?_
  exact hR _ (by decide) _ _ _ rfl rfl
set_option maxRecDepth 20000 in
theorem c_solve1_6_1_0n {n vs : Int32} {be de : Int64} {sz : Int32} {ro co mi : Nat → Int64} {T : Nat → Nat → Int64} {B : Nat → Nat → Nat → Int32} {hd : Nat → Nat → Int32} {df : Nat → Int32} {ly : Nat → Nat → Int64} {dt : Int64} {rr : Nat → Int64} (ely : ly = (lyT 1 (B 6) T)) (edt : dt = detX 1 ly) (h0 : ¬ dt = 0) (hs : dt < 0) (hrr : ∀ i : Nat, rr i = -(detX 1 (clT 1 ly i (hd 0)))) : ∃ (co2 mi2 : Nat → Int64), KX1_solve l D ca ad [.ref 1, .ref 10, .int 1, .ref 23] (XW n vs be de sz ro co mi T B hd df) (some (.int 1)) (XW n vs (absX dt) dt 1 (roc 1 rr ro) co2 mi2 ly B hd df) := by
  obtain ⟨m0, em0⟩ : ∃ z, z = miX 1 ly mi := ⟨_, rfl⟩
  obtain ⟨c1, ec1⟩ : ∃ z, z = coT 1 ly 0 co := ⟨_, rfl⟩
  obtain ⟨m1, em1⟩ : ∃ z, z = miX 1 (clT 1 ly 0 (hd 0)) m0 := ⟨_, rfl⟩
  refine ⟨c1, m1, ?_⟩
  refine PX1_solve (Nat.le_of_ble_eq_true rfl) (Or.inr rfl) ?_
  intro G hT hC hR
  refine mB hT 3 rfl ?_
  refine hC.1 _ 1 [_, _] _ _ _ _ _ (show KX1_layTable l D ca ad _ _ none (XW n vs be dt 1 ro co m0 ly B hd df) from (by rw [em0, edt, ely]; exact c_lay_6_1)) rfl rfl (Nat.le_of_ble_eq_true rfl) rfl ?_
  refine mB hT 5 rfl ?_
  refine mIf (fun hp => absurd hp (fun q => h0 (lc_eq.mp q))) (fun _ => ?_)
  refine mB hT 3 rfl ?_
  refine hC.2.1 _ [_] _ _ _ _ (c_abs _) rfl (Nat.le_of_ble_eq_true rfl) rfl ?_
  refine mB hT 10 rfl ?_
  refine mWd (w2 := (XW n vs (absX dt) dt 1 ro co m0 ly B hd df)) rfl ?_
  refine hC.2.2 _ 1 [_, _] _ _ _ _ _ (show KX1_determinantWithColumn l D ca ad _ _ (some (.long (detX 1 (clT 1 ly 0 (hd 0))))) (XW n vs (absX dt) dt 1 ro c1 m1 ly B hd df) from (by rw [em1, ec1]; exact c_dwc_0_1_0)) rfl rfl (Nat.le_of_ble_eq_true rfl) rfl ?_
  refine mB hT 9 rfl ?_
  refine mIf (fun hp => absurd hp (fun q => Int64.not_lt.mpr (lc_ge.mp q) hs)) (fun _ => ?_)
  refine mNf (lv2 := [(5, .long (detX 1 (clT 1 ly 0 (hd 0)))), (4, .int 0), (0, .ref 1), (1, .ref 10), (2, .int 1), (3, .ref 23)]) (st2 := [.int 0, .ref 2]) rfl rfl ?_
  refine mB hT 3 rfl ?_
  refine mNf (lv2 := [(5, .long (detX 1 (clT 1 ly 0 (hd 0)))), (4, .int 0), (0, .ref 1), (1, .ref 10), (2, .int 1), (3, .ref 23)]) (st2 := [.long (rr 0), .int 0, .ref 2]) rfl (by rw [hrr 0] <;> rfl) ?_
  refine mB hT 8 rfl ?_
  exact hR _ (by decide) _ _ _ rfl rfl
theorem c_solve1_6_1_0 {n vs : Int32} {be de : Int64} {sz : Int32} {ro co mi : Nat → Int64} {T : Nat → Nat → Int64} {B : Nat → Nat → Nat → Int32} {hd : Nat → Nat → Int32} {df : Nat → Int32} (h0 : ¬ detX 1 (lyT 1 (B 6) T) = 0) : ∃ (de2 : Int64) (co2 mi2 : Nat → Int64) (T2 : Nat → Nat → Int64), KX1_solve l D ca ad [.ref 1, .ref 10, .int 1, .ref 23] (XW n vs be de sz ro co mi T B hd df) (some (.int 1)) (XW n vs (absX (detX 1 (lyT 1 (B 6) T))) de2 1 (roX 1 (lyT 1 (B 6) T) (hd 0) ro) co2 mi2 T2 B hd df) := by
  by_cases hs : detX 1 (lyT 1 (B 6) T) < 0
  · obtain ⟨c2, m2, k⟩ := c_solve1_6_1_0n (rr := rdX 1 (lyT 1 (B 6) T) (hd 0)) rfl rfl h0 hs (fun i => if_pos hs)
    exact ⟨_, c2, m2, _, k⟩
  · obtain ⟨c2, m2, k⟩ := c_solve1_6_1_0p (rr := rdX 1 (lyT 1 (B 6) T) (hd 0)) rfl rfl h0 hs (fun i => if_neg hs)
    exact ⟨_, c2, m2, _, k⟩
theorem c_solve0_6_1_1 {n vs : Int32} {be de : Int64} {sz : Int32} {ro co mi : Nat → Int64} {T : Nat → Nat → Int64} {B : Nat → Nat → Nat → Int32} {hd : Nat → Nat → Int32} {df : Nat → Int32} (h0 : detX 1 (lyT 1 (B 6) T) = 0) : ∃ (de2 : Int64) (mi2 : Nat → Int64) (T2 : Nat → Nat → Int64), KX1_solve l D ca ad [.ref 1, .ref 10, .int 1, .ref 24] (XW n vs be de sz ro co mi T B hd df) (some (.int 0)) (XW n vs be de2 1 ro co mi2 T2 B hd df) := by
  obtain ⟨ly, ely⟩ : ∃ z, z = (lyT 1 (B 6) T) := ⟨_, rfl⟩
  rw [← ely] at h0
  obtain ⟨dt, edt⟩ : ∃ z, z = detX 1 ly := ⟨_, rfl⟩
  rw [← edt] at h0
  obtain ⟨m0, em0⟩ : ∃ z, z = miX 1 ly mi := ⟨_, rfl⟩
  refine ⟨dt, m0, ly, ?_⟩
  refine PX1_solve (Nat.le_of_ble_eq_true rfl) (Or.inl rfl) ?_
  intro G hT hC hR
  refine mB hT 3 rfl ?_
  refine hC.1 _ 1 [_, _] _ _ _ _ _ (show KX1_layTable l D ca ad _ _ none (XW n vs be dt 1 ro co m0 ly B hd df) from (by rw [em0, edt, ely]; exact c_lay_6_1)) rfl rfl (Nat.le_of_ble_eq_true rfl) rfl ?_
  refine mB hT 5 rfl ?_
  refine mIf (fun _ => ?_) (fun hn => absurd (lc_eq.mpr h0) hn)
  refine mB hT 1 rfl ?_
  exact hR _ (by decide) _ _ _ rfl rfl
set_option maxRecDepth 20000 in
theorem c_solve1_6_1_1p {n vs : Int32} {be de : Int64} {sz : Int32} {ro co mi : Nat → Int64} {T : Nat → Nat → Int64} {B : Nat → Nat → Nat → Int32} {hd : Nat → Nat → Int32} {df : Nat → Int32} {ly : Nat → Nat → Int64} {dt : Int64} {rr : Nat → Int64} (ely : ly = (lyT 1 (B 6) T)) (edt : dt = detX 1 ly) (h0 : ¬ dt = 0) (hs : ¬ dt < 0) (hrr : ∀ i : Nat, rr i = detX 1 (clT 1 ly i (hd 1))) : ∃ (co2 mi2 : Nat → Int64), KX1_solve l D ca ad [.ref 1, .ref 10, .int 1, .ref 24] (XW n vs be de sz ro co mi T B hd df) (some (.int 1)) (XW n vs (absX dt) dt 1 (roc 1 rr ro) co2 mi2 ly B hd df) := by
  obtain ⟨m0, em0⟩ : ∃ z, z = miX 1 ly mi := ⟨_, rfl⟩
  obtain ⟨c1, ec1⟩ : ∃ z, z = coT 1 ly 0 co := ⟨_, rfl⟩
  obtain ⟨m1, em1⟩ : ∃ z, z = miX 1 (clT 1 ly 0 (hd 1)) m0 := ⟨_, rfl⟩
  refine ⟨c1, m1, ?_⟩
  refine PX1_solve (Nat.le_of_ble_eq_true rfl) (Or.inr rfl) ?_
  intro G hT hC hR
  refine mB hT 3 rfl ?_
  refine hC.1 _ 1 [_, _] _ _ _ _ _ (show KX1_layTable l D ca ad _ _ none (XW n vs be dt 1 ro co m0 ly B hd df) from (by rw [em0, edt, ely]; exact c_lay_6_1)) rfl rfl (Nat.le_of_ble_eq_true rfl) rfl ?_
  refine mB hT 5 rfl ?_
  refine mIf (fun hp => absurd hp (fun q => h0 (lc_eq.mp q))) (fun _ => ?_)
  refine mB hT 3 rfl ?_
  refine hC.2.1 _ [_] _ _ _ _ (c_abs _) rfl (Nat.le_of_ble_eq_true rfl) rfl ?_
  refine mB hT 10 rfl ?_
  refine mWd (w2 := (XW n vs (absX dt) dt 1 ro co m0 ly B hd df)) rfl ?_
  refine hC.2.2 _ 1 [_, _] _ _ _ _ _ (show KX1_determinantWithColumn l D ca ad _ _ (some (.long (detX 1 (clT 1 ly 0 (hd 1))))) (XW n vs (absX dt) dt 1 ro c1 m1 ly B hd df) from (by rw [em1, ec1]; exact c_dwc_1_1_0)) rfl rfl (Nat.le_of_ble_eq_true rfl) rfl ?_
  refine mB hT 9 rfl ?_
  refine mIf (fun _ => ?_) (fun hn => absurd (lc_ge.mpr (Int64.not_lt.mp hs)) hn)
  refine mNf (lv2 := [(5, .long (detX 1 (clT 1 ly 0 (hd 1)))), (4, .int 0), (0, .ref 1), (1, .ref 10), (2, .int 1), (3, .ref 24)]) (st2 := [.int 0, .ref 2]) rfl rfl ?_
  refine mB hT 1 rfl ?_
  refine mNf (lv2 := [(5, .long (detX 1 (clT 1 ly 0 (hd 1)))), (4, .int 0), (0, .ref 1), (1, .ref 10), (2, .int 1), (3, .ref 24)]) (st2 := [.long (rr 0), .int 0, .ref 2]) rfl (by rw [hrr 0] <;> rfl) ?_
  refine mB hT 8 rfl ?_
  exact hR _ (by decide) _ _ _ rfl rfl
set_option maxRecDepth 20000 in
theorem c_solve1_6_1_1n {n vs : Int32} {be de : Int64} {sz : Int32} {ro co mi : Nat → Int64} {T : Nat → Nat → Int64} {B : Nat → Nat → Nat → Int32} {hd : Nat → Nat → Int32} {df : Nat → Int32} {ly : Nat → Nat → Int64} {dt : Int64} {rr : Nat → Int64} (ely : ly = (lyT 1 (B 6) T)) (edt : dt = detX 1 ly) (h0 : ¬ dt = 0) (hs : dt < 0) (hrr : ∀ i : Nat, rr i = -(detX 1 (clT 1 ly i (hd 1)))) : ∃ (co2 mi2 : Nat → Int64), KX1_solve l D ca ad [.ref 1, .ref 10, .int 1, .ref 24] (XW n vs be de sz ro co mi T B hd df) (some (.int 1)) (XW n vs (absX dt) dt 1 (roc 1 rr ro) co2 mi2 ly B hd df) := by
  obtain ⟨m0, em0⟩ : ∃ z, z = miX 1 ly mi := ⟨_, rfl⟩
  obtain ⟨c1, ec1⟩ : ∃ z, z = coT 1 ly 0 co := ⟨_, rfl⟩
  obtain ⟨m1, em1⟩ : ∃ z, z = miX 1 (clT 1 ly 0 (hd 1)) m0 := ⟨_, rfl⟩
  refine ⟨c1, m1, ?_⟩
  refine PX1_solve (Nat.le_of_ble_eq_true rfl) (Or.inr rfl) ?_
  intro G hT hC hR
  refine mB hT 3 rfl ?_
  refine hC.1 _ 1 [_, _] _ _ _ _ _ (show KX1_layTable l D ca ad _ _ none (XW n vs be dt 1 ro co m0 ly B hd df) from (by rw [em0, edt, ely]; exact c_lay_6_1)) rfl rfl (Nat.le_of_ble_eq_true rfl) rfl ?_
  refine mB hT 5 rfl ?_
  refine mIf (fun hp => absurd hp (fun q => h0 (lc_eq.mp q))) (fun _ => ?_)
  refine mB hT 3 rfl ?_
  refine hC.2.1 _ [_] _ _ _ _ (c_abs _) rfl (Nat.le_of_ble_eq_true rfl) rfl ?_
  refine mB hT 10 rfl ?_
  refine mWd (w2 := (XW n vs (absX dt) dt 1 ro co m0 ly B hd df)) rfl ?_
  refine hC.2.2 _ 1 [_, _] _ _ _ _ _ (show KX1_determinantWithColumn l D ca ad _ _ (some (.long (detX 1 (clT 1 ly 0 (hd 1))))) (XW n vs (absX dt) dt 1 ro c1 m1 ly B hd df) from (by rw [em1, ec1]; exact c_dwc_1_1_0)) rfl rfl (Nat.le_of_ble_eq_true rfl) rfl ?_
  refine mB hT 9 rfl ?_
  refine mIf (fun hp => absurd hp (fun q => Int64.not_lt.mpr (lc_ge.mp q) hs)) (fun _ => ?_)
  refine mNf (lv2 := [(5, .long (detX 1 (clT 1 ly 0 (hd 1)))), (4, .int 0), (0, .ref 1), (1, .ref 10), (2, .int 1), (3, .ref 24)]) (st2 := [.int 0, .ref 2]) rfl rfl ?_
  refine mB hT 3 rfl ?_
  refine mNf (lv2 := [(5, .long (detX 1 (clT 1 ly 0 (hd 1)))), (4, .int 0), (0, .ref 1), (1, .ref 10), (2, .int 1), (3, .ref 24)]) (st2 := [.long (rr 0), .int 0, .ref 2]) rfl (by rw [hrr 0] <;> rfl) ?_
  refine mB hT 8 rfl ?_
  exact hR _ (by decide) _ _ _ rfl rfl
theorem c_solve1_6_1_1 {n vs : Int32} {be de : Int64} {sz : Int32} {ro co mi : Nat → Int64} {T : Nat → Nat → Int64} {B : Nat → Nat → Nat → Int32} {hd : Nat → Nat → Int32} {df : Nat → Int32} (h0 : ¬ detX 1 (lyT 1 (B 6) T) = 0) : ∃ (de2 : Int64) (co2 mi2 : Nat → Int64) (T2 : Nat → Nat → Int64), KX1_solve l D ca ad [.ref 1, .ref 10, .int 1, .ref 24] (XW n vs be de sz ro co mi T B hd df) (some (.int 1)) (XW n vs (absX (detX 1 (lyT 1 (B 6) T))) de2 1 (roX 1 (lyT 1 (B 6) T) (hd 1) ro) co2 mi2 T2 B hd df) := by
  by_cases hs : detX 1 (lyT 1 (B 6) T) < 0
  · obtain ⟨c2, m2, k⟩ := c_solve1_6_1_1n (rr := rdX 1 (lyT 1 (B 6) T) (hd 1)) rfl rfl h0 hs (fun i => if_pos hs)
    exact ⟨_, c2, m2, _, k⟩
  · obtain ⟨c2, m2, k⟩ := c_solve1_6_1_1p (rr := rdX 1 (lyT 1 (B 6) T) (hd 1)) rfl rfl h0 hs (fun i => if_neg hs)
    exact ⟨_, c2, m2, _, k⟩
theorem c_solve0_6_1_2 {n vs : Int32} {be de : Int64} {sz : Int32} {ro co mi : Nat → Int64} {T : Nat → Nat → Int64} {B : Nat → Nat → Nat → Int32} {hd : Nat → Nat → Int32} {df : Nat → Int32} (h0 : detX 1 (lyT 1 (B 6) T) = 0) : ∃ (de2 : Int64) (mi2 : Nat → Int64) (T2 : Nat → Nat → Int64), KX1_solve l D ca ad [.ref 1, .ref 10, .int 1, .ref 25] (XW n vs be de sz ro co mi T B hd df) (some (.int 0)) (XW n vs be de2 1 ro co mi2 T2 B hd df) := by
  obtain ⟨ly, ely⟩ : ∃ z, z = (lyT 1 (B 6) T) := ⟨_, rfl⟩
  rw [← ely] at h0
  obtain ⟨dt, edt⟩ : ∃ z, z = detX 1 ly := ⟨_, rfl⟩
  rw [← edt] at h0
  obtain ⟨m0, em0⟩ : ∃ z, z = miX 1 ly mi := ⟨_, rfl⟩
  refine ⟨dt, m0, ly, ?_⟩
  refine PX1_solve (Nat.le_of_ble_eq_true rfl) (Or.inl rfl) ?_
  intro G hT hC hR
  refine mB hT 3 rfl ?_
  refine hC.1 _ 1 [_, _] _ _ _ _ _ (show KX1_layTable l D ca ad _ _ none (XW n vs be dt 1 ro co m0 ly B hd df) from (by rw [em0, edt, ely]; exact c_lay_6_1)) rfl rfl (Nat.le_of_ble_eq_true rfl) rfl ?_
  refine mB hT 5 rfl ?_
  refine mIf (fun _ => ?_) (fun hn => absurd (lc_eq.mpr h0) hn)
  refine mB hT 1 rfl ?_
  exact hR _ (by decide) _ _ _ rfl rfl
set_option maxRecDepth 20000 in
theorem c_solve1_6_1_2p {n vs : Int32} {be de : Int64} {sz : Int32} {ro co mi : Nat → Int64} {T : Nat → Nat → Int64} {B : Nat → Nat → Nat → Int32} {hd : Nat → Nat → Int32} {df : Nat → Int32} {ly : Nat → Nat → Int64} {dt : Int64} {rr : Nat → Int64} (ely : ly = (lyT 1 (B 6) T)) (edt : dt = detX 1 ly) (h0 : ¬ dt = 0) (hs : ¬ dt < 0) (hrr : ∀ i : Nat, rr i = detX 1 (clT 1 ly i (hd 2))) : ∃ (co2 mi2 : Nat → Int64), KX1_solve l D ca ad [.ref 1, .ref 10, .int 1, .ref 25] (XW n vs be de sz ro co mi T B hd df) (some (.int 1)) (XW n vs (absX dt) dt 1 (roc 1 rr ro) co2 mi2 ly B hd df) := by
  obtain ⟨m0, em0⟩ : ∃ z, z = miX 1 ly mi := ⟨_, rfl⟩
  obtain ⟨c1, ec1⟩ : ∃ z, z = coT 1 ly 0 co := ⟨_, rfl⟩
  obtain ⟨m1, em1⟩ : ∃ z, z = miX 1 (clT 1 ly 0 (hd 2)) m0 := ⟨_, rfl⟩
  refine ⟨c1, m1, ?_⟩
  refine PX1_solve (Nat.le_of_ble_eq_true rfl) (Or.inr rfl) ?_
  intro G hT hC hR
  refine mB hT 3 rfl ?_
  refine hC.1 _ 1 [_, _] _ _ _ _ _ (show KX1_layTable l D ca ad _ _ none (XW n vs be dt 1 ro co m0 ly B hd df) from (by rw [em0, edt, ely]; exact c_lay_6_1)) rfl rfl (Nat.le_of_ble_eq_true rfl) rfl ?_
  refine mB hT 5 rfl ?_
  refine mIf (fun hp => absurd hp (fun q => h0 (lc_eq.mp q))) (fun _ => ?_)
  refine mB hT 3 rfl ?_
  refine hC.2.1 _ [_] _ _ _ _ (c_abs _) rfl (Nat.le_of_ble_eq_true rfl) rfl ?_
  refine mB hT 10 rfl ?_
  refine mWd (w2 := (XW n vs (absX dt) dt 1 ro co m0 ly B hd df)) rfl ?_
  refine hC.2.2 _ 1 [_, _] _ _ _ _ _ (show KX1_determinantWithColumn l D ca ad _ _ (some (.long (detX 1 (clT 1 ly 0 (hd 2))))) (XW n vs (absX dt) dt 1 ro c1 m1 ly B hd df) from (by rw [em1, ec1]; exact c_dwc_2_1_0)) rfl rfl (Nat.le_of_ble_eq_true rfl) rfl ?_
  refine mB hT 9 rfl ?_
  refine mIf (fun _ => ?_) (fun hn => absurd (lc_ge.mpr (Int64.not_lt.mp hs)) hn)
  refine mNf (lv2 := [(5, .long (detX 1 (clT 1 ly 0 (hd 2)))), (4, .int 0), (0, .ref 1), (1, .ref 10), (2, .int 1), (3, .ref 25)]) (st2 := [.int 0, .ref 2]) rfl rfl ?_
  refine mB hT 1 rfl ?_
  refine mNf (lv2 := [(5, .long (detX 1 (clT 1 ly 0 (hd 2)))), (4, .int 0), (0, .ref 1), (1, .ref 10), (2, .int 1), (3, .ref 25)]) (st2 := [.long (rr 0), .int 0, .ref 2]) rfl (by rw [hrr 0] <;> rfl) ?_
  refine mB hT 8 rfl ?_
  exact hR _ (by decide) _ _ _ rfl rfl
set_option maxRecDepth 20000 in
theorem c_solve1_6_1_2n {n vs : Int32} {be de : Int64} {sz : Int32} {ro co mi : Nat → Int64} {T : Nat → Nat → Int64} {B : Nat → Nat → Nat → Int32} {hd : Nat → Nat → Int32} {df : Nat → Int32} {ly : Nat → Nat → Int64} {dt : Int64} {rr : Nat → Int64} (ely : ly = (lyT 1 (B 6) T)) (edt : dt = detX 1 ly) (h0 : ¬ dt = 0) (hs : dt < 0) (hrr : ∀ i : Nat, rr i = -(detX 1 (clT 1 ly i (hd 2)))) : ∃ (co2 mi2 : Nat → Int64), KX1_solve l D ca ad [.ref 1, .ref 10, .int 1, .ref 25] (XW n vs be de sz ro co mi T B hd df) (some (.int 1)) (XW n vs (absX dt) dt 1 (roc 1 rr ro) co2 mi2 ly B hd df) := by
  obtain ⟨m0, em0⟩ : ∃ z, z = miX 1 ly mi := ⟨_, rfl⟩
  obtain ⟨c1, ec1⟩ : ∃ z, z = coT 1 ly 0 co := ⟨_, rfl⟩
  obtain ⟨m1, em1⟩ : ∃ z, z = miX 1 (clT 1 ly 0 (hd 2)) m0 := ⟨_, rfl⟩
  refine ⟨c1, m1, ?_⟩
  refine PX1_solve (Nat.le_of_ble_eq_true rfl) (Or.inr rfl) ?_
  intro G hT hC hR
  refine mB hT 3 rfl ?_
  refine hC.1 _ 1 [_, _] _ _ _ _ _ (show KX1_layTable l D ca ad _ _ none (XW n vs be dt 1 ro co m0 ly B hd df) from (by rw [em0, edt, ely]; exact c_lay_6_1)) rfl rfl (Nat.le_of_ble_eq_true rfl) rfl ?_
  refine mB hT 5 rfl ?_
  refine mIf (fun hp => absurd hp (fun q => h0 (lc_eq.mp q))) (fun _ => ?_)
  refine mB hT 3 rfl ?_
  refine hC.2.1 _ [_] _ _ _ _ (c_abs _) rfl (Nat.le_of_ble_eq_true rfl) rfl ?_
  refine mB hT 10 rfl ?_
  refine mWd (w2 := (XW n vs (absX dt) dt 1 ro co m0 ly B hd df)) rfl ?_
  refine hC.2.2 _ 1 [_, _] _ _ _ _ _ (show KX1_determinantWithColumn l D ca ad _ _ (some (.long (detX 1 (clT 1 ly 0 (hd 2))))) (XW n vs (absX dt) dt 1 ro c1 m1 ly B hd df) from (by rw [em1, ec1]; exact c_dwc_2_1_0)) rfl rfl (Nat.le_of_ble_eq_true rfl) rfl ?_
  refine mB hT 9 rfl ?_
  refine mIf (fun hp => absurd hp (fun q => Int64.not_lt.mpr (lc_ge.mp q) hs)) (fun _ => ?_)
  refine mNf (lv2 := [(5, .long (detX 1 (clT 1 ly 0 (hd 2)))), (4, .int 0), (0, .ref 1), (1, .ref 10), (2, .int 1), (3, .ref 25)]) (st2 := [.int 0, .ref 2]) rfl rfl ?_
  refine mB hT 3 rfl ?_
  refine mNf (lv2 := [(5, .long (detX 1 (clT 1 ly 0 (hd 2)))), (4, .int 0), (0, .ref 1), (1, .ref 10), (2, .int 1), (3, .ref 25)]) (st2 := [.long (rr 0), .int 0, .ref 2]) rfl (by rw [hrr 0] <;> rfl) ?_
  refine mB hT 8 rfl ?_
  exact hR _ (by decide) _ _ _ rfl rfl
theorem c_solve1_6_1_2 {n vs : Int32} {be de : Int64} {sz : Int32} {ro co mi : Nat → Int64} {T : Nat → Nat → Int64} {B : Nat → Nat → Nat → Int32} {hd : Nat → Nat → Int32} {df : Nat → Int32} (h0 : ¬ detX 1 (lyT 1 (B 6) T) = 0) : ∃ (de2 : Int64) (co2 mi2 : Nat → Int64) (T2 : Nat → Nat → Int64), KX1_solve l D ca ad [.ref 1, .ref 10, .int 1, .ref 25] (XW n vs be de sz ro co mi T B hd df) (some (.int 1)) (XW n vs (absX (detX 1 (lyT 1 (B 6) T))) de2 1 (roX 1 (lyT 1 (B 6) T) (hd 2) ro) co2 mi2 T2 B hd df) := by
  by_cases hs : detX 1 (lyT 1 (B 6) T) < 0
  · obtain ⟨c2, m2, k⟩ := c_solve1_6_1_2n (rr := rdX 1 (lyT 1 (B 6) T) (hd 2)) rfl rfl h0 hs (fun i => if_pos hs)
    exact ⟨_, c2, m2, _, k⟩
  · obtain ⟨c2, m2, k⟩ := c_solve1_6_1_2p (rr := rdX 1 (lyT 1 (B 6) T) (hd 2)) rfl rfl h0 hs (fun i => if_neg hs)
    exact ⟨_, c2, m2, _, k⟩
theorem c_solve0_6_1_3 {n vs : Int32} {be de : Int64} {sz : Int32} {ro co mi : Nat → Int64} {T : Nat → Nat → Int64} {B : Nat → Nat → Nat → Int32} {hd : Nat → Nat → Int32} {df : Nat → Int32} (h0 : detX 1 (lyT 1 (B 6) T) = 0) : ∃ (de2 : Int64) (mi2 : Nat → Int64) (T2 : Nat → Nat → Int64), KX1_solve l D ca ad [.ref 1, .ref 10, .int 1, .ref 26] (XW n vs be de sz ro co mi T B hd df) (some (.int 0)) (XW n vs be de2 1 ro co mi2 T2 B hd df) := by
  obtain ⟨ly, ely⟩ : ∃ z, z = (lyT 1 (B 6) T) := ⟨_, rfl⟩
  rw [← ely] at h0
  obtain ⟨dt, edt⟩ : ∃ z, z = detX 1 ly := ⟨_, rfl⟩
  rw [← edt] at h0
  obtain ⟨m0, em0⟩ : ∃ z, z = miX 1 ly mi := ⟨_, rfl⟩
  refine ⟨dt, m0, ly, ?_⟩
  refine PX1_solve (Nat.le_of_ble_eq_true rfl) (Or.inl rfl) ?_
  intro G hT hC hR
  refine mB hT 3 rfl ?_
  refine hC.1 _ 1 [_, _] _ _ _ _ _ (show KX1_layTable l D ca ad _ _ none (XW n vs be dt 1 ro co m0 ly B hd df) from (by rw [em0, edt, ely]; exact c_lay_6_1)) rfl rfl (Nat.le_of_ble_eq_true rfl) rfl ?_
  refine mB hT 5 rfl ?_
  refine mIf (fun _ => ?_) (fun hn => absurd (lc_eq.mpr h0) hn)
  refine mB hT 1 rfl ?_
  exact hR _ (by decide) _ _ _ rfl rfl
set_option maxRecDepth 20000 in
theorem c_solve1_6_1_3p {n vs : Int32} {be de : Int64} {sz : Int32} {ro co mi : Nat → Int64} {T : Nat → Nat → Int64} {B : Nat → Nat → Nat → Int32} {hd : Nat → Nat → Int32} {df : Nat → Int32} {ly : Nat → Nat → Int64} {dt : Int64} {rr : Nat → Int64} (ely : ly = (lyT 1 (B 6) T)) (edt : dt = detX 1 ly) (h0 : ¬ dt = 0) (hs : ¬ dt < 0) (hrr : ∀ i : Nat, rr i = detX 1 (clT 1 ly i (hd 3))) : ∃ (co2 mi2 : Nat → Int64), KX1_solve l D ca ad [.ref 1, .ref 10, .int 1, .ref 26] (XW n vs be de sz ro co mi T B hd df) (some (.int 1)) (XW n vs (absX dt) dt 1 (roc 1 rr ro) co2 mi2 ly B hd df) := by
  obtain ⟨m0, em0⟩ : ∃ z, z = miX 1 ly mi := ⟨_, rfl⟩
  obtain ⟨c1, ec1⟩ : ∃ z, z = coT 1 ly 0 co := ⟨_, rfl⟩
  obtain ⟨m1, em1⟩ : ∃ z, z = miX 1 (clT 1 ly 0 (hd 3)) m0 := ⟨_, rfl⟩
  refine ⟨c1, m1, ?_⟩
  refine PX1_solve (Nat.le_of_ble_eq_true rfl) (Or.inr rfl) ?_
  intro G hT hC hR
  refine mB hT 3 rfl ?_
  refine hC.1 _ 1 [_, _] _ _ _ _ _ (show KX1_layTable l D ca ad _ _ none (XW n vs be dt 1 ro co m0 ly B hd df) from (by rw [em0, edt, ely]; exact c_lay_6_1)) rfl rfl (Nat.le_of_ble_eq_true rfl) rfl ?_
  refine mB hT 5 rfl ?_
  refine mIf (fun hp => absurd hp (fun q => h0 (lc_eq.mp q))) (fun _ => ?_)
  refine mB hT 3 rfl ?_
  refine hC.2.1 _ [_] _ _ _ _ (c_abs _) rfl (Nat.le_of_ble_eq_true rfl) rfl ?_
  refine mB hT 10 rfl ?_
  refine mWd (w2 := (XW n vs (absX dt) dt 1 ro co m0 ly B hd df)) rfl ?_
  refine hC.2.2 _ 1 [_, _] _ _ _ _ _ (show KX1_determinantWithColumn l D ca ad _ _ (some (.long (detX 1 (clT 1 ly 0 (hd 3))))) (XW n vs (absX dt) dt 1 ro c1 m1 ly B hd df) from (by rw [em1, ec1]; exact c_dwc_3_1_0)) rfl rfl (Nat.le_of_ble_eq_true rfl) rfl ?_
  refine mB hT 9 rfl ?_
  refine mIf (fun _ => ?_) (fun hn => absurd (lc_ge.mpr (Int64.not_lt.mp hs)) hn)
  refine mNf (lv2 := [(5, .long (detX 1 (clT 1 ly 0 (hd 3)))), (4, .int 0), (0, .ref 1), (1, .ref 10), (2, .int 1), (3, .ref 26)]) (st2 := [.int 0, .ref 2]) rfl rfl ?_
  refine mB hT 1 rfl ?_
  refine mNf (lv2 := [(5, .long (detX 1 (clT 1 ly 0 (hd 3)))), (4, .int 0), (0, .ref 1), (1, .ref 10), (2, .int 1), (3, .ref 26)]) (st2 := [.long (rr 0), .int 0, .ref 2]) rfl (by rw [hrr 0] <;> rfl) ?_
  refine mB hT 8 rfl ?_
  exact hR _ (by decide) _ _ _ rfl rfl
set_option maxRecDepth 20000 in
theorem c_solve1_6_1_3n {n vs : Int32} {be de : Int64} {sz : Int32} {ro co mi : Nat → Int64} {T : Nat → Nat → Int64} {B : Nat → Nat → Nat → Int32} {hd : Nat → Nat → Int32} {df : Nat → Int32} {ly : Nat → Nat → Int64} {dt : Int64} {rr : Nat → Int64} (ely : ly = (lyT 1 (B 6) T)) (edt : dt = detX 1 ly) (h0 : ¬ dt = 0) (hs : dt < 0) (hrr : ∀ i : Nat, rr i = -(detX 1 (clT 1 ly i (hd 3)))) : ∃ (co2 mi2 : Nat → Int64), KX1_solve l D ca ad [.ref 1, .ref 10, .int 1, .ref 26] (XW n vs be de sz ro co mi T B hd df) (some (.int 1)) (XW n vs (absX dt) dt 1 (roc 1 rr ro) co2 mi2 ly B hd df) := by
  obtain ⟨m0, em0⟩ : ∃ z, z = miX 1 ly mi := ⟨_, rfl⟩
  obtain ⟨c1, ec1⟩ : ∃ z, z = coT 1 ly 0 co := ⟨_, rfl⟩
  obtain ⟨m1, em1⟩ : ∃ z, z = miX 1 (clT 1 ly 0 (hd 3)) m0 := ⟨_, rfl⟩
  refine ⟨c1, m1, ?_⟩
  refine PX1_solve (Nat.le_of_ble_eq_true rfl) (Or.inr rfl) ?_
  intro G hT hC hR
  refine mB hT 3 rfl ?_
  refine hC.1 _ 1 [_, _] _ _ _ _ _ (show KX1_layTable l D ca ad _ _ none (XW n vs be dt 1 ro co m0 ly B hd df) from (by rw [em0, edt, ely]; exact c_lay_6_1)) rfl rfl (Nat.le_of_ble_eq_true rfl) rfl ?_
  refine mB hT 5 rfl ?_
  refine mIf (fun hp => absurd hp (fun q => h0 (lc_eq.mp q))) (fun _ => ?_)
  refine mB hT 3 rfl ?_
  refine hC.2.1 _ [_] _ _ _ _ (c_abs _) rfl (Nat.le_of_ble_eq_true rfl) rfl ?_
  refine mB hT 10 rfl ?_
  refine mWd (w2 := (XW n vs (absX dt) dt 1 ro co m0 ly B hd df)) rfl ?_
  refine hC.2.2 _ 1 [_, _] _ _ _ _ _ (show KX1_determinantWithColumn l D ca ad _ _ (some (.long (detX 1 (clT 1 ly 0 (hd 3))))) (XW n vs (absX dt) dt 1 ro c1 m1 ly B hd df) from (by rw [em1, ec1]; exact c_dwc_3_1_0)) rfl rfl (Nat.le_of_ble_eq_true rfl) rfl ?_
  refine mB hT 9 rfl ?_
  refine mIf (fun hp => absurd hp (fun q => Int64.not_lt.mpr (lc_ge.mp q) hs)) (fun _ => ?_)
  refine mNf (lv2 := [(5, .long (detX 1 (clT 1 ly 0 (hd 3)))), (4, .int 0), (0, .ref 1), (1, .ref 10), (2, .int 1), (3, .ref 26)]) (st2 := [.int 0, .ref 2]) rfl rfl ?_
  refine mB hT 3 rfl ?_
  refine mNf (lv2 := [(5, .long (detX 1 (clT 1 ly 0 (hd 3)))), (4, .int 0), (0, .ref 1), (1, .ref 10), (2, .int 1), (3, .ref 26)]) (st2 := [.long (rr 0), .int 0, .ref 2]) rfl (by rw [hrr 0] <;> rfl) ?_
  refine mB hT 8 rfl ?_
  exact hR _ (by decide) _ _ _ rfl rfl
theorem c_solve1_6_1_3 {n vs : Int32} {be de : Int64} {sz : Int32} {ro co mi : Nat → Int64} {T : Nat → Nat → Int64} {B : Nat → Nat → Nat → Int32} {hd : Nat → Nat → Int32} {df : Nat → Int32} (h0 : ¬ detX 1 (lyT 1 (B 6) T) = 0) : ∃ (de2 : Int64) (co2 mi2 : Nat → Int64) (T2 : Nat → Nat → Int64), KX1_solve l D ca ad [.ref 1, .ref 10, .int 1, .ref 26] (XW n vs be de sz ro co mi T B hd df) (some (.int 1)) (XW n vs (absX (detX 1 (lyT 1 (B 6) T))) de2 1 (roX 1 (lyT 1 (B 6) T) (hd 3) ro) co2 mi2 T2 B hd df) := by
  by_cases hs : detX 1 (lyT 1 (B 6) T) < 0
  · obtain ⟨c2, m2, k⟩ := c_solve1_6_1_3n (rr := rdX 1 (lyT 1 (B 6) T) (hd 3)) rfl rfl h0 hs (fun i => if_pos hs)
    exact ⟨_, c2, m2, _, k⟩
  · obtain ⟨c2, m2, k⟩ := c_solve1_6_1_3p (rr := rdX 1 (lyT 1 (B 6) T) (hd 3)) rfl rfl h0 hs (fun i => if_neg hs)
    exact ⟨_, c2, m2, _, k⟩
theorem c_solve0_6_1_4 {n vs : Int32} {be de : Int64} {sz : Int32} {ro co mi : Nat → Int64} {T : Nat → Nat → Int64} {B : Nat → Nat → Nat → Int32} {hd : Nat → Nat → Int32} {df : Nat → Int32} (h0 : detX 1 (lyT 1 (B 6) T) = 0) : ∃ (de2 : Int64) (mi2 : Nat → Int64) (T2 : Nat → Nat → Int64), KX1_solve l D ca ad [.ref 1, .ref 10, .int 1, .ref 27] (XW n vs be de sz ro co mi T B hd df) (some (.int 0)) (XW n vs be de2 1 ro co mi2 T2 B hd df) := by
  obtain ⟨ly, ely⟩ : ∃ z, z = (lyT 1 (B 6) T) := ⟨_, rfl⟩
  rw [← ely] at h0
  obtain ⟨dt, edt⟩ : ∃ z, z = detX 1 ly := ⟨_, rfl⟩
  rw [← edt] at h0
  obtain ⟨m0, em0⟩ : ∃ z, z = miX 1 ly mi := ⟨_, rfl⟩
  refine ⟨dt, m0, ly, ?_⟩
  refine PX1_solve (Nat.le_of_ble_eq_true rfl) (Or.inl rfl) ?_
  intro G hT hC hR
  refine mB hT 3 rfl ?_
  refine hC.1 _ 1 [_, _] _ _ _ _ _ (show KX1_layTable l D ca ad _ _ none (XW n vs be dt 1 ro co m0 ly B hd df) from (by rw [em0, edt, ely]; exact c_lay_6_1)) rfl rfl (Nat.le_of_ble_eq_true rfl) rfl ?_
  refine mB hT 5 rfl ?_
  refine mIf (fun _ => ?_) (fun hn => absurd (lc_eq.mpr h0) hn)
  refine mB hT 1 rfl ?_
  exact hR _ (by decide) _ _ _ rfl rfl
set_option maxRecDepth 20000 in
theorem c_solve1_6_1_4p {n vs : Int32} {be de : Int64} {sz : Int32} {ro co mi : Nat → Int64} {T : Nat → Nat → Int64} {B : Nat → Nat → Nat → Int32} {hd : Nat → Nat → Int32} {df : Nat → Int32} {ly : Nat → Nat → Int64} {dt : Int64} {rr : Nat → Int64} (ely : ly = (lyT 1 (B 6) T)) (edt : dt = detX 1 ly) (h0 : ¬ dt = 0) (hs : ¬ dt < 0) (hrr : ∀ i : Nat, rr i = detX 1 (clT 1 ly i df)) : ∃ (co2 mi2 : Nat → Int64), KX1_solve l D ca ad [.ref 1, .ref 10, .int 1, .ref 27] (XW n vs be de sz ro co mi T B hd df) (some (.int 1)) (XW n vs (absX dt) dt 1 (roc 1 rr ro) co2 mi2 ly B hd df) := by
  obtain ⟨m0, em0⟩ : ∃ z, z = miX 1 ly mi := ⟨_, rfl⟩
  obtain ⟨c1, ec1⟩ : ∃ z, z = coT 1 ly 0 co := ⟨_, rfl⟩
  obtain ⟨m1, em1⟩ : ∃ z, z = miX 1 (clT 1 ly 0 df) m0 := ⟨_, rfl⟩
  refine ⟨c1, m1, ?_⟩
  refine PX1_solve (Nat.le_of_ble_eq_true rfl) (Or.inr rfl) ?_
  intro G hT hC hR
  refine mB hT 3 rfl ?_
  refine hC.1 _ 1 [_, _] _ _ _ _ _ (show KX1_layTable l D ca ad _ _ none (XW n vs be dt 1 ro co m0 ly B hd df) from (by rw [em0, edt, ely]; exact c_lay_6_1)) rfl rfl (Nat.le_of_ble_eq_true rfl) rfl ?_
  refine mB hT 5 rfl ?_
  refine mIf (fun hp => absurd hp (fun q => h0 (lc_eq.mp q))) (fun _ => ?_)
  refine mB hT 3 rfl ?_
  refine hC.2.1 _ [_] _ _ _ _ (c_abs _) rfl (Nat.le_of_ble_eq_true rfl) rfl ?_
  refine mB hT 10 rfl ?_
  refine mWd (w2 := (XW n vs (absX dt) dt 1 ro co m0 ly B hd df)) rfl ?_
  refine hC.2.2 _ 1 [_, _] _ _ _ _ _ (show KX1_determinantWithColumn l D ca ad _ _ (some (.long (detX 1 (clT 1 ly 0 df)))) (XW n vs (absX dt) dt 1 ro c1 m1 ly B hd df) from (by rw [em1, ec1]; exact c_dwc_4_1_0)) rfl rfl (Nat.le_of_ble_eq_true rfl) rfl ?_
  refine mB hT 9 rfl ?_
  refine mIf (fun _ => ?_) (fun hn => absurd (lc_ge.mpr (Int64.not_lt.mp hs)) hn)
  refine mNf (lv2 := [(5, .long (detX 1 (clT 1 ly 0 df))), (4, .int 0), (0, .ref 1), (1, .ref 10), (2, .int 1), (3, .ref 27)]) (st2 := [.int 0, .ref 2]) rfl rfl ?_
  refine mB hT 1 rfl ?_
  refine mNf (lv2 := [(5, .long (detX 1 (clT 1 ly 0 df))), (4, .int 0), (0, .ref 1), (1, .ref 10), (2, .int 1), (3, .ref 27)]) (st2 := [.long (rr 0), .int 0, .ref 2]) rfl (by rw [hrr 0] <;> rfl) ?_
  refine mB hT 8 rfl ?_
  exact hR _ (by decide) _ _ _ rfl rfl
set_option maxRecDepth 20000 in
theorem c_solve1_6_1_4n {n vs : Int32} {be de : Int64} {sz : Int32} {ro co mi : Nat → Int64} {T : Nat → Nat → Int64} {B : Nat → Nat → Nat → Int32} {hd : Nat → Nat → Int32} {df : Nat → Int32} {ly : Nat → Nat → Int64} {dt : Int64} {rr : Nat → Int64} (ely : ly = (lyT 1 (B 6) T)) (edt : dt = detX 1 ly) (h0 : ¬ dt = 0) (hs : dt < 0) (hrr : ∀ i : Nat, rr i = -(detX 1 (clT 1 ly i df))) : ∃ (co2 mi2 : Nat → Int64), KX1_solve l D ca ad [.ref 1, .ref 10, .int 1, .ref 27] (XW n vs be de sz ro co mi T B hd df) (some (.int 1)) (XW n vs (absX dt) dt 1 (roc 1 rr ro) co2 mi2 ly B hd df) := by
  obtain ⟨m0, em0⟩ : ∃ z, z = miX 1 ly mi := ⟨_, rfl⟩
  obtain ⟨c1, ec1⟩ : ∃ z, z = coT 1 ly 0 co := ⟨_, rfl⟩
  obtain ⟨m1, em1⟩ : ∃ z, z = miX 1 (clT 1 ly 0 df) m0 := ⟨_, rfl⟩
  refine ⟨c1, m1, ?_⟩
  refine PX1_solve (Nat.le_of_ble_eq_true rfl) (Or.inr rfl) ?_
  intro G hT hC hR
  refine mB hT 3 rfl ?_
  refine hC.1 _ 1 [_, _] _ _ _ _ _ (show KX1_layTable l D ca ad _ _ none (XW n vs be dt 1 ro co m0 ly B hd df) from (by rw [em0, edt, ely]; exact c_lay_6_1)) rfl rfl (Nat.le_of_ble_eq_true rfl) rfl ?_
  refine mB hT 5 rfl ?_
  refine mIf (fun hp => absurd hp (fun q => h0 (lc_eq.mp q))) (fun _ => ?_)
  refine mB hT 3 rfl ?_
  refine hC.2.1 _ [_] _ _ _ _ (c_abs _) rfl (Nat.le_of_ble_eq_true rfl) rfl ?_
  refine mB hT 10 rfl ?_
  refine mWd (w2 := (XW n vs (absX dt) dt 1 ro co m0 ly B hd df)) rfl ?_
  refine hC.2.2 _ 1 [_, _] _ _ _ _ _ (show KX1_determinantWithColumn l D ca ad _ _ (some (.long (detX 1 (clT 1 ly 0 df)))) (XW n vs (absX dt) dt 1 ro c1 m1 ly B hd df) from (by rw [em1, ec1]; exact c_dwc_4_1_0)) rfl rfl (Nat.le_of_ble_eq_true rfl) rfl ?_
  refine mB hT 9 rfl ?_
  refine mIf (fun hp => absurd hp (fun q => Int64.not_lt.mpr (lc_ge.mp q) hs)) (fun _ => ?_)
  refine mNf (lv2 := [(5, .long (detX 1 (clT 1 ly 0 df))), (4, .int 0), (0, .ref 1), (1, .ref 10), (2, .int 1), (3, .ref 27)]) (st2 := [.int 0, .ref 2]) rfl rfl ?_
  refine mB hT 3 rfl ?_
  refine mNf (lv2 := [(5, .long (detX 1 (clT 1 ly 0 df))), (4, .int 0), (0, .ref 1), (1, .ref 10), (2, .int 1), (3, .ref 27)]) (st2 := [.long (rr 0), .int 0, .ref 2]) rfl (by rw [hrr 0] <;> rfl) ?_
  refine mB hT 8 rfl ?_
  exact hR _ (by decide) _ _ _ rfl rfl
theorem c_solve1_6_1_4 {n vs : Int32} {be de : Int64} {sz : Int32} {ro co mi : Nat → Int64} {T : Nat → Nat → Int64} {B : Nat → Nat → Nat → Int32} {hd : Nat → Nat → Int32} {df : Nat → Int32} (h0 : ¬ detX 1 (lyT 1 (B 6) T) = 0) : ∃ (de2 : Int64) (co2 mi2 : Nat → Int64) (T2 : Nat → Nat → Int64), KX1_solve l D ca ad [.ref 1, .ref 10, .int 1, .ref 27] (XW n vs be de sz ro co mi T B hd df) (some (.int 1)) (XW n vs (absX (detX 1 (lyT 1 (B 6) T))) de2 1 (roX 1 (lyT 1 (B 6) T) df ro) co2 mi2 T2 B hd df) := by
  by_cases hs : detX 1 (lyT 1 (B 6) T) < 0
  · obtain ⟨c2, m2, k⟩ := c_solve1_6_1_4n (rr := rdX 1 (lyT 1 (B 6) T) df) rfl rfl h0 hs (fun i => if_pos hs)
    exact ⟨_, c2, m2, _, k⟩
  · obtain ⟨c2, m2, k⟩ := c_solve1_6_1_4p (rr := rdX 1 (lyT 1 (B 6) T) df) rfl rfl h0 hs (fun i => if_neg hs)
    exact ⟨_, c2, m2, _, k⟩
theorem c_solve0_6_2_0 {n vs : Int32} {be de : Int64} {sz : Int32} {ro co mi : Nat → Int64} {T : Nat → Nat → Int64} {B : Nat → Nat → Nat → Int32} {hd : Nat → Nat → Int32} {df : Nat → Int32} (h0 : detX 2 (lyT 2 (B 6) T) = 0) : ∃ (de2 : Int64) (mi2 : Nat → Int64) (T2 : Nat → Nat → Int64), KX1_solve l D ca ad [.ref 1, .ref 10, .int 2, .ref 23] (XW n vs be de sz ro co mi T B hd df) (some (.int 0)) (XW n vs be de2 2 ro co mi2 T2 B hd df) := by
  obtain ⟨ly, ely⟩ : ∃ z, z = (lyT 2 (B 6) T) := ⟨_, rfl⟩
  rw [← ely] at h0
  obtain ⟨dt, edt⟩ : ∃ z, z = detX 2 ly := ⟨_, rfl⟩
  rw [← edt] at h0
  obtain ⟨m0, em0⟩ : ∃ z, z = miX 2 ly mi := ⟨_, rfl⟩
  refine ⟨dt, m0, ly, ?_⟩
  refine PX1_solve (Nat.le_of_ble_eq_true rfl) (Or.inl rfl) ?_
  intro G hT hC hR
  refine mB hT 3 rfl ?_
  refine hC.1 _ 1 [_, _] _ _ _ _ _ (show KX1_layTable l D ca ad _ _ none (XW n vs be dt 2 ro co m0 ly B hd df) from (by rw [em0, edt, ely]; exact c_lay_6_2)) rfl rfl (Nat.le_of_ble_eq_true rfl) rfl ?_
  refine mB hT 5 rfl ?_
  refine mIf (fun _ => ?_) (fun hn => absurd (lc_eq.mpr h0) hn)
  refine mB hT 1 rfl ?_
  exact hR _ (by decide) _ _ _ rfl rfl
set_option maxRecDepth 20000 in
theorem c_solve1_6_2_0p {n vs : Int32} {be de : Int64} {sz : Int32} {ro co mi : Nat → Int64} {T : Nat → Nat → Int64} {B : Nat → Nat → Nat → Int32} {hd : Nat → Nat → Int32} {df : Nat → Int32} {ly : Nat → Nat → Int64} {dt : Int64} {rr : Nat → Int64} (ely : ly = (lyT 2 (B 6) T)) (edt : dt = detX 2 ly) (h0 : ¬ dt = 0) (hs : ¬ dt < 0) (hrr : ∀ i : Nat, rr i = detX 2 (clT 2 ly i (hd 0))) : ∃ (co2 mi2 : Nat → Int64), KX1_solve l D ca ad [.ref 1, .ref 10, .int 2, .ref 23] (XW n vs be de sz ro co mi T B hd df) (some (.int 1)) (XW n vs (absX dt) dt 2 (roc 2 rr ro) co2 mi2 ly B hd df) := by
  obtain ⟨m0, em0⟩ : ∃ z, z = miX 2 ly mi := ⟨_, rfl⟩
  obtain ⟨c1, ec1⟩ : ∃ z, z = coT 2 ly 0 co := ⟨_, rfl⟩
  obtain ⟨m1, em1⟩ : ∃ z, z = miX 2 (clT 2 ly 0 (hd 0)) m0 := ⟨_, rfl⟩
  obtain ⟨c2, ec2⟩ : ∃ z, z = coT 2 ly 1 c1 := ⟨_, rfl⟩
  obtain ⟨m2, em2⟩ : ∃ z, z = miX 2 (clT 2 ly 1 (hd 0)) m1 := ⟨_, rfl⟩
  refine ⟨c2, m2, ?_⟩
  refine PX1_solve (Nat.le_of_ble_eq_true rfl) (Or.inr rfl) ?_
  intro G hT hC hR
  refine mB hT 3 rfl ?_
  refine hC.1 _ 1 [_, _] _ _ _ _ _ (show KX1_layTable l D ca ad _ _ none (XW n vs be dt 2 ro co m0 ly B hd df) from (by rw [em0, edt, ely]; exact c_lay_6_2)) rfl rfl (Nat.le_of_ble_eq_true rfl) rfl ?_
  refine mB hT 5 rfl ?_
  refine mIf (fun hp => absurd hp (fun q => h0 (lc_eq.mp q))) (fun _ => ?_)
  refine mB hT 3 rfl ?_
  refine hC.2.1 _ [_] _ _ _ _ (c_abs _) rfl (Nat.le_of_ble_eq_true rfl) rfl ?_
  refine mB hT 10 rfl ?_
  refine mWd (w2 := (XW n vs (absX dt) dt 2 ro co m0 ly B hd df)) rfl ?_
  refine hC.2.2 _ 1 [_, _] _ _ _ _ _ (show KX1_determinantWithColumn l D ca ad _ _ (some (.long (detX 2 (clT 2 ly 0 (hd 0))))) (XW n vs (absX dt) dt 2 ro c1 m1 ly B hd df) from (by rw [em1, ec1]; exact c_dwc_0_2_0)) rfl rfl (Nat.le_of_ble_eq_true rfl) rfl ?_
  refine mB hT 9 rfl ?_
  refine mIf (fun _ => ?_) (fun hn => absurd (lc_ge.mpr (Int64.not_lt.mp hs)) hn)
  refine mNf (lv2 := [(5, .long (detX 2 (clT 2 ly 0 (hd 0)))), (4, .int 0), (0, .ref 1), (1, .ref 10), (2, .int 2), (3, .ref 23)]) (st2 := [.int 0, .ref 2]) rfl rfl ?_
  refine mB hT 1 rfl ?_
  refine mNf (lv2 := [(5, .long (detX 2 (clT 2 ly 0 (hd 0)))), (4, .int 0), (0, .ref 1), (1, .ref 10), (2, .int 2), (3, .ref 23)]) (st2 := [.long (rr 0), .int 0, .ref 2]) rfl (by rw [hrr 0] <;> rfl) ?_
  refine mB hT 10 rfl ?_
  refine mWd (w2 := (XW n vs (absX dt) dt 2 (up ro 0 (rr 0)) c1 m1 ly B hd df)) rfl ?_
  refine hC.2.2 _ 1 [_, _] _ _ _ _ _ (show KX1_determinantWithColumn l D ca ad _ _ (some (.long (detX 2 (clT 2 ly 1 (hd 0))))) (XW n vs (absX dt) dt 2 (up ro 0 (rr 0)) c2 m2 ly B hd df) from (by rw [em2, ec2]; exact c_dwc_0_2_1)) rfl rfl (Nat.le_of_ble_eq_true rfl) rfl ?_
  refine mB hT 9 rfl ?_
  refine mIf (fun _ => ?_) (fun hn => absurd (lc_ge.mpr (Int64.not_lt.mp hs)) hn)
  refine mNf (lv2 := [(5, .long (detX 2 (clT 2 ly 1 (hd 0)))), (4, .int 1), (0, .ref 1), (1, .ref 10), (2, .int 2), (3, .ref 23)]) (st2 := [.int 1, .ref 2]) rfl rfl ?_
  refine mB hT 1 rfl ?_
  refine mNf (lv2 := [(5, .long (detX 2 (clT 2 ly 1 (hd 0)))), (4, .int 1), (0, .ref 1), (1, .ref 10), (2, .int 2), (3, .ref 23)]) (st2 := [.long (rr 1), .int 1, .ref 2]) rfl (by rw [hrr 1] <;> rfl) ?_
  refine mB hT 8 rfl ?_
  exact hR _ (by decide) _ _ _ rfl rfl
set_option maxRecDepth 20000 in
theorem c_solve1_6_2_0n {n vs : Int32} {be de : Int64} {sz : Int32} {ro co mi : Nat → Int64} {T : Nat → Nat → Int64} {B : Nat → Nat → Nat → Int32} {hd : Nat → Nat → Int32} {df : Nat → Int32} {ly : Nat → Nat → Int64} {dt : Int64} {rr : Nat → Int64} (ely : ly = (lyT 2 (B 6) T)) (edt : dt = detX 2 ly) (h0 : ¬ dt = 0) (hs : dt < 0) (hrr : ∀ i : Nat, rr i = -(detX 2 (clT 2 ly i (hd 0)))) : ∃ (co2 mi2 : Nat → Int64), KX1_solve l D ca ad [.ref 1, .ref 10, .int 2, .ref 23] (XW n vs be de sz ro co mi T B hd df) (some (.int 1)) (XW n vs (absX dt) dt 2 (roc 2 rr ro) co2 mi2 ly B hd df) := by
  obtain ⟨m0, em0⟩ : ∃ z, z = miX 2 ly mi := ⟨_, rfl⟩
  obtain ⟨c1, ec1⟩ : ∃ z, z = coT 2 ly 0 co := ⟨_, rfl⟩
  obtain ⟨m1, em1⟩ : ∃ z, z = miX 2 (clT 2 ly 0 (hd 0)) m0 := ⟨_, rfl⟩
  obtain ⟨c2, ec2⟩ : ∃ z, z = coT 2 ly 1 c1 := ⟨_, rfl⟩
  obtain ⟨m2, em2⟩ : ∃ z, z = miX 2 (clT 2 ly 1 (hd 0)) m1 := ⟨_, rfl⟩
  refine ⟨c2, m2, ?_⟩
  refine PX1_solve (Nat.le_of_ble_eq_true rfl) (Or.inr rfl) ?_
  intro G hT hC hR
  refine mB hT 3 rfl ?_
  refine hC.1 _ 1 [_, _] _ _ _ _ _ (show KX1_layTable l D ca ad _ _ none (XW n vs be dt 2 ro co m0 ly B hd df) from (by rw [em0, edt, ely]; exact c_lay_6_2)) rfl rfl (Nat.le_of_ble_eq_true rfl) rfl ?_
  refine mB hT 5 rfl ?_
  refine mIf (fun hp => absurd hp (fun q => h0 (lc_eq.mp q))) (fun _ => ?_)
  refine mB hT 3 rfl ?_
  refine hC.2.1 _ [_] _ _ _ _ (c_abs _) rfl (Nat.le_of_ble_eq_true rfl) rfl ?_
  refine mB hT 10 rfl ?_
  refine mWd (w2 := (XW n vs (absX dt) dt 2 ro co m0 ly B hd df)) rfl ?_
  refine hC.2.2 _ 1 [_, _] _ _ _ _ _ (show KX1_determinantWithColumn l D ca ad _ _ (some (.long (detX 2 (clT 2 ly 0 (hd 0))))) (XW n vs (absX dt) dt 2 ro c1 m1 ly B hd df) from (by rw [em1, ec1]; exact c_dwc_0_2_0)) rfl rfl (Nat.le_of_ble_eq_true rfl) rfl ?_
  refine mB hT 9 rfl ?_
  refine mIf (fun hp => absurd hp (fun q => Int64.not_lt.mpr (lc_ge.mp q) hs)) (fun _ => ?_)
  refine mNf (lv2 := [(5, .long (detX 2 (clT 2 ly 0 (hd 0)))), (4, .int 0), (0, .ref 1), (1, .ref 10), (2, .int 2), (3, .ref 23)]) (st2 := [.int 0, .ref 2]) rfl rfl ?_
  refine mB hT 3 rfl ?_
  refine mNf (lv2 := [(5, .long (detX 2 (clT 2 ly 0 (hd 0)))), (4, .int 0), (0, .ref 1), (1, .ref 10), (2, .int 2), (3, .ref 23)]) (st2 := [.long (rr 0), .int 0, .ref 2]) rfl (by rw [hrr 0] <;> rfl) ?_
  refine mB hT 10 rfl ?_
  refine mWd (w2 := (XW n vs (absX dt) dt 2 (up ro 0 (rr 0)) c1 m1 ly B hd df)) rfl ?_
  refine hC.2.2 _ 1 [_, _] _ _ _ _ _ (show KX1_determinantWithColumn l D ca ad _ _ (some (.long (detX 2 (clT 2 ly 1 (hd 0))))) (XW n vs (absX dt) dt 2 (up ro 0 (rr 0)) c2 m2 ly B hd df) from (by rw [em2, ec2]; exact c_dwc_0_2_1)) rfl rfl (Nat.le_of_ble_eq_true rfl) rfl ?_
  refine mB hT 9 rfl ?_
  refine mIf (fun hp => absurd hp (fun q => Int64.not_lt.mpr (lc_ge.mp q) hs)) (fun _ => ?_)
  refine mNf (lv2 := [(5, .long (detX 2 (clT 2 ly 1 (hd 0)))), (4, .int 1), (0, .ref 1), (1, .ref 10), (2, .int 2), (3, .ref 23)]) (st2 := [.int 1, .ref 2]) rfl rfl ?_
  refine mB hT 3 rfl ?_
  refine mNf (lv2 := [(5, .long (detX 2 (clT 2 ly 1 (hd 0)))), (4, .int 1), (0, .ref 1), (1, .ref 10), (2, .int 2), (3, .ref 23)]) (st2 := [.long (rr 1), .int 1, .ref 2]) rfl (by rw [hrr 1] <;> rfl) ?_
  refine mB hT 8 rfl ?_
  exact hR _ (by decide) _ _ _ rfl rfl
theorem c_solve1_6_2_0 {n vs : Int32} {be de : Int64} {sz : Int32} {ro co mi : Nat → Int64} {T : Nat → Nat → Int64} {B : Nat → Nat → Nat → Int32} {hd : Nat → Nat → Int32} {df : Nat → Int32} (h0 : ¬ detX 2 (lyT 2 (B 6) T) = 0) : ∃ (de2 : Int64) (co2 mi2 : Nat → Int64) (T2 : Nat → Nat → Int64), KX1_solve l D ca ad [.ref 1, .ref 10, .int 2, .ref 23] (XW n vs be de sz ro co mi T B hd df) (some (.int 1)) (XW n vs (absX (detX 2 (lyT 2 (B 6) T))) de2 2 (roX 2 (lyT 2 (B 6) T) (hd 0) ro) co2 mi2 T2 B hd df) := by
  by_cases hs : detX 2 (lyT 2 (B 6) T) < 0
  · obtain ⟨c2, m2, k⟩ := c_solve1_6_2_0n (rr := rdX 2 (lyT 2 (B 6) T) (hd 0)) rfl rfl h0 hs (fun i => if_pos hs)
    exact ⟨_, c2, m2, _, k⟩
  · obtain ⟨c2, m2, k⟩ := c_solve1_6_2_0p (rr := rdX 2 (lyT 2 (B 6) T) (hd 0)) rfl rfl h0 hs (fun i => if_neg hs)
    exact ⟨_, c2, m2, _, k⟩
theorem c_solve0_6_2_1 {n vs : Int32} {be de : Int64} {sz : Int32} {ro co mi : Nat → Int64} {T : Nat → Nat → Int64} {B : Nat → Nat → Nat → Int32} {hd : Nat → Nat → Int32} {df : Nat → Int32} (h0 : detX 2 (lyT 2 (B 6) T) = 0) : ∃ (de2 : Int64) (mi2 : Nat → Int64) (T2 : Nat → Nat → Int64), KX1_solve l D ca ad [.ref 1, .ref 10, .int 2, .ref 24] (XW n vs be de sz ro co mi T B hd df) (some (.int 0)) (XW n vs be de2 2 ro co mi2 T2 B hd df) := by
  obtain ⟨ly, ely⟩ : ∃ z, z = (lyT 2 (B 6) T) := ⟨_, rfl⟩
  rw [← ely] at h0
  obtain ⟨dt, edt⟩ : ∃ z, z = detX 2 ly := ⟨_, rfl⟩
  rw [← edt] at h0
  obtain ⟨m0, em0⟩ : ∃ z, z = miX 2 ly mi := ⟨_, rfl⟩
  refine ⟨dt, m0, ly, ?_⟩
  refine PX1_solve (Nat.le_of_ble_eq_true rfl) (Or.inl rfl) ?_
  intro G hT hC hR
  refine mB hT 3 rfl ?_
  refine hC.1 _ 1 [_, _] _ _ _ _ _ (show KX1_layTable l D ca ad _ _ none (XW n vs be dt 2 ro co m0 ly B hd df) from (by rw [em0, edt, ely]; exact c_lay_6_2)) rfl rfl (Nat.le_of_ble_eq_true rfl) rfl ?_
  refine mB hT 5 rfl ?_
  refine mIf (fun _ => ?_) (fun hn => absurd (lc_eq.mpr h0) hn)
  refine mB hT 1 rfl ?_
  exact hR _ (by decide) _ _ _ rfl rfl
set_option maxRecDepth 20000 in
theorem c_solve1_6_2_1p {n vs : Int32} {be de : Int64} {sz : Int32} {ro co mi : Nat → Int64} {T : Nat → Nat → Int64} {B : Nat → Nat → Nat → Int32} {hd : Nat → Nat → Int32} {df : Nat → Int32} {ly : Nat → Nat → Int64} {dt : Int64} {rr : Nat → Int64} (ely : ly = (lyT 2 (B 6) T)) (edt : dt = detX 2 ly) (h0 : ¬ dt = 0) (hs : ¬ dt < 0) (hrr : ∀ i : Nat, rr i = detX 2 (clT 2 ly i (hd 1))) : ∃ (co2 mi2 : Nat → Int64), KX1_solve l D ca ad [.ref 1, .ref 10, .int 2, .ref 24] (XW n vs be de sz ro co mi T B hd df) (some (.int 1)) (XW n vs (absX dt) dt 2 (roc 2 rr ro) co2 mi2 ly B hd df) := by
  obtain ⟨m0, em0⟩ : ∃ z, z = miX 2 ly mi := ⟨_, rfl⟩
  obtain ⟨c1, ec1⟩ : ∃ z, z = coT 2 ly 0 co := ⟨_, rfl⟩
  obtain ⟨m1, em1⟩ : ∃ z, z = miX 2 (clT 2 ly 0 (hd 1)) m0 := ⟨_, rfl⟩
  obtain ⟨c2, ec2⟩ : ∃ z, z = coT 2 ly 1 c1 := ⟨_, rfl⟩
  obtain ⟨m2, em2⟩ : ∃ z, z = miX 2 (clT 2 ly 1 (hd 1)) m1 := ⟨_, rfl⟩
  refine ⟨c2, m2, ?_⟩
  refine PX1_solve (Nat.le_of_ble_eq_true rfl) (Or.inr rfl) ?_
  intro G hT hC hR
  refine mB hT 3 rfl ?_
  refine hC.1 _ 1 [_, _] _ _ _ _ _ (show KX1_layTable l D ca ad _ _ none (XW n vs be dt 2 ro co m0 ly B hd df) from (by rw [em0, edt, ely]; exact c_lay_6_2)) rfl rfl (Nat.le_of_ble_eq_true rfl) rfl ?_
  refine mB hT 5 rfl ?_
  refine mIf (fun hp => absurd hp (fun q => h0 (lc_eq.mp q))) (fun _ => ?_)
  refine mB hT 3 rfl ?_
  refine hC.2.1 _ [_] _ _ _ _ (c_abs _) rfl (Nat.le_of_ble_eq_true rfl) rfl ?_
  refine mB hT 10 rfl ?_
  refine mWd (w2 := (XW n vs (absX dt) dt 2 ro co m0 ly B hd df)) rfl ?_
  refine hC.2.2 _ 1 [_, _] _ _ _ _ _ (show KX1_determinantWithColumn l D ca ad _ _ (some (.long (detX 2 (clT 2 ly 0 (hd 1))))) (XW n vs (absX dt) dt 2 ro c1 m1 ly B hd df) from (by rw [em1, ec1]; exact c_dwc_1_2_0)) rfl rfl (Nat.le_of_ble_eq_true rfl) rfl ?_
  refine mB hT 9 rfl ?_
  refine mIf (fun _ => ?_) (fun hn => absurd (lc_ge.mpr (Int64.not_lt.mp hs)) hn)
  refine mNf (lv2 := [(5, .long (detX 2 (clT 2 ly 0 (hd 1)))), (4, .int 0), (0, .ref 1), (1, .ref 10), (2, .int 2), (3, .ref 24)]) (st2 := [.int 0, .ref 2]) rfl rfl ?_
  refine mB hT 1 rfl ?_
  refine mNf (lv2 := [(5, .long (detX 2 (clT 2 ly 0 (hd 1)))), (4, .int 0), (0, .ref 1), (1, .ref 10), (2, .int 2), (3, .ref 24)]) (st2 := [.long (rr 0), .int 0, .ref 2]) rfl (by rw [hrr 0] <;> rfl) ?_
  refine mB hT 10 rfl ?_
  refine mWd (w2 := (XW n vs (absX dt) dt 2 (up ro 0 (rr 0)) c1 m1 ly B hd df)) rfl ?_
  refine hC.2.2 _ 1 [_, _] _ _ _ _ _ (show KX1_determinantWithColumn l D ca ad _ _ (some (.long (detX 2 (clT 2 ly 1 (hd 1))))) (XW n vs (absX dt) dt 2 (up ro 0 (rr 0)) c2 m2 ly B hd df) from (by rw [em2, ec2]; exact c_dwc_1_2_1)) rfl rfl (Nat.le_of_ble_eq_true rfl) rfl ?_
  refine mB hT 9 rfl ?_
  refine mIf (fun _ => ?_) (fun hn => absurd (lc_ge.mpr (Int64.not_lt.mp hs)) hn)
  refine mNf (lv2 := [(5, .long (detX 2 (clT 2 ly 1 (hd 1)))), (4, .int 1), (0, .ref 1), (1, .ref 10), (2, .int 2), (3, .ref 24)]) (st2 := [.int 1, .ref 2]) rfl rfl ?_
  refine mB hT 1 rfl ?_
  refine mNf (lv2 := [(5, .long (detX 2 (clT 2 ly 1 (hd 1)))), (4, .int 1), (0, .ref 1), (1, .ref 10), (2, .int 2), (3, .ref 24)]) (st2 := [.long (rr 1), .int 1, .ref 2]) rfl (by rw [hrr 1] <;> rfl) ?_
  refine mB hT 8 rfl ?_
  exact hR _ (by decide) _ _ _ rfl rfl
set_option maxRecDepth 20000 in
theorem c_solve1_6_2_1n {n vs : Int32} {be de : Int64} {sz : Int32} {ro co mi : Nat → Int64} {T : Nat → Nat → Int64} {B : Nat → Nat → Nat → Int32} {hd : Nat → Nat → Int32} {df : Nat → Int32} {ly : Nat → Nat → Int64} {dt : Int64} {rr : Nat → Int64} (ely : ly = (lyT 2 (B 6) T)) (edt : dt = detX 2 ly) (h0 : ¬ dt = 0) (hs : dt < 0) (hrr : ∀ i : Nat, rr i = -(detX 2 (clT 2 ly i (hd 1)))) : ∃ (co2 mi2 : Nat → Int64), KX1_solve l D ca ad [.ref 1, .ref 10, .int 2, .ref 24] (XW n vs be de sz ro co mi T B hd df) (some (.int 1)) (XW n vs (absX dt) dt 2 (roc 2 rr ro) co2 mi2 ly B hd df) := by
  obtain ⟨m0, em0⟩ : ∃ z, z = miX 2 ly mi := ⟨_, rfl⟩
  obtain ⟨c1, ec1⟩ : ∃ z, z = coT 2 ly 0 co := ⟨_, rfl⟩
  obtain ⟨m1, em1⟩ : ∃ z, z = miX 2 (clT 2 ly 0 (hd 1)) m0 := ⟨_, rfl⟩
  obtain ⟨c2, ec2⟩ : ∃ z, z = coT 2 ly 1 c1 := ⟨_, rfl⟩
  obtain ⟨m2, em2⟩ : ∃ z, z = miX 2 (clT 2 ly 1 (hd 1)) m1 := ⟨_, rfl⟩
  refine ⟨c2, m2, ?_⟩
  refine PX1_solve (Nat.le_of_ble_eq_true rfl) (Or.inr rfl) ?_
  intro G hT hC hR
  refine mB hT 3 rfl ?_
  refine hC.1 _ 1 [_, _] _ _ _ _ _ (show KX1_layTable l D ca ad _ _ none (XW n vs be dt 2 ro co m0 ly B hd df) from (by rw [em0, edt, ely]; exact c_lay_6_2)) rfl rfl (Nat.le_of_ble_eq_true rfl) rfl ?_
  refine mB hT 5 rfl ?_
  refine mIf (fun hp => absurd hp (fun q => h0 (lc_eq.mp q))) (fun _ => ?_)
  refine mB hT 3 rfl ?_
  refine hC.2.1 _ [_] _ _ _ _ (c_abs _) rfl (Nat.le_of_ble_eq_true rfl) rfl ?_
  refine mB hT 10 rfl ?_
  refine mWd (w2 := (XW n vs (absX dt) dt 2 ro co m0 ly B hd df)) rfl ?_
  refine hC.2.2 _ 1 [_, _] _ _ _ _ _ (show KX1_determinantWithColumn l D ca ad _ _ (some (.long (detX 2 (clT 2 ly 0 (hd 1))))) (XW n vs (absX dt) dt 2 ro c1 m1 ly B hd df) from (by rw [em1, ec1]; exact c_dwc_1_2_0)) rfl rfl (Nat.le_of_ble_eq_true rfl) rfl ?_
  refine mB hT 9 rfl ?_
  refine mIf (fun hp => absurd hp (fun q => Int64.not_lt.mpr (lc_ge.mp q) hs)) (fun _ => ?_)
  refine mNf (lv2 := [(5, .long (detX 2 (clT 2 ly 0 (hd 1)))), (4, .int 0), (0, .ref 1), (1, .ref 10), (2, .int 2), (3, .ref 24)]) (st2 := [.int 0, .ref 2]) rfl rfl ?_
  refine mB hT 3 rfl ?_
  refine mNf (lv2 := [(5, .long (detX 2 (clT 2 ly 0 (hd 1)))), (4, .int 0), (0, .ref 1), (1, .ref 10), (2, .int 2), (3, .ref 24)]) (st2 := [.long (rr 0), .int 0, .ref 2]) rfl (by rw [hrr 0] <;> rfl) ?_
  refine mB hT 10 rfl ?_
  refine mWd (w2 := (XW n vs (absX dt) dt 2 (up ro 0 (rr 0)) c1 m1 ly B hd df)) rfl ?_
  refine hC.2.2 _ 1 [_, _] _ _ _ _ _ (show KX1_determinantWithColumn l D ca ad _ _ (some (.long (detX 2 (clT 2 ly 1 (hd 1))))) (XW n vs (absX dt) dt 2 (up ro 0 (rr 0)) c2 m2 ly B hd df) from (by rw [em2, ec2]; exact c_dwc_1_2_1)) rfl rfl (Nat.le_of_ble_eq_true rfl) rfl ?_
  refine mB hT 9 rfl ?_
  refine mIf (fun hp => absurd hp (fun q => Int64.not_lt.mpr (lc_ge.mp q) hs)) (fun _ => ?_)
  refine mNf (lv2 := [(5, .long (detX 2 (clT 2 ly 1 (hd 1)))), (4, .int 1), (0, .ref 1), (1, .ref 10), (2, .int 2), (3, .ref 24)]) (st2 := [.int 1, .ref 2]) rfl rfl ?_
  refine mB hT 3 rfl ?_
  refine mNf (lv2 := [(5, .long (detX 2 (clT 2 ly 1 (hd 1)))), (4, .int 1), (0, .ref 1), (1, .ref 10), (2, .int 2), (3, .ref 24)]) (st2 := [.long (rr 1), .int 1, .ref 2]) rfl (by rw [hrr 1] <;> rfl) ?_
  refine mB hT 8 rfl ?_
  exact hR _ (by decide) _ _ _ rfl rfl
theorem c_solve1_6_2_1 {n vs : Int32} {be de : Int64} {sz : Int32} {ro co mi : Nat → Int64} {T : Nat → Nat → Int64} {B : Nat → Nat → Nat → Int32} {hd : Nat → Nat → Int32} {df : Nat → Int32} (h0 : ¬ detX 2 (lyT 2 (B 6) T) = 0) : ∃ (de2 : Int64) (co2 mi2 : Nat → Int64) (T2 : Nat → Nat → Int64), KX1_solve l D ca ad [.ref 1, .ref 10, .int 2, .ref 24] (XW n vs be de sz ro co mi T B hd df) (some (.int 1)) (XW n vs (absX (detX 2 (lyT 2 (B 6) T))) de2 2 (roX 2 (lyT 2 (B 6) T) (hd 1) ro) co2 mi2 T2 B hd df) := by
  by_cases hs : detX 2 (lyT 2 (B 6) T) < 0
  · obtain ⟨c2, m2, k⟩ := c_solve1_6_2_1n (rr := rdX 2 (lyT 2 (B 6) T) (hd 1)) rfl rfl h0 hs (fun i => if_pos hs)
    exact ⟨_, c2, m2, _, k⟩
  · obtain ⟨c2, m2, k⟩ := c_solve1_6_2_1p (rr := rdX 2 (lyT 2 (B 6) T) (hd 1)) rfl rfl h0 hs (fun i => if_neg hs)
    exact ⟨_, c2, m2, _, k⟩
theorem c_solve0_6_2_2 {n vs : Int32} {be de : Int64} {sz : Int32} {ro co mi : Nat → Int64} {T : Nat → Nat → Int64} {B : Nat → Nat → Nat → Int32} {hd : Nat → Nat → Int32} {df : Nat → Int32} (h0 : detX 2 (lyT 2 (B 6) T) = 0) : ∃ (de2 : Int64) (mi2 : Nat → Int64) (T2 : Nat → Nat → Int64), KX1_solve l D ca ad [.ref 1, .ref 10, .int 2, .ref 25] (XW n vs be de sz ro co mi T B hd df) (some (.int 0)) (XW n vs be de2 2 ro co mi2 T2 B hd df) := by
  obtain ⟨ly, ely⟩ : ∃ z, z = (lyT 2 (B 6) T) := ⟨_, rfl⟩
  rw [← ely] at h0
  obtain ⟨dt, edt⟩ : ∃ z, z = detX 2 ly := ⟨_, rfl⟩
  rw [← edt] at h0
  obtain ⟨m0, em0⟩ : ∃ z, z = miX 2 ly mi := ⟨_, rfl⟩
  refine ⟨dt, m0, ly, ?_⟩
  refine PX1_solve (Nat.le_of_ble_eq_true rfl) (Or.inl rfl) ?_
  intro G hT hC hR
  refine mB hT 3 rfl ?_
  refine hC.1 _ 1 [_, _] _ _ _ _ _ (show KX1_layTable l D ca ad _ _ none (XW n vs be dt 2 ro co m0 ly B hd df) from (by rw [em0, edt, ely]; exact c_lay_6_2)) rfl rfl (Nat.le_of_ble_eq_true rfl) rfl ?_
  refine mB hT 5 rfl ?_
  refine mIf (fun _ => ?_) (fun hn => absurd (lc_eq.mpr h0) hn)
  refine mB hT 1 rfl ?_
  exact hR _ (by decide) _ _ _ rfl rfl
set_option maxRecDepth 20000 in
theorem c_solve1_6_2_2p {n vs : Int32} {be de : Int64} {sz : Int32} {ro co mi : Nat → Int64} {T : Nat → Nat → Int64} {B : Nat → Nat → Nat → Int32} {hd : Nat → Nat → Int32} {df : Nat → Int32} {ly : Nat → Nat → Int64} {dt : Int64} {rr : Nat → Int64} (ely : ly = (lyT 2 (B 6) T)) (edt : dt = detX 2 ly) (h0 : ¬ dt = 0) (hs : ¬ dt < 0) (hrr : ∀ i : Nat, rr i = detX 2 (clT 2 ly i (hd 2))) : ∃ (co2 mi2 : Nat → Int64), KX1_solve l D ca ad [.ref 1, .ref 10, .int 2, .ref 25] (XW n vs be de sz ro co mi T B hd df) (some (.int 1)) (XW n vs (absX dt) dt 2 (roc 2 rr ro) co2 mi2 ly B hd df) := by
  obtain ⟨m0, em0⟩ : ∃ z, z = miX 2 ly mi := ⟨_, rfl⟩
  obtain ⟨c1, ec1⟩ : ∃ z, z = coT 2 ly 0 co := ⟨_, rfl⟩
  obtain ⟨m1, em1⟩ : ∃ z, z = miX 2 (clT 2 ly 0 (hd 2)) m0 := ⟨_, rfl⟩
  obtain ⟨c2, ec2⟩ : ∃ z, z = coT 2 ly 1 c1 := ⟨_, rfl⟩
  obtain ⟨m2, em2⟩ : ∃ z, z = miX 2 (clT 2 ly 1 (hd 2)) m1 := ⟨_, rfl⟩
  refine ⟨c2, m2, ?_⟩
  refine PX1_solve (Nat.le_of_ble_eq_true rfl) (Or.inr rfl) ?_
  intro G hT hC hR
  refine mB hT 3 rfl ?_
  refine hC.1 _ 1 [_, _] _ _ _ _ _ (show KX1_layTable l D ca ad _ _ none (XW n vs be dt 2 ro co m0 ly B hd df) from (by rw [em0, edt, ely]; exact c_lay_6_2)) rfl rfl (Nat.le_of_ble_eq_true rfl) rfl ?_
  refine mB hT 5 rfl ?_
  refine mIf (fun hp => absurd hp (fun q => h0 (lc_eq.mp q))) (fun _ => ?_)
  refine mB hT 3 rfl ?_
  refine hC.2.1 _ [_] _ _ _ _ (c_abs _) rfl (Nat.le_of_ble_eq_true rfl) rfl ?_
  refine mB hT 10 rfl ?_
  refine mWd (w2 := (XW n vs (absX dt) dt 2 ro co m0 ly B hd df)) rfl ?_
  refine hC.2.2 _ 1 [_, _] _ _ _ _ _ (show KX1_determinantWithColumn l D ca ad _ _ (some (.long (detX 2 (clT 2 ly 0 (hd 2))))) (XW n vs (absX dt) dt 2 ro c1 m1 ly B hd df) from (by rw [em1, ec1]; exact c_dwc_2_2_0)) rfl rfl (Nat.le_of_ble_eq_true rfl) rfl ?_
  refine mB hT 9 rfl ?_
  refine mIf (fun _ => ?_) (fun hn => absurd (lc_ge.mpr (Int64.not_lt.mp hs)) hn)
  refine mNf (lv2 := [(5, .long (detX 2 (clT 2 ly 0 (hd 2)))), (4, .int 0), (0, .ref 1), (1, .ref 10), (2, .int 2), (3, .ref 25)]) (st2 := [.int 0, .ref 2]) rfl rfl ?_
  refine mB hT 1 rfl ?_
  refine mNf (lv2 := [(5, .long (detX 2 (clT 2 ly 0 (hd 2)))), (4, .int 0), (0, .ref 1), (1, .ref 10), (2, .int 2), (3, .ref 25)]) (st2 := [.long (rr 0), .int 0, .ref 2]) rfl (by rw [hrr 0] <;> rfl) ?_
  refine mB hT 10 rfl ?_
  refine mWd (w2 := (XW n vs (absX dt) dt 2 (up ro 0 (rr 0)) c1 m1 ly B hd df)) rfl ?_
  refine hC.2.2 _ 1 [_, _] _ _ _ _ _ (show KX1_determinantWithColumn l D ca ad _ _ (some (.long (detX 2 (clT 2 ly 1 (hd 2))))) (XW n vs (absX dt) dt 2 (up ro 0 (rr 0)) c2 m2 ly B hd df) from (by rw [em2, ec2]; exact c_dwc_2_2_1)) rfl rfl (Nat.le_of_ble_eq_true rfl) rfl ?_
  refine mB hT 9 rfl ?_
  refine mIf (fun _ => ?_) (fun hn => absurd (lc_ge.mpr (Int64.not_lt.mp hs)) hn)
  refine mNf (lv2 := [(5, .long (detX 2 (clT 2 ly 1 (hd 2)))), (4, .int 1), (0, .ref 1), (1, .ref 10), (2, .int 2), (3, .ref 25)]) (st2 := [.int 1, .ref 2]) rfl rfl ?_
  refine mB hT 1 rfl ?_
  refine mNf (lv2 := [(5, .long (detX 2 (clT 2 ly 1 (hd 2)))), (4, .int 1), (0, .ref 1), (1, .ref 10), (2, .int 2), (3, .ref 25)]) (st2 := [.long (rr 1), .int 1, .ref 2]) rfl (by rw [hrr 1] <;> rfl) ?_
  refine mB hT 8 rfl ?_
  exact hR _ (by decide) _ _ _ rfl rfl
set_option maxRecDepth 20000 in
theorem c_solve1_6_2_2n {n vs : Int32} {be de : Int64} {sz : Int32} {ro co mi : Nat → Int64} {T : Nat → Nat → Int64} {B : Nat → Nat → Nat → Int32} {hd : Nat → Nat → Int32} {df : Nat → Int32} {ly : Nat → Nat → Int64} {dt : Int64} {rr : Nat → Int64} (ely : ly = (lyT 2 (B 6) T)) (edt : dt = detX 2 ly) (h0 : ¬ dt = 0) (hs : dt < 0) (hrr : ∀ i : Nat, rr i = -(detX 2 (clT 2 ly i (hd 2)))) : ∃ (co2 mi2 : Nat → Int64), KX1_solve l D ca ad [.ref 1, .ref 10, .int 2, .ref 25] (XW n vs be de sz ro co mi T B hd df) (some (.int 1)) (XW n vs (absX dt) dt 2 (roc 2 rr ro) co2 mi2 ly B hd df) := by
  obtain ⟨m0, em0⟩ : ∃ z, z = miX 2 ly mi := ⟨_, rfl⟩
  obtain ⟨c1, ec1⟩ : ∃ z, z = coT 2 ly 0 co := ⟨_, rfl⟩
  obtain ⟨m1, em1⟩ : ∃ z, z = miX 2 (clT 2 ly 0 (hd 2)) m0 := ⟨_, rfl⟩
  obtain ⟨c2, ec2⟩ : ∃ z, z = coT 2 ly 1 c1 := ⟨_, rfl⟩
  obtain ⟨m2, em2⟩ : ∃ z, z = miX 2 (clT 2 ly 1 (hd 2)) m1 := ⟨_, rfl⟩
  refine ⟨c2, m2, ?_⟩
  refine PX1_solve (Nat.le_of_ble_eq_true rfl) (Or.inr rfl) ?_
  intro G hT hC hR
  refine mB hT 3 rfl ?_
  refine hC.1 _ 1 [_, _] _ _ _ _ _ (show KX1_layTable l D ca ad _ _ none (XW n vs be dt 2 ro co m0 ly B hd df) from (by rw [em0, edt, ely]; exact c_lay_6_2)) rfl rfl (Nat.le_of_ble_eq_true rfl) rfl ?_
  refine mB hT 5 rfl ?_
  refine mIf (fun hp => absurd hp (fun q => h0 (lc_eq.mp q))) (fun _ => ?_)
  refine mB hT 3 rfl ?_
  refine hC.2.1 _ [_] _ _ _ _ (c_abs _) rfl (Nat.le_of_ble_eq_true rfl) rfl ?_
  refine mB hT 10 rfl ?_
  refine mWd (w2 := (XW n vs (absX dt) dt 2 ro co m0 ly B hd df)) rfl ?_
  refine hC.2.2 _ 1 [_, _] _ _ _ _ _ (show KX1_determinantWithColumn l D ca ad _ _ (some (.long (detX 2 (clT 2 ly 0 (hd 2))))) (XW n vs (absX dt) dt 2 ro c1 m1 ly B hd df) from (by rw [em1, ec1]; exact c_dwc_2_2_0)) rfl rfl (Nat.le_of_ble_eq_true rfl) rfl ?_
  refine mB hT 9 rfl ?_
  refine mIf (fun hp => absurd hp (fun q => Int64.not_lt.mpr (lc_ge.mp q) hs)) (fun _ => ?_)
  refine mNf (lv2 := [(5, .long (detX 2 (clT 2 ly 0 (hd 2)))), (4, .int 0), (0, .ref 1), (1, .ref 10), (2, .int 2), (3, .ref 25)]) (st2 := [.int 0, .ref 2]) rfl rfl ?_
  refine mB hT 3 rfl ?_
  refine mNf (lv2 := [(5, .long (detX 2 (clT 2 ly 0 (hd 2)))), (4, .int 0), (0, .ref 1), (1, .ref 10), (2, .int 2), (3, .ref 25)]) (st2 := [.long (rr 0), .int 0, .ref 2]) rfl (by rw [hrr 0] <;> rfl) ?_
  refine mB hT 10 rfl ?_
  refine mWd (w2 := (XW n vs (absX dt) dt 2 (up ro 0 (rr 0)) c1 m1 ly B hd df)) rfl ?_
  refine hC.2.2 _ 1 [_, _] _ _ _ _ _ (show KX1_determinantWithColumn l D ca ad _ _ (some (.long (detX 2 (clT 2 ly 1 (hd 2))))) (XW n vs (absX dt) dt 2 (up ro 0 (rr 0)) c2 m2 ly B hd df) from (by rw [em2, ec2]; exact c_dwc_2_2_1)) rfl rfl (Nat.le_of_ble_eq_true rfl) rfl ?_
  refine mB hT 9 rfl ?_
  refine mIf (fun hp => absurd hp (fun q => Int64.not_lt.mpr (lc_ge.mp q) hs)) (fun _ => ?_)
  refine mNf (lv2 := [(5, .long (detX 2 (clT 2 ly 1 (hd 2)))), (4, .int 1), (0, .ref 1), (1, .ref 10), (2, .int 2), (3, .ref 25)]) (st2 := [.int 1, .ref 2]) rfl rfl ?_
  refine mB hT 3 rfl ?_
  refine mNf (lv2 := [(5, .long (detX 2 (clT 2 ly 1 (hd 2)))), (4, .int 1), (0, .ref 1), (1, .ref 10), (2, .int 2), (3, .ref 25)]) (st2 := [.long (rr 1), .int 1, .ref 2]) rfl (by rw [hrr 1] <;> rfl) ?_
  refine mB hT 8 rfl ?_
  exact hR _ (by decide) _ _ _ rfl rfl
theorem c_solve1_6_2_2 {n vs : Int32} {be de : Int64} {sz : Int32} {ro co mi : Nat → Int64} {T : Nat → Nat → Int64} {B : Nat → Nat → Nat → Int32} {hd : Nat → Nat → Int32} {df : Nat → Int32} (h0 : ¬ detX 2 (lyT 2 (B 6) T) = 0) : ∃ (de2 : Int64) (co2 mi2 : Nat → Int64) (T2 : Nat → Nat → Int64), KX1_solve l D ca ad [.ref 1, .ref 10, .int 2, .ref 25] (XW n vs be de sz ro co mi T B hd df) (some (.int 1)) (XW n vs (absX (detX 2 (lyT 2 (B 6) T))) de2 2 (roX 2 (lyT 2 (B 6) T) (hd 2) ro) co2 mi2 T2 B hd df) := by
  by_cases hs : detX 2 (lyT 2 (B 6) T) < 0
  · obtain ⟨c2, m2, k⟩ := c_solve1_6_2_2n (rr := rdX 2 (lyT 2 (B 6) T) (hd 2)) rfl rfl h0 hs (fun i => if_pos hs)
    exact ⟨_, c2, m2, _, k⟩
  · obtain ⟨c2, m2, k⟩ := c_solve1_6_2_2p (rr := rdX 2 (lyT 2 (B 6) T) (hd 2)) rfl rfl h0 hs (fun i => if_neg hs)
    exact ⟨_, c2, m2, _, k⟩
theorem c_solve0_6_2_3 {n vs : Int32} {be de : Int64} {sz : Int32} {ro co mi : Nat → Int64} {T : Nat → Nat → Int64} {B : Nat → Nat → Nat → Int32} {hd : Nat → Nat → Int32} {df : Nat → Int32} (h0 : detX 2 (lyT 2 (B 6) T) = 0) : ∃ (de2 : Int64) (mi2 : Nat → Int64) (T2 : Nat → Nat → Int64), KX1_solve l D ca ad [.ref 1, .ref 10, .int 2, .ref 26] (XW n vs be de sz ro co mi T B hd df) (some (.int 0)) (XW n vs be de2 2 ro co mi2 T2 B hd df) := by
  obtain ⟨ly, ely⟩ : ∃ z, z = (lyT 2 (B 6) T) := ⟨_, rfl⟩
  rw [← ely] at h0
  obtain ⟨dt, edt⟩ : ∃ z, z = detX 2 ly := ⟨_, rfl⟩
  rw [← edt] at h0
  obtain ⟨m0, em0⟩ : ∃ z, z = miX 2 ly mi := ⟨_, rfl⟩
  refine ⟨dt, m0, ly, ?_⟩
  refine PX1_solve (Nat.le_of_ble_eq_true rfl) (Or.inl rfl) ?_
  intro G hT hC hR
  refine mB hT 3 rfl ?_
  refine hC.1 _ 1 [_, _] _ _ _ _ _ (show KX1_layTable l D ca ad _ _ none (XW n vs be dt 2 ro co m0 ly B hd df) from (by rw [em0, edt, ely]; exact c_lay_6_2)) rfl rfl (Nat.le_of_ble_eq_true rfl) rfl ?_
  refine mB hT 5 rfl ?_
  refine mIf (fun _ => ?_) (fun hn => absurd (lc_eq.mpr h0) hn)
  refine mB hT 1 rfl ?_
  exact hR _ (by decide) _ _ _ rfl rfl
set_option maxRecDepth 20000 in
theorem c_solve1_6_2_3p {n vs : Int32} {be de : Int64} {sz : Int32} {ro co mi : Nat → Int64} {T : Nat → Nat → Int64} {B : Nat → Nat → Nat → Int32} {hd : Nat → Nat → Int32} {df : Nat → Int32} {ly : Nat → Nat → Int64} {dt : Int64} {rr : Nat → Int64} (ely : ly = (lyT 2 (B 6) T)) (edt : dt = detX 2 ly) (h0 : ¬ dt = 0) (hs : ¬ dt < 0) (hrr : ∀ i : Nat, rr i = detX 2 (clT 2 ly i (hd 3))) : ∃ (co2 mi2 : Nat → Int64), KX1_solve l D ca ad [.ref 1, .ref 10, .int 2, .ref 26] (XW n vs be de sz ro co mi T B hd df) (some (.int 1)) (XW n vs (absX dt) dt 2 (roc 2 rr ro) co2 mi2 ly B hd df) := by
  obtain ⟨m0, em0⟩ : ∃ z, z = miX 2 ly mi := ⟨_, rfl⟩
  obtain ⟨c1, ec1⟩ : ∃ z, z = coT 2 ly 0 co := ⟨_, rfl⟩
  obtain ⟨m1, em1⟩ : ∃ z, z = miX 2 (clT 2 ly 0 (hd 3)) m0 := ⟨_, rfl⟩
  obtain ⟨c2, ec2⟩ : ∃ z, z = coT 2 ly 1 c1 := ⟨_, rfl⟩
  obtain ⟨m2, em2⟩ : ∃ z, z = miX 2 (clT 2 ly 1 (hd 3)) m1 := ⟨_, rfl⟩
  refine ⟨c2, m2, ?_⟩
  refine PX1_solve (Nat.le_of_ble_eq_true rfl) (Or.inr rfl) ?_
  intro G hT hC hR
  refine mB hT 3 rfl ?_
  refine hC.1 _ 1 [_, _] _ _ _ _ _ (show KX1_layTable l D ca ad _ _ none (XW n vs be dt 2 ro co m0 ly B hd df) from (by rw [em0, edt, ely]; exact c_lay_6_2)) rfl rfl (Nat.le_of_ble_eq_true rfl) rfl ?_
  refine mB hT 5 rfl ?_
  refine mIf (fun hp => absurd hp (fun q => h0 (lc_eq.mp q))) (fun _ => ?_)
  refine mB hT 3 rfl ?_
  refine hC.2.1 _ [_] _ _ _ _ (c_abs _) rfl (Nat.le_of_ble_eq_true rfl) rfl ?_
  refine mB hT 10 rfl ?_
  refine mWd (w2 := (XW n vs (absX dt) dt 2 ro co m0 ly B hd df)) rfl ?_
  refine hC.2.2 _ 1 [_, _] _ _ _ _ _ (show KX1_determinantWithColumn l D ca ad _ _ (some (.long (detX 2 (clT 2 ly 0 (hd 3))))) (XW n vs (absX dt) dt 2 ro c1 m1 ly B hd df) from (by rw [em1, ec1]; exact c_dwc_3_2_0)) rfl rfl (Nat.le_of_ble_eq_true rfl) rfl ?_
  refine mB hT 9 rfl ?_
  refine mIf (fun _ => ?_) (fun hn => absurd (lc_ge.mpr (Int64.not_lt.mp hs)) hn)
  refine mNf (lv2 := [(5, .long (detX 2 (clT 2 ly 0 (hd 3)))), (4, .int 0), (0, .ref 1), (1, .ref 10), (2, .int 2), (3, .ref 26)]) (st2 := [.int 0, .ref 2]) rfl rfl ?_
  refine mB hT 1 rfl ?_
  refine mNf (lv2 := [(5, .long (detX 2 (clT 2 ly 0 (hd 3)))), (4, .int 0), (0, .ref 1), (1, .ref 10), (2, .int 2), (3, .ref 26)]) (st2 := [.long (rr 0), .int 0, .ref 2]) rfl (by rw [hrr 0] <;> rfl) ?_
  refine mB hT 10 rfl ?_
  refine mWd (w2 := (XW n vs (absX dt) dt 2 (up ro 0 (rr 0)) c1 m1 ly B hd df)) rfl ?_
  refine hC.2.2 _ 1 [_, _] _ _ _ _ _ (show KX1_determinantWithColumn l D ca ad _ _ (some (.long (detX 2 (clT 2 ly 1 (hd 3))))) (XW n vs (absX dt) dt 2 (up ro 0 (rr 0)) c2 m2 ly B hd df) from (by rw [em2, ec2]; exact c_dwc_3_2_1)) rfl rfl (Nat.le_of_ble_eq_true rfl) rfl ?_
  refine mB hT 9 rfl ?_
  refine mIf (fun _ => ?_) (fun hn => absurd (lc_ge.mpr (Int64.not_lt.mp hs)) hn)
  refine mNf (lv2 := [(5, .long (detX 2 (clT 2 ly 1 (hd 3)))), (4, .int 1), (0, .ref 1), (1, .ref 10), (2, .int 2), (3, .ref 26)]) (st2 := [.int 1, .ref 2]) rfl rfl ?_
  refine mB hT 1 rfl ?_
  refine mNf (lv2 := [(5, .long (detX 2 (clT 2 ly 1 (hd 3)))), (4, .int 1), (0, .ref 1), (1, .ref 10), (2, .int 2), (3, .ref 26)]) (st2 := [.long (rr 1), .int 1, .ref 2]) rfl (by rw [hrr 1] <;> rfl) ?_
  refine mB hT 8 rfl ?_
  exact hR _ (by decide) _ _ _ rfl rfl
set_option maxRecDepth 20000 in
theorem c_solve1_6_2_3n {n vs : Int32} {be de : Int64} {sz : Int32} {ro co mi : Nat → Int64} {T : Nat → Nat → Int64} {B : Nat → Nat → Nat → Int32} {hd : Nat → Nat → Int32} {df : Nat → Int32} {ly : Nat → Nat → Int64} {dt : Int64} {rr : Nat → Int64} (ely : ly = (lyT 2 (B 6) T)) (edt : dt = detX 2 ly) (h0 : ¬ dt = 0) (hs : dt < 0) (hrr : ∀ i : Nat, rr i = -(detX 2 (clT 2 ly i (hd 3)))) : ∃ (co2 mi2 : Nat → Int64), KX1_solve l D ca ad [.ref 1, .ref 10, .int 2, .ref 26] (XW n vs be de sz ro co mi T B hd df) (some (.int 1)) (XW n vs (absX dt) dt 2 (roc 2 rr ro) co2 mi2 ly B hd df) := by
  obtain ⟨m0, em0⟩ : ∃ z, z = miX 2 ly mi := ⟨_, rfl⟩
  obtain ⟨c1, ec1⟩ : ∃ z, z = coT 2 ly 0 co := ⟨_, rfl⟩
  obtain ⟨m1, em1⟩ : ∃ z, z = miX 2 (clT 2 ly 0 (hd 3)) m0 := ⟨_, rfl⟩
  obtain ⟨c2, ec2⟩ : ∃ z, z = coT 2 ly 1 c1 := ⟨_, rfl⟩
  obtain ⟨m2, em2⟩ : ∃ z, z = miX 2 (clT 2 ly 1 (hd 3)) m1 := ⟨_, rfl⟩
  refine ⟨c2, m2, ?_⟩
  refine PX1_solve (Nat.le_of_ble_eq_true rfl) (Or.inr rfl) ?_
  intro G hT hC hR
  refine mB hT 3 rfl ?_
  refine hC.1 _ 1 [_, _] _ _ _ _ _ (show KX1_layTable l D ca ad _ _ none (XW n vs be dt 2 ro co m0 ly B hd df) from (by rw [em0, edt, ely]; exact c_lay_6_2)) rfl rfl (Nat.le_of_ble_eq_true rfl) rfl ?_
  refine mB hT 5 rfl ?_
  refine mIf (fun hp => absurd hp (fun q => h0 (lc_eq.mp q))) (fun _ => ?_)
  refine mB hT 3 rfl ?_
  refine hC.2.1 _ [_] _ _ _ _ (c_abs _) rfl (Nat.le_of_ble_eq_true rfl) rfl ?_
  refine mB hT 10 rfl ?_
  refine mWd (w2 := (XW n vs (absX dt) dt 2 ro co m0 ly B hd df)) rfl ?_
  refine hC.2.2 _ 1 [_, _] _ _ _ _ _ (show KX1_determinantWithColumn l D ca ad _ _ (some (.long (detX 2 (clT 2 ly 0 (hd 3))))) (XW n vs (absX dt) dt 2 ro c1 m1 ly B hd df) from (by rw [em1, ec1]; exact c_dwc_3_2_0)) rfl rfl (Nat.le_of_ble_eq_true rfl) rfl ?_
  refine mB hT 9 rfl ?_
  refine mIf (fun hp => absurd hp (fun q => Int64.not_lt.mpr (lc_ge.mp q) hs)) (fun _ => ?_)
  refine mNf (lv2 := [(5, .long (detX 2 (clT 2 ly 0 (hd 3)))), (4, .int 0), (0, .ref 1), (1, .ref 10), (2, .int 2), (3, .ref 26)]) (st2 := [.int 0, .ref 2]) rfl rfl ?_
  refine mB hT 3 rfl ?_
  refine mNf (lv2 := [(5, .long (detX 2 (clT 2 ly 0 (hd 3)))), (4, .int 0), (0, .ref 1), (1, .ref 10), (2, .int 2), (3, .ref 26)]) (st2 := [.long (rr 0), .int 0, .ref 2]) rfl (by rw [hrr 0] <;> rfl) ?_
  refine mB hT 10 rfl ?_
  refine mWd (w2 := (XW n vs (absX dt) dt 2 (up ro 0 (rr 0)) c1 m1 ly B hd df)) rfl ?_
  refine hC.2.2 _ 1 [_, _] _ _ _ _ _ (show KX1_determinantWithColumn l D ca ad _ _ (some (.long (detX 2 (clT 2 ly 1 (hd 3))))) (XW n vs (absX dt) dt 2 (up ro 0 (rr 0)) c2 m2 ly B hd df) from (by rw [em2, ec2]; exact c_dwc_3_2_1)) rfl rfl (Nat.le_of_ble_eq_true rfl) rfl ?_
  refine mB hT 9 rfl ?_
  refine mIf (fun hp => absurd hp (fun q => Int64.not_lt.mpr (lc_ge.mp q) hs)) (fun _ => ?_)
  refine mNf (lv2 := [(5, .long (detX 2 (clT 2 ly 1 (hd 3)))), (4, .int 1), (0, .ref 1), (1, .ref 10), (2, .int 2), (3, .ref 26)]) (st2 := [.int 1, .ref 2]) rfl rfl ?_
  refine mB hT 3 rfl ?_
  refine mNf (lv2 := [(5, .long (detX 2 (clT 2 ly 1 (hd 3)))), (4, .int 1), (0, .ref 1), (1, .ref 10), (2, .int 2), (3, .ref 26)]) (st2 := [.long (rr 1), .int 1, .ref 2]) rfl (by rw [hrr 1] <;> rfl) ?_
  refine mB hT 8 rfl ?_
  exact hR _ (by decide) _ _ _ rfl rfl
theorem c_solve1_6_2_3 {n vs : Int32} {be de : Int64} {sz : Int32} {ro co mi : Nat → Int64} {T : Nat → Nat → Int64} {B : Nat → Nat → Nat → Int32} {hd : Nat → Nat → Int32} {df : Nat → Int32} (h0 : ¬ detX 2 (lyT 2 (B 6) T) = 0) : ∃ (de2 : Int64) (co2 mi2 : Nat → Int64) (T2 : Nat → Nat → Int64), KX1_solve l D ca ad [.ref 1, .ref 10, .int 2, .ref 26] (XW n vs be de sz ro co mi T B hd df) (some (.int 1)) (XW n vs (absX (detX 2 (lyT 2 (B 6) T))) de2 2 (roX 2 (lyT 2 (B 6) T) (hd 3) ro) co2 mi2 T2 B hd df) := by
  by_cases hs : detX 2 (lyT 2 (B 6) T) < 0
  · obtain ⟨c2, m2, k⟩ := c_solve1_6_2_3n (rr := rdX 2 (lyT 2 (B 6) T) (hd 3)) rfl rfl h0 hs (fun i => if_pos hs)
    exact ⟨_, c2, m2, _, k⟩
  · obtain ⟨c2, m2, k⟩ := c_solve1_6_2_3p (rr := rdX 2 (lyT 2 (B 6) T) (hd 3)) rfl rfl h0 hs (fun i => if_neg hs)
    exact ⟨_, c2, m2, _, k⟩
theorem c_solve0_6_2_4 {n vs : Int32} {be de : Int64} {sz : Int32} {ro co mi : Nat → Int64} {T : Nat → Nat → Int64} {B : Nat → Nat → Nat → Int32} {hd : Nat → Nat → Int32} {df : Nat → Int32} (h0 : detX 2 (lyT 2 (B 6) T) = 0) : ∃ (de2 : Int64) (mi2 : Nat → Int64) (T2 : Nat → Nat → Int64), KX1_solve l D ca ad [.ref 1, .ref 10, .int 2, .ref 27] (XW n vs be de sz ro co mi T B hd df) (some (.int 0)) (XW n vs be de2 2 ro co mi2 T2 B hd df) := by
  obtain ⟨ly, ely⟩ : ∃ z, z = (lyT 2 (B 6) T) := ⟨_, rfl⟩
  rw [← ely] at h0
  obtain ⟨dt, edt⟩ : ∃ z, z = detX 2 ly := ⟨_, rfl⟩
  rw [← edt] at h0
  obtain ⟨m0, em0⟩ : ∃ z, z = miX 2 ly mi := ⟨_, rfl⟩
  refine ⟨dt, m0, ly, ?_⟩
  refine PX1_solve (Nat.le_of_ble_eq_true rfl) (Or.inl rfl) ?_
  intro G hT hC hR
  refine mB hT 3 rfl ?_
  refine hC.1 _ 1 [_, _] _ _ _ _ _ (show KX1_layTable l D ca ad _ _ none (XW n vs be dt 2 ro co m0 ly B hd df) from (by rw [em0, edt, ely]; exact c_lay_6_2)) rfl rfl (Nat.le_of_ble_eq_true rfl) rfl ?_
  refine mB hT 5 rfl ?_
  refine mIf (fun _ => ?_) (fun hn => absurd (lc_eq.mpr h0) hn)
  refine mB hT 1 rfl ?_
  exact hR _ (by decide) _ _ _ rfl rfl
set_option maxRecDepth 20000 in
theorem c_solve1_6_2_4p {n vs : Int32} {be de : Int64} {sz : Int32} {ro co mi : Nat → Int64} {T : Nat → Nat → Int64} {B : Nat → Nat → Nat → Int32} {hd : Nat → Nat → Int32} {df : Nat → Int32} {ly : Nat → Nat → Int64} {dt : Int64} {rr : Nat → Int64} (ely : ly = (lyT 2 (B 6) T)) (edt : dt = detX 2 ly) (h0 : ¬ dt = 0) (hs : ¬ dt < 0) (hrr : ∀ i : Nat, rr i = detX 2 (clT 2 ly i df)) : ∃ (co2 mi2 : Nat → Int64), KX1_solve l D ca ad [.ref 1, .ref 10, .int 2, .ref 27] (XW n vs be de sz ro co mi T B hd df) (some (.int 1)) (XW n vs (absX dt) dt 2 (roc 2 rr ro) co2 mi2 ly B hd df) := by
  obtain ⟨m0, em0⟩ : ∃ z, z = miX 2 ly mi := ⟨_, rfl⟩
  obtain ⟨c1, ec1⟩ : ∃ z, z = coT 2 ly 0 co := ⟨_, rfl⟩
  obtain ⟨m1, em1⟩ : ∃ z, z = miX 2 (clT 2 ly 0 df) m0 := ⟨_, rfl⟩
  obtain ⟨c2, ec2⟩ : ∃ z, z = coT 2 ly 1 c1 := ⟨_, rfl⟩
  obtain ⟨m2, em2⟩ : ∃ z, z = miX 2 (clT 2 ly 1 df) m1 := ⟨_, rfl⟩
  refine ⟨c2, m2, ?_⟩
  refine PX1_solve (Nat.le_of_ble_eq_true rfl) (Or.inr rfl) ?_
  intro G hT hC hR
  refine mB hT 3 rfl ?_
  refine hC.1 _ 1 [_, _] _ _ _ _ _ (show KX1_layTable l D ca ad _ _ none (XW n vs be dt 2 ro co m0 ly B hd df) from (by rw [em0, edt, ely]; exact c_lay_6_2)) rfl rfl (Nat.le_of_ble_eq_true rfl) rfl ?_
  refine mB hT 5 rfl ?_
  refine mIf (fun hp => absurd hp (fun q => h0 (lc_eq.mp q))) (fun _ => ?_)
  refine mB hT 3 rfl ?_
  refine hC.2.1 _ [_] _ _ _ _ (c_abs _) rfl (Nat.le_of_ble_eq_true rfl) rfl ?_
  refine mB hT 10 rfl ?_
  refine mWd (w2 := (XW n vs (absX dt) dt 2 ro co m0 ly B hd df)) rfl ?_
  refine hC.2.2 _ 1 [_, _] _ _ _ _ _ (show KX1_determinantWithColumn l D ca ad _ _ (some (.long (detX 2 (clT 2 ly 0 df)))) (XW n vs (absX dt) dt 2 ro c1 m1 ly B hd df) from (by rw [em1, ec1]; exact c_dwc_4_2_0)) rfl rfl (Nat.le_of_ble_eq_true rfl) rfl ?_
  refine mB hT 9 rfl ?_
  refine mIf (fun _ => ?_) (fun hn => absurd (lc_ge.mpr (Int64.not_lt.mp hs)) hn)
  refine mNf (lv2 := [(5, .long (detX 2 (clT 2 ly 0 df))), (4, .int 0), (0, .ref 1), (1, .ref 10), (2, .int 2), (3, .ref 27)]) (st2 := [.int 0, .ref 2]) rfl rfl ?_
  refine mB hT 1 rfl ?_
  refine mNf (lv2 := [(5, .long (detX 2 (clT 2 ly 0 df))), (4, .int 0), (0, .ref 1), (1, .ref 10), (2, .int 2), (3, .ref 27)]) (st2 := [.long (rr 0), .int 0, .ref 2]) rfl (by rw [hrr 0] <;> rfl) ?_
  refine mB hT 10 rfl ?_
  refine mWd (w2 := (XW n vs (absX dt) dt 2 (up ro 0 (rr 0)) c1 m1 ly B hd df)) rfl ?_
  refine hC.2.2 _ 1 [_, _] _ _ _ _ _ (show KX1_determinantWithColumn l D ca ad _ _ (some (.long (detX 2 (clT 2 ly 1 df)))) (XW n vs (absX dt) dt 2 (up ro 0 (rr 0)) c2 m2 ly B hd df) from (by rw [em2, ec2]; exact c_dwc_4_2_1)) rfl rfl (Nat.le_of_ble_eq_true rfl) rfl ?_
  refine mB hT 9 rfl ?_
  refine mIf (fun _ => ?_) (fun hn => absurd (lc_ge.mpr (Int64.not_lt.mp hs)) hn)
  refine mNf (lv2 := [(5, .long (detX 2 (clT 2 ly 1 df))), (4, .int 1), (0, .ref 1), (1, .ref 10), (2, .int 2), (3, .ref 27)]) (st2 := [.int 1, .ref 2]) rfl rfl ?_
  refine mB hT 1 rfl ?_
  refine mNf (lv2 := [(5, .long (detX 2 (clT 2 ly 1 df))), (4, .int 1), (0, .ref 1), (1, .ref 10), (2, .int 2), (3, .ref 27)]) (st2 := [.long (rr 1), .int 1, .ref 2]) rfl (by rw [hrr 1] <;> rfl) ?_
  refine mB hT 8 rfl ?_
  exact hR _ (by decide) _ _ _ rfl rfl
set_option maxRecDepth 20000 in
theorem c_solve1_6_2_4n {n vs : Int32} {be de : Int64} {sz : Int32} {ro co mi : Nat → Int64} {T : Nat → Nat → Int64} {B : Nat → Nat → Nat → Int32} {hd : Nat → Nat → Int32} {df : Nat → Int32} {ly : Nat → Nat → Int64} {dt : Int64} {rr : Nat → Int64} (ely : ly = (lyT 2 (B 6) T)) (edt : dt = detX 2 ly) (h0 : ¬ dt = 0) (hs : dt < 0) (hrr : ∀ i : Nat, rr i = -(detX 2 (clT 2 ly i df))) : ∃ (co2 mi2 : Nat → Int64), KX1_solve l D ca ad [.ref 1, .ref 10, .int 2, .ref 27] (XW n vs be de sz ro co mi T B hd df) (some (.int 1)) (XW n vs (absX dt) dt 2 (roc 2 rr ro) co2 mi2 ly B hd df) := by
  obtain ⟨m0, em0⟩ : ∃ z, z = miX 2 ly mi := ⟨_, rfl⟩
  obtain ⟨c1, ec1⟩ : ∃ z, z = coT 2 ly 0 co := ⟨_, rfl⟩
  obtain ⟨m1, em1⟩ : ∃ z, z = miX 2 (clT 2 ly 0 df) m0 := ⟨_, rfl⟩
  obtain ⟨c2, ec2⟩ : ∃ z, z = coT 2 ly 1 c1 := ⟨_, rfl⟩
  obtain ⟨m2, em2⟩ : ∃ z, z = miX 2 (clT 2 ly 1 df) m1 := ⟨_, rfl⟩
  refine ⟨c2, m2, ?_⟩
  refine PX1_solve (Nat.le_of_ble_eq_true rfl) (Or.inr rfl) ?_
  intro G hT hC hR
  refine mB hT 3 rfl ?_
  refine hC.1 _ 1 [_, _] _ _ _ _ _ (show KX1_layTable l D ca ad _ _ none (XW n vs be dt 2 ro co m0 ly B hd df) from (by rw [em0, edt, ely]; exact c_lay_6_2)) rfl rfl (Nat.le_of_ble_eq_true rfl) rfl ?_
  refine mB hT 5 rfl ?_
  refine mIf (fun hp => absurd hp (fun q => h0 (lc_eq.mp q))) (fun _ => ?_)
  refine mB hT 3 rfl ?_
  refine hC.2.1 _ [_] _ _ _ _ (c_abs _) rfl (Nat.le_of_ble_eq_true rfl) rfl ?_
  refine mB hT 10 rfl ?_
  refine mWd (w2 := (XW n vs (absX dt) dt 2 ro co m0 ly B hd df)) rfl ?_
  refine hC.2.2 _ 1 [_, _] _ _ _ _ _ (show KX1_determinantWithColumn l D ca ad _ _ (some (.long (detX 2 (clT 2 ly 0 df)))) (XW n vs (absX dt) dt 2 ro c1 m1 ly B hd df) from (by rw [em1, ec1]; exact c_dwc_4_2_0)) rfl rfl (Nat.le_of_ble_eq_true rfl) rfl ?_
  refine mB hT 9 rfl ?_
  refine mIf (fun hp => absurd hp (fun q => Int64.not_lt.mpr (lc_ge.mp q) hs)) (fun _ => ?_)
  refine mNf (lv2 := [(5, .long (detX 2 (clT 2 ly 0 df))), (4, .int 0), (0, .ref 1), (1, .ref 10), (2, .int 2), (3, .ref 27)]) (st2 := [.int 0, .ref 2]) rfl rfl ?_
  refine mB hT 3 rfl ?_
  refine mNf (lv2 := [(5, .long (detX 2 (clT 2 ly 0 df))), (4, .int 0), (0, .ref 1), (1, .ref 10), (2, .int 2), (3, .ref 27)]) (st2 := [.long (rr 0), .int 0, .ref 2]) rfl (by rw [hrr 0] <;> rfl) ?_
  refine mB hT 10 rfl ?_
  refine mWd (w2 := (XW n vs (absX dt) dt 2 (up ro 0 (rr 0)) c1 m1 ly B hd df)) rfl ?_
  refine hC.2.2 _ 1 [_, _] _ _ _ _ _ (show KX1_determinantWithColumn l D ca ad _ _ (some (.long (detX 2 (clT 2 ly 1 df)))) (XW n vs (absX dt) dt 2 (up ro 0 (rr 0)) c2 m2 ly B hd df) from (by rw [em2, ec2]; exact c_dwc_4_2_1)) rfl rfl (Nat.le_of_ble_eq_true rfl) rfl ?_
  refine mB hT 9 rfl ?_
  refine mIf (fun hp => absurd hp (fun q => Int64.not_lt.mpr (lc_ge.mp q) hs)) (fun _ => ?_)
  refine mNf (lv2 := [(5, .long (detX 2 (clT 2 ly 1 df))), (4, .int 1), (0, .ref 1), (1, .ref 10), (2, .int 2), (3, .ref 27)]) (st2 := [.int 1, .ref 2]) rfl rfl ?_
  refine mB hT 3 rfl ?_
  refine mNf (lv2 := [(5, .long (detX 2 (clT 2 ly 1 df))), (4, .int 1), (0, .ref 1), (1, .ref 10), (2, .int 2), (3, .ref 27)]) (st2 := [.long (rr 1), .int 1, .ref 2]) rfl (by rw [hrr 1] <;> rfl) ?_
  refine mB hT 8 rfl ?_
  exact hR _ (by decide) _ _ _ rfl rfl
theorem c_solve1_6_2_4 {n vs : Int32} {be de : Int64} {sz : Int32} {ro co mi : Nat → Int64} {T : Nat → Nat → Int64} {B : Nat → Nat → Nat → Int32} {hd : Nat → Nat → Int32} {df : Nat → Int32} (h0 : ¬ detX 2 (lyT 2 (B 6) T) = 0) : ∃ (de2 : Int64) (co2 mi2 : Nat → Int64) (T2 : Nat → Nat → Int64), KX1_solve l D ca ad [.ref 1, .ref 10, .int 2, .ref 27] (XW n vs be de sz ro co mi T B hd df) (some (.int 1)) (XW n vs (absX (detX 2 (lyT 2 (B 6) T))) de2 2 (roX 2 (lyT 2 (B 6) T) df ro) co2 mi2 T2 B hd df) := by
  by_cases hs : detX 2 (lyT 2 (B 6) T) < 0
  · obtain ⟨c2, m2, k⟩ := c_solve1_6_2_4n (rr := rdX 2 (lyT 2 (B 6) T) df) rfl rfl h0 hs (fun i => if_pos hs)
    exact ⟨_, c2, m2, _, k⟩
  · obtain ⟨c2, m2, k⟩ := c_solve1_6_2_4p (rr := rdX 2 (lyT 2 (B 6) T) df) rfl rfl h0 hs (fun i => if_neg hs)
    exact ⟨_, c2, m2, _, k⟩
theorem c_solve0_6_3_0 {n vs : Int32} {be de : Int64} {sz : Int32} {ro co mi : Nat → Int64} {T : Nat → Nat → Int64} {B : Nat → Nat → Nat → Int32} {hd : Nat → Nat → Int32} {df : Nat → Int32} (h0 : detX 3 (lyT 3 (B 6) T) = 0) : ∃ (de2 : Int64) (mi2 : Nat → Int64) (T2 : Nat → Nat → Int64), KX1_solve l D ca ad [.ref 1, .ref 10, .int 3, .ref 23] (XW n vs be de sz ro co mi T B hd df) (some (.int 0)) (XW n vs be de2 3 ro co mi2 T2 B hd df) := by
  obtain ⟨ly, ely⟩ : ∃ z, z = (lyT 3 (B 6) T) := ⟨_, rfl⟩
  rw [← ely] at h0
  obtain ⟨dt, edt⟩ : ∃ z, z = detX 3 ly := ⟨_, rfl⟩
  rw [← edt] at h0
  obtain ⟨m0, em0⟩ : ∃ z, z = miX 3 ly mi := ⟨_, rfl⟩
  refine ⟨dt, m0, ly, ?_⟩
  refine PX1_solve (Nat.le_of_ble_eq_true rfl) (Or.inl rfl) ?_
  intro G hT hC hR
  refine mB hT 3 rfl ?_
  refine hC.1 _ 1 [_, _] _ _ _ _ _ (show KX1_layTable l D ca ad _ _ none (XW n vs be dt 3 ro co m0 ly B hd df) from (by rw [em0, edt, ely]; exact c_lay_6_3)) rfl rfl (Nat.le_of_ble_eq_true rfl) rfl ?_
  refine mB hT 5 rfl ?_
  refine mIf (fun _ => ?_) (fun hn => absurd (lc_eq.mpr h0) hn)
  refine mB hT 1 rfl ?_
  exact hR _ (by decide) _ _ _ rfl rfl
set_option maxRecDepth 20000 in
theorem c_solve1_6_3_0p {n vs : Int32} {be de : Int64} {sz : Int32} {ro co mi : Nat → Int64} {T : Nat → Nat → Int64} {B : Nat → Nat → Nat → Int32} {hd : Nat → Nat → Int32} {df : Nat → Int32} {ly : Nat → Nat → Int64} {dt : Int64} {rr : Nat → Int64} (ely : ly = (lyT 3 (B 6) T)) (edt : dt = detX 3 ly) (h0 : ¬ dt = 0) (hs : ¬ dt < 0) (hrr : ∀ i : Nat, rr i = detX 3 (clT 3 ly i (hd 0))) : ∃ (co2 mi2 : Nat → Int64), KX1_solve l D ca ad [.ref 1, .ref 10, .int 3, .ref 23] (XW n vs be de sz ro co mi T B hd df) (some (.int 1)) (XW n vs (absX dt) dt 3 (roc 3 rr ro) co2 mi2 ly B hd df) := by
  obtain ⟨m0, em0⟩ : ∃ z, z = miX 3 ly mi := ⟨_, rfl⟩
  obtain ⟨c1, ec1⟩ : ∃ z, z = coT 3 ly 0 co := ⟨_, rfl⟩
  obtain ⟨m1, em1⟩ : ∃ z, z = miX 3 (clT 3 ly 0 (hd 0)) m0 := ⟨_, rfl⟩
  obtain ⟨c2, ec2⟩ : ∃ z, z = coT 3 ly 1 c1 := ⟨_, rfl⟩
  obtain ⟨m2, em2⟩ : ∃ z, z = miX 3 (clT 3 ly 1 (hd 0)) m1 := ⟨_, rfl⟩
  obtain ⟨c3, ec3⟩ : ∃ z, z = coT 3 ly 2 c2 := ⟨_, rfl⟩
  obtain ⟨m3, em3⟩ : ∃ z, z = miX 3 (clT 3 ly 2 (hd 0)) m2 := ⟨_, rfl⟩
  refine ⟨c3, m3, ?_⟩
  refine PX1_solve (Nat.le_of_ble_eq_true rfl) (Or.inr rfl) ?_
  intro G hT hC hR
  refine mB hT 3 rfl ?_
  refine hC.1 _ 1 [_, _] _ _ _ _ _ (show KX1_layTable l D ca ad _ _ none (XW n vs be dt 3 ro co m0 ly B hd df) from (by rw [em0, edt, ely]; exact c_lay_6_3)) rfl rfl (Nat.le_of_ble_eq_true rfl) rfl ?_
  refine mB hT 5 rfl ?_
  refine mIf (fun hp => absurd hp (fun q => h0 (lc_eq.mp q))) (fun _ => ?_)
  refine mB hT 3 rfl ?_
  refine hC.2.1 _ [_] _ _ _ _ (c_abs _) rfl (Nat.le_of_ble_eq_true rfl) rfl ?_
  refine mB hT 10 rfl ?_
  refine mWd (w2 := (XW n vs (absX dt) dt 3 ro co m0 ly B hd df)) rfl ?_
  refine hC.2.2 _ 1 [_, _] _ _ _ _ _ (show KX1_determinantWithColumn l D ca ad _ _ (some (.long (detX 3 (clT 3 ly 0 (hd 0))))) (XW n vs (absX dt) dt 3 ro c1 m1 ly B hd df) from (by rw [em1, ec1]; exact c_dwc_0_3_0)) rfl rfl (Nat.le_of_ble_eq_true rfl) rfl ?_
  refine mB hT 9 rfl ?_
  refine mIf (fun _ => ?_) (fun hn => absurd (lc_ge.mpr (Int64.not_lt.mp hs)) hn)
  refine mNf (lv2 := [(5, .long (detX 3 (clT 3 ly 0 (hd 0)))), (4, .int 0), (0, .ref 1), (1, .ref 10), (2, .int 3), (3, .ref 23)]) (st2 := [.int 0, .ref 2]) rfl rfl ?_
  refine mB hT 1 rfl ?_
  refine mNf (lv2 := [(5, .long (detX 3 (clT 3 ly 0 (hd 0)))), (4, .int 0), (0, .ref 1), (1, .ref 10), (2, .int 3), (3, .ref 23)]) (st2 := [.long (rr 0), .int 0, .ref 2]) rfl (by rw [hrr 0] <;> rfl) ?_
  refine mB hT 10 rfl ?_
  refine mWd (w2 := (XW n vs (absX dt) dt 3 (up ro 0 (rr 0)) c1 m1 ly B hd df)) rfl ?_
  refine hC.2.2 _ 1 [_, _] _ _ _ _ _ (show KX1_determinantWithColumn l D ca ad _ _ (some (.long (detX 3 (clT 3 ly 1 (hd 0))))) (XW n vs (absX dt) dt 3 (up ro 0 (rr 0)) c2 m2 ly B hd df) from (by rw [em2, ec2]; exact c_dwc_0_3_1)) rfl rfl (Nat.le_of_ble_eq_true rfl) rfl ?_
  refine mB hT 9 rfl ?_
  refine mIf (fun _ => ?_) (fun hn => absurd (lc_ge.mpr (Int64.not_lt.mp hs)) hn)
  refine mNf (lv2 := [(5, .long (detX 3 (clT 3 ly 1 (hd 0)))), (4, .int 1), (0, .ref 1), (1, .ref 10), (2, .int 3), (3, .ref 23)]) (st2 := [.int 1, .ref 2]) rfl rfl ?_
  refine mB hT 1 rfl ?_
  refine mNf (lv2 := [(5, .long (detX 3 (clT 3 ly 1 (hd 0)))), (4, .int 1), (0, .ref 1), (1, .ref 10), (2, .int 3), (3, .ref 23)]) (st2 := [.long (rr 1), .int 1, .ref 2]) rfl (by rw [hrr 1] <;> rfl) ?_
  refine mB hT 10 rfl ?_
  refine mWd (w2 := (XW n vs (absX dt) dt 3 (up (up ro 0 (rr 0)) 1 (rr 1)) c2 m2 ly B hd df)) rfl ?_
  refine hC.2.2 _ 1 [_, _] _ _ _ _ _ (show KX1_determinantWithColumn l D ca ad _ _ (some (.long (detX 3 (clT 3 ly 2 (hd 0))))) (XW n vs (absX dt) dt 3 (up (up ro 0 (rr 0)) 1 (rr 1)) c3 m3 ly B hd df) from (by rw [em3, ec3]; exact c_dwc_0_3_2)) rfl rfl (Nat.le_of_ble_eq_true rfl) rfl ?_
  refine mB hT 9 rfl ?_
  refine mIf (fun _ => ?_) (fun hn => absurd (lc_ge.mpr (Int64.not_lt.mp hs)) hn)
  refine mNf (lv2 := [(5, .long (detX 3 (clT 3 ly 2 (hd 0)))), (4, .int 2), (0, .ref 1), (1, .ref 10), (2, .int 3), (3, .ref 23)]) (st2 := [.int 2, .ref 2]) rfl rfl ?_
  refine mB hT 1 rfl ?_
  refine mNf (lv2 := [(5, .long (detX 3 (clT 3 ly 2 (hd 0)))), (4, .int 2), (0, .ref 1), (1, .ref 10), (2, .int 3), (3, .ref 23)]) (st2 := [.long (rr 2), .int 2, .ref 2]) rfl (by rw [hrr 2] <;> rfl) ?_
  refine mB hT 8 rfl ?_
  exact hR _ (by decide) _ _ _ rfl rfl
set_option maxRecDepth 20000 in
theorem c_solve1_6_3_0n {n vs : Int32} {be de : Int64} {sz : Int32} {ro co mi : Nat → Int64} {T : Nat → Nat → Int64} {B : Nat → Nat → Nat → Int32} {hd : Nat → Nat → Int32} {df : Nat → Int32} {ly : Nat → Nat → Int64} {dt : Int64} {rr : Nat → Int64} (ely : ly = (lyT 3 (B 6) T)) (edt : dt = detX 3 ly) (h0 : ¬ dt = 0) (hs : dt < 0) (hrr : ∀ i : Nat, rr i = -(detX 3 (clT 3 ly i (hd 0)))) : ∃ (co2 mi2 : Nat → Int64), KX1_solve l D ca ad [.ref 1, .ref 10, .int 3, .ref 23] (XW n vs be de sz ro co mi T B hd df) (some (.int 1)) (XW n vs (absX dt) dt 3 (roc 3 rr ro) co2 mi2 ly B hd df) := by
  obtain ⟨m0, em0⟩ : ∃ z, z = miX 3 ly mi := ⟨_, rfl⟩
  obtain ⟨c1, ec1⟩ : ∃ z, z = coT 3 ly 0 co := ⟨_, rfl⟩
  obtain ⟨m1, em1⟩ : ∃ z, z = miX 3 (clT 3 ly 0 (hd 0)) m0 := ⟨_, rfl⟩
  obtain ⟨c2, ec2⟩ : ∃ z, z = coT 3 ly 1 c1 := ⟨_, rfl⟩
  obtain ⟨m2, em2⟩ : ∃ z, z = miX 3 (clT 3 ly 1 (hd 0)) m1 := ⟨_, rfl⟩
  obtain ⟨c3, ec3⟩ : ∃ z, z = coT 3 ly 2 c2 := ⟨_, rfl⟩
  obtain ⟨m3, em3⟩ : ∃ z, z = miX 3 (clT 3 ly 2 (hd 0)) m2 := ⟨_, rfl⟩
  refine ⟨c3, m3, ?_⟩
  refine PX1_solve (Nat.le_of_ble_eq_true rfl) (Or.inr rfl) ?_
  intro G hT hC hR
  refine mB hT 3 rfl ?_
  refine hC.1 _ 1 [_, _] _ _ _ _ _ (show KX1_layTable l D ca ad _ _ none (XW n vs be dt 3 ro co m0 ly B hd df) from (by rw [em0, edt, ely]; exact c_lay_6_3)) rfl rfl (Nat.le_of_ble_eq_true rfl) rfl ?_
  refine mB hT 5 rfl ?_
  refine mIf (fun hp => absurd hp (fun q => h0 (lc_eq.mp q))) (fun _ => ?_)
  refine mB hT 3 rfl ?_
  refine hC.2.1 _ [_] _ _ _ _ (c_abs _) rfl (Nat.le_of_ble_eq_true rfl) rfl ?_
  refine mB hT 10 rfl ?_
  refine mWd (w2 := (XW n vs (absX dt) dt 3 ro co m0 ly B hd df)) rfl ?_
  refine hC.2.2 _ 1 [_, _] _ _ _ _ _ (show KX1_determinantWithColumn l D ca ad _ _ (some (.long (detX 3 (clT 3 ly 0 (hd 0))))) (XW n vs (absX dt) dt 3 ro c1 m1 ly B hd df) from (by rw [em1, ec1]; exact c_dwc_0_3_0)) rfl rfl (Nat.le_of_ble_eq_true rfl) rfl ?_
  refine mB hT 9 rfl ?_
  refine mIf (fun hp => absurd hp (fun q => Int64.not_lt.mpr (lc_ge.mp q) hs)) (fun _ => ?_)
  refine mNf (lv2 := [(5, .long (detX 3 (clT 3 ly 0 (hd 0)))), (4, .int 0), (0, .ref 1), (1, .ref 10), (2, .int 3), (3, .ref 23)]) (st2 := [.int 0, .ref 2]) rfl rfl ?_
  refine mB hT 3 rfl ?_
  refine mNf (lv2 := [(5, .long (detX 3 (clT 3 ly 0 (hd 0)))), (4, .int 0), (0, .ref 1), (1, .ref 10), (2, .int 3), (3, .ref 23)]) (st2 := [.long (rr 0), .int 0, .ref 2]) rfl (by rw [hrr 0] <;> rfl) ?_
  refine mB hT 10 rfl ?_
  refine mWd (w2 := (XW n vs (absX dt) dt 3 (up ro 0 (rr 0)) c1 m1 ly B hd df)) rfl ?_
  refine hC.2.2 _ 1 [_, _] _ _ _ _ _ (show KX1_determinantWithColumn l D ca ad _ _ (some (.long (detX 3 (clT 3 ly 1 (hd 0))))) (XW n vs (absX dt) dt 3 (up ro 0 (rr 0)) c2 m2 ly B hd df) from (by rw [em2, ec2]; exact c_dwc_0_3_1)) rfl rfl (Nat.le_of_ble_eq_true rfl) rfl ?_
  refine mB hT 9 rfl ?_
  refine mIf (fun hp => absurd hp (fun q => Int64.not_lt.mpr (lc_ge.mp q) hs)) (fun _ => ?_)
  refine mNf (lv2 := [(5, .long (detX 3 (clT 3 ly 1 (hd 0)))), (4, .int 1), (0, .ref 1), (1, .ref 10), (2, .int 3), (3, .ref 23)]) (st2 := [.int 1, .ref 2]) rfl rfl ?_
  refine mB hT 3 rfl ?_
  refine mNf (lv2 := [(5, .long (detX 3 (clT 3 ly 1 (hd 0)))), (4, .int 1), (0, .ref 1), (1, .ref 10), (2, .int 3), (3, .ref 23)]) (st2 := [.long (rr 1), .int 1, .ref 2]) rfl (by rw [hrr 1] <;> rfl) ?_
  refine mB hT 10 rfl ?_
  refine mWd (w2 := (XW n vs (absX dt) dt 3 (up (up ro 0 (rr 0)) 1 (rr 1)) c2 m2 ly B hd df)) rfl ?_
  refine hC.2.2 _ 1 [_, _] _ _ _ _ _ (show KX1_determinantWithColumn l D ca ad _ _ (some (.long (detX 3 (clT 3 ly 2 (hd 0))))) (XW n vs (absX dt) dt 3 (up (up ro 0 (rr 0)) 1 (rr 1)) c3 m3 ly B hd df) from (by rw [em3, ec3]; exact c_dwc_0_3_2)) rfl rfl (Nat.le_of_ble_eq_true rfl) rfl ?_
  refine mB hT 9 rfl ?_
  refine mIf (fun hp => absurd hp (fun q => Int64.not_lt.mpr (lc_ge.mp q) hs)) (fun _ => ?_)
  refine mNf (lv2 := [(5, .long (detX 3 (clT 3 ly 2 (hd 0)))), (4, .int 2), (0, .ref 1), (1, .ref 10), (2, .int 3), (3, .ref 23)]) (st2 := [.int 2, .ref 2]) rfl rfl ?_
  refine mB hT 3 rfl ?_
  refine mNf (lv2 := [(5, .long (detX 3 (clT 3 ly 2 (hd 0)))), (4, .int 2), (0, .ref 1), (1, .ref 10), (2, .int 3), (3, .ref 23)]) (st2 := [.long (rr 2), .int 2, .ref 2]) rfl (by rw [hrr 2] <;> rfl) ?_
  refine mB hT 8 rfl ?_
  exact hR _ (by decide) _ _ _ rfl rfl
theorem c_solve1_6_3_0 {n vs : Int32} {be de : Int64} {sz : Int32} {ro co mi : Nat → Int64} {T : Nat → Nat → Int64} {B : Nat → Nat → Nat → Int32} {hd : Nat → Nat → Int32} {df : Nat → Int32} (h0 : ¬ detX 3 (lyT 3 (B 6) T) = 0) : ∃ (de2 : Int64) (co2 mi2 : Nat → Int64) (T2 : Nat → Nat → Int64), KX1_solve l D ca ad [.ref 1, .ref 10, .int 3, .ref 23] (XW n vs be de sz ro co mi T B hd df) (some (.int 1)) (XW n vs (absX (detX 3 (lyT 3 (B 6) T))) de2 3 (roX 3 (lyT 3 (B 6) T) (hd 0) ro) co2 mi2 T2 B hd df) := by
  by_cases hs : detX 3 (lyT 3 (B 6) T) < 0
  · obtain ⟨c2, m2, k⟩ := c_solve1_6_3_0n (rr := rdX 3 (lyT 3 (B 6) T) (hd 0)) rfl rfl h0 hs (fun i => if_pos hs)
    exact ⟨_, c2, m2, _, k⟩
  · obtain ⟨c2, m2, k⟩ := c_solve1_6_3_0p (rr := rdX 3 (lyT 3 (B 6) T) (hd 0)) rfl rfl h0 hs (fun i => if_neg hs)
    exact ⟨_, c2, m2, _, k⟩
theorem c_solve0_6_3_1 {n vs : Int32} {be de : Int64} {sz : Int32} {ro co mi : Nat → Int64} {T : Nat → Nat → Int64} {B : Nat → Nat → Nat → Int32} {hd : Nat → Nat → Int32} {df : Nat → Int32} (h0 : detX 3 (lyT 3 (B 6) T) = 0) : ∃ (de2 : Int64) (mi2 : Nat → Int64) (T2 : Nat → Nat → Int64), KX1_solve l D ca ad [.ref 1, .ref 10, .int 3, .ref 24] (XW n vs be de sz ro co mi T B hd df) (some (.int 0)) (XW n vs be de2 3 ro co mi2 T2 B hd df) := by
  obtain ⟨ly, ely⟩ : ∃ z, z = (lyT 3 (B 6) T) := ⟨_, rfl⟩
  rw [← ely] at h0
  obtain ⟨dt, edt⟩ : ∃ z, z = detX 3 ly := ⟨_, rfl⟩
  rw [← edt] at h0
  obtain ⟨m0, em0⟩ : ∃ z, z = miX 3 ly mi := ⟨_, rfl⟩
  refine ⟨dt, m0, ly, ?_⟩
  refine PX1_solve (Nat.le_of_ble_eq_true rfl) (Or.inl rfl) ?_
  intro G hT hC hR
  refine mB hT 3 rfl ?_
  refine hC.1 _ 1 [_, _] _ _ _ _ _ (show KX1_layTable l D ca ad _ _ none (XW n vs be dt 3 ro co m0 ly B hd df) from (by rw [em0, edt, ely]; exact c_lay_6_3)) rfl rfl (Nat.le_of_ble_eq_true rfl) rfl ?_
  refine mB hT 5 rfl ?_
  refine mIf (fun _ => ?_) (fun hn => absurd (lc_eq.mpr h0) hn)
  refine mB hT 1 rfl ?_
  exact hR _ (by decide) _ _ _ rfl rfl
set_option maxRecDepth 20000 in
theorem c_solve1_6_3_1p {n vs : Int32} {be de : Int64} {sz : Int32} {ro co mi : Nat → Int64} {T : Nat → Nat → Int64} {B : Nat → Nat → Nat → Int32} {hd : Nat → Nat → Int32} {df : Nat → Int32} {ly : Nat → Nat → Int64} {dt : Int64} {rr : Nat → Int64} (ely : ly = (lyT 3 (B 6) T)) (edt : dt = detX 3 ly) (h0 : ¬ dt = 0) (hs : ¬ dt < 0) (hrr : ∀ i : Nat, rr i = detX 3 (clT 3 ly i (hd 1))) : ∃ (co2 mi2 : Nat → Int64), KX1_solve l D ca ad [.ref 1, .ref 10, .int 3, .ref 24] (XW n vs be de sz ro co mi T B hd df) (some (.int 1)) (XW n vs (absX dt) dt 3 (roc 3 rr ro) co2 mi2 ly B hd df) := by
  obtain ⟨m0, em0⟩ : ∃ z, z = miX 3 ly mi := ⟨_, rfl⟩
  obtain ⟨c1, ec1⟩ : ∃ z, z = coT 3 ly 0 co := ⟨_, rfl⟩
  obtain ⟨m1, em1⟩ : ∃ z, z = miX 3 (clT 3 ly 0 (hd 1)) m0 := ⟨_, rfl⟩
  obtain ⟨c2, ec2⟩ : ∃ z, z = coT 3 ly 1 c1 := ⟨_, rfl⟩
  obtain ⟨m2, em2⟩ : ∃ z, z = miX 3 (clT 3 ly 1 (hd 1)) m1 := ⟨_, rfl⟩
  obtain ⟨c3, ec3⟩ : ∃ z, z = coT 3 ly 2 c2 := ⟨_, rfl⟩
  obtain ⟨m3, em3⟩ : ∃ z, z = miX 3 (clT 3 ly 2 (hd 1)) m2 := ⟨_, rfl⟩
  refine ⟨c3, m3, ?_⟩
  refine PX1_solve (Nat.le_of_ble_eq_true rfl) (Or.inr rfl) ?_
  intro G hT hC hR
  refine mB hT 3 rfl ?_
  refine hC.1 _ 1 [_, _] _ _ _ _ _ (show KX1_layTable l D ca ad _ _ none (XW n vs be dt 3 ro co m0 ly B hd df) from (by rw [em0, edt, ely]; exact c_lay_6_3)) rfl rfl (Nat.le_of_ble_eq_true rfl) rfl ?_
  refine mB hT 5 rfl ?_
  refine mIf (fun hp => absurd hp (fun q => h0 (lc_eq.mp q))) (fun _ => ?_)
  refine mB hT 3 rfl ?_
  refine hC.2.1 _ [_] _ _ _ _ (c_abs _) rfl (Nat.le_of_ble_eq_true rfl) rfl ?_
  refine mB hT 10 rfl ?_
  refine mWd (w2 := (XW n vs (absX dt) dt 3 ro co m0 ly B hd df)) rfl ?_
  refine hC.2.2 _ 1 [_, _] _ _ _ _ _ (show KX1_determinantWithColumn l D ca ad _ _ (some (.long (detX 3 (clT 3 ly 0 (hd 1))))) (XW n vs (absX dt) dt 3 ro c1 m1 ly B hd df) from (by rw [em1, ec1]; exact c_dwc_1_3_0)) rfl rfl (Nat.le_of_ble_eq_true rfl) rfl ?_
  refine mB hT 9 rfl ?_
  refine mIf (fun _ => ?_) (fun hn => absurd (lc_ge.mpr (Int64.not_lt.mp hs)) hn)
  refine mNf (lv2 := [(5, .long (detX 3 (clT 3 ly 0 (hd 1)))), (4, .int 0), (0, .ref 1), (1, .ref 10), (2, .int 3), (3, .ref 24)]) (st2 := [.int 0, .ref 2]) rfl rfl ?_
  refine mB hT 1 rfl ?_
  refine mNf (lv2 := [(5, .long (detX 3 (clT 3 ly 0 (hd 1)))), (4, .int 0), (0, .ref 1), (1, .ref 10), (2, .int 3), (3, .ref 24)]) (st2 := [.long (rr 0), .int 0, .ref 2]) rfl (by rw [hrr 0] <;> rfl) ?_
  refine mB hT 10 rfl ?_
  refine mWd (w2 := (XW n vs (absX dt) dt 3 (up ro 0 (rr 0)) c1 m1 ly B hd df)) rfl ?_
  refine hC.2.2 _ 1 [_, _] _ _ _ _ _ (show KX1_determinantWithColumn l D ca ad _ _ (some (.long (detX 3 (clT 3 ly 1 (hd 1))))) (XW n vs (absX dt) dt 3 (up ro 0 (rr 0)) c2 m2 ly B hd df) from (by rw [em2, ec2]; exact c_dwc_1_3_1)) rfl rfl (Nat.le_of_ble_eq_true rfl) rfl ?_
  refine mB hT 9 rfl ?_
  refine mIf (fun _ => ?_) (fun hn => absurd (lc_ge.mpr (Int64.not_lt.mp hs)) hn)
  refine mNf (lv2 := [(5, .long (detX 3 (clT 3 ly 1 (hd 1)))), (4, .int 1), (0, .ref 1), (1, .ref 10), (2, .int 3), (3, .ref 24)]) (st2 := [.int 1, .ref 2]) rfl rfl ?_
  refine mB hT 1 rfl ?_
  refine mNf (lv2 := [(5, .long (detX 3 (clT 3 ly 1 (hd 1)))), (4, .int 1), (0, .ref 1), (1, .ref 10), (2, .int 3), (3, .ref 24)]) (st2 := [.long (rr 1), .int 1, .ref 2]) rfl (by rw [hrr 1] <;> rfl) ?_
  refine mB hT 10 rfl ?_
  refine mWd (w2 := (XW n vs (absX dt) dt 3 (up (up ro 0 (rr 0)) 1 (rr 1)) c2 m2 ly B hd df)) rfl ?_
  refine hC.2.2 _ 1 [_, _] _ _ _ _ _ (show KX1_determinantWithColumn l D ca ad _ _ (some (.long (detX 3 (clT 3 ly 2 (hd 1))))) (XW n vs (absX dt) dt 3 (up (up ro 0 (rr 0)) 1 (rr 1)) c3 m3 ly B hd df) from (by rw [em3, ec3]; exact c_dwc_1_3_2)) rfl rfl (Nat.le_of_ble_eq_true rfl) rfl ?_
  refine mB hT 9 rfl ?_
  refine mIf (fun _ => ?_) (fun hn => absurd (lc_ge.mpr (Int64.not_lt.mp hs)) hn)
  refine mNf (lv2 := [(5, .long (detX 3 (clT 3 ly 2 (hd 1)))), (4, .int 2), (0, .ref 1), (1, .ref 10), (2, .int 3), (3, .ref 24)]) (st2 := [.int 2, .ref 2]) rfl rfl ?_
  refine mB hT 1 rfl ?_
  refine mNf (lv2 := [(5, .long (detX 3 (clT 3 ly 2 (hd 1)))), (4, .int 2), (0, .ref 1), (1, .ref 10), (2, .int 3), (3, .ref 24)]) (st2 := [.long (rr 2), .int 2, .ref 2]) rfl (by rw [hrr 2] <;> rfl) ?_
  refine mB hT 8 rfl ?_
  exact hR _ (by decide) _ _ _ rfl rfl
set_option maxRecDepth 20000 in
theorem c_solve1_6_3_1n {n vs : Int32} {be de : Int64} {sz : Int32} {ro co mi : Nat → Int64} {T : Nat → Nat → Int64} {B : Nat → Nat → Nat → Int32} {hd : Nat → Nat → Int32} {df : Nat → Int32} {ly : Nat → Nat → Int64} {dt : Int64} {rr : Nat → Int64} (ely : ly = (lyT 3 (B 6) T)) (edt : dt = detX 3 ly) (h0 : ¬ dt = 0) (hs : dt < 0) (hrr : ∀ i : Nat, rr i = -(detX 3 (clT 3 ly i (hd 1)))) : ∃ (co2 mi2 : Nat → Int64), KX1_solve l D ca ad [.ref 1, .ref 10, .int 3, .ref 24] (XW n vs be de sz ro co mi T B hd df) (some (.int 1)) (XW n vs (absX dt) dt 3 (roc 3 rr ro) co2 mi2 ly B hd df) := by
  obtain ⟨m0, em0⟩ : ∃ z, z = miX 3 ly mi := ⟨_, rfl⟩
  obtain ⟨c1, ec1⟩ : ∃ z, z = coT 3 ly 0 co := ⟨_, rfl⟩
  obtain ⟨m1, em1⟩ : ∃ z, z = miX 3 (clT 3 ly 0 (hd 1)) m0 := ⟨_, rfl⟩
  obtain ⟨c2, ec2⟩ : ∃ z, z = coT 3 ly 1 c1 := ⟨_, rfl⟩
  obtain ⟨m2, em2⟩ : ∃ z, z = miX 3 (clT 3 ly 1 (hd 1)) m1 := ⟨_, rfl⟩
  obtain ⟨c3, ec3⟩ : ∃ z, z = coT 3 ly 2 c2 := ⟨_, rfl⟩
  obtain ⟨m3, em3⟩ : ∃ z, z = miX 3 (clT 3 ly 2 (hd 1)) m2 := ⟨_, rfl⟩
  refine ⟨c3, m3, ?_⟩
  refine PX1_solve (Nat.le_of_ble_eq_true rfl) (Or.inr rfl) ?_
  intro G hT hC hR
  refine mB hT 3 rfl ?_
  refine hC.1 _ 1 [_, _] _ _ _ _ _ (show KX1_layTable l D ca ad _ _ none (XW n vs be dt 3 ro co m0 ly B hd df) from (by rw [em0, edt, ely]; exact c_lay_6_3)) rfl rfl (Nat.le_of_ble_eq_true rfl) rfl ?_
  refine mB hT 5 rfl ?_
  refine mIf (fun hp => absurd hp (fun q => h0 (lc_eq.mp q))) (fun _ => ?_)
  refine mB hT 3 rfl ?_
  refine hC.2.1 _ [_] _ _ _ _ (c_abs _) rfl (Nat.le_of_ble_eq_true rfl) rfl ?_
  refine mB hT 10 rfl ?_
  refine mWd (w2 := (XW n vs (absX dt) dt 3 ro co m0 ly B hd df)) rfl ?_
  refine hC.2.2 _ 1 [_, _] _ _ _ _ _ (show KX1_determinantWithColumn l D ca ad _ _ (some (.long (detX 3 (clT 3 ly 0 (hd 1))))) (XW n vs (absX dt) dt 3 ro c1 m1 ly B hd df) from (by rw [em1, ec1]; exact c_dwc_1_3_0)) rfl rfl (Nat.le_of_ble_eq_true rfl) rfl ?_
  refine mB hT 9 rfl ?_
  refine mIf (fun hp => absurd hp (fun q => Int64.not_lt.mpr (lc_ge.mp q) hs)) (fun _ => ?_)
  refine mNf (lv2 := [(5, .long (detX 3 (clT 3 ly 0 (hd 1)))), (4, .int 0), (0, .ref 1), (1, .ref 10), (2, .int 3), (3, .ref 24)]) (st2 := [.int 0, .ref 2]) rfl rfl ?_
  refine mB hT 3 rfl ?_
  refine mNf (lv2 := [(5, .long (detX 3 (clT 3 ly 0 (hd 1)))), (4, .int 0), (0, .ref 1), (1, .ref 10), (2, .int 3), (3, .ref 24)]) (st2 := [.long (rr 0), .int 0, .ref 2]) rfl (by rw [hrr 0] <;> rfl) ?_
  refine mB hT 10 rfl ?_
  refine mWd (w2 := (XW n vs (absX dt) dt 3 (up ro 0 (rr 0)) c1 m1 ly B hd df)) rfl ?_
  refine hC.2.2 _ 1 [_, _] _ _ _ _ _ (show KX1_determinantWithColumn l D ca ad _ _ (some (.long (detX 3 (clT 3 ly 1 (hd 1))))) (XW n vs (absX dt) dt 3 (up ro 0 (rr 0)) c2 m2 ly B hd df) from (by rw [em2, ec2]; exact c_dwc_1_3_1)) rfl rfl (Nat.le_of_ble_eq_true rfl) rfl ?_
  refine mB hT 9 rfl ?_
  refine mIf (fun hp => absurd hp (fun q => Int64.not_lt.mpr (lc_ge.mp q) hs)) (fun _ => ?_)
  refine mNf (lv2 := [(5, .long (detX 3 (clT 3 ly 1 (hd 1)))), (4, .int 1), (0, .ref 1), (1, .ref 10), (2, .int 3), (3, .ref 24)]) (st2 := [.int 1, .ref 2]) rfl rfl ?_
  refine mB hT 3 rfl ?_
  refine mNf (lv2 := [(5, .long (detX 3 (clT 3 ly 1 (hd 1)))), (4, .int 1), (0, .ref 1), (1, .ref 10), (2, .int 3), (3, .ref 24)]) (st2 := [.long (rr 1), .int 1, .ref 2]) rfl (by rw [hrr 1] <;> rfl) ?_
  refine mB hT 10 rfl ?_
  refine mWd (w2 := (XW n vs (absX dt) dt 3 (up (up ro 0 (rr 0)) 1 (rr 1)) c2 m2 ly B hd df)) rfl ?_
  refine hC.2.2 _ 1 [_, _] _ _ _ _ _ (show KX1_determinantWithColumn l D ca ad _ _ (some (.long (detX 3 (clT 3 ly 2 (hd 1))))) (XW n vs (absX dt) dt 3 (up (up ro 0 (rr 0)) 1 (rr 1)) c3 m3 ly B hd df) from (by rw [em3, ec3]; exact c_dwc_1_3_2)) rfl rfl (Nat.le_of_ble_eq_true rfl) rfl ?_
  refine mB hT 9 rfl ?_
  refine mIf (fun hp => absurd hp (fun q => Int64.not_lt.mpr (lc_ge.mp q) hs)) (fun _ => ?_)
  refine mNf (lv2 := [(5, .long (detX 3 (clT 3 ly 2 (hd 1)))), (4, .int 2), (0, .ref 1), (1, .ref 10), (2, .int 3), (3, .ref 24)]) (st2 := [.int 2, .ref 2]) rfl rfl ?_
  refine mB hT 3 rfl ?_
  refine mNf (lv2 := [(5, .long (detX 3 (clT 3 ly 2 (hd 1)))), (4, .int 2), (0, .ref 1), (1, .ref 10), (2, .int 3), (3, .ref 24)]) (st2 := [.long (rr 2), .int 2, .ref 2]) rfl (by rw [hrr 2] <;> rfl) ?_
  refine mB hT 8 rfl ?_
  exact hR _ (by decide) _ _ _ rfl rfl
theorem c_solve1_6_3_1 {n vs : Int32} {be de : Int64} {sz : Int32} {ro co mi : Nat → Int64} {T : Nat → Nat → Int64} {B : Nat → Nat → Nat → Int32} {hd : Nat → Nat → Int32} {df : Nat → Int32} (h0 : ¬ detX 3 (lyT 3 (B 6) T) = 0) : ∃ (de2 : Int64) (co2 mi2 : Nat → Int64) (T2 : Nat → Nat → Int64), KX1_solve l D ca ad [.ref 1, .ref 10, .int 3, .ref 24] (XW n vs be de sz ro co mi T B hd df) (some (.int 1)) (XW n vs (absX (detX 3 (lyT 3 (B 6) T))) de2 3 (roX 3 (lyT 3 (B 6) T) (hd 1) ro) co2 mi2 T2 B hd df) := by
  by_cases hs : detX 3 (lyT 3 (B 6) T) < 0
  · obtain ⟨c2, m2, k⟩ := c_solve1_6_3_1n (rr := rdX 3 (lyT 3 (B 6) T) (hd 1)) rfl rfl h0 hs (fun i => if_pos hs)
    exact ⟨_, c2, m2, _, k⟩
  · obtain ⟨c2, m2, k⟩ := c_solve1_6_3_1p (rr := rdX 3 (lyT 3 (B 6) T) (hd 1)) rfl rfl h0 hs (fun i => if_neg hs)
    exact ⟨_, c2, m2, _, k⟩
theorem c_solve0_6_3_2 {n vs : Int32} {be de : Int64} {sz : Int32} {ro co mi : Nat → Int64} {T : Nat → Nat → Int64} {B : Nat → Nat → Nat → Int32} {hd : Nat → Nat → Int32} {df : Nat → Int32} (h0 : detX 3 (lyT 3 (B 6) T) = 0) : ∃ (de2 : Int64) (mi2 : Nat → Int64) (T2 : Nat → Nat → Int64), KX1_solve l D ca ad [.ref 1, .ref 10, .int 3, .ref 25] (XW n vs be de sz ro co mi T B hd df) (some (.int 0)) (XW n vs be de2 3 ro co mi2 T2 B hd df) := by
  obtain ⟨ly, ely⟩ : ∃ z, z = (lyT 3 (B 6) T) := ⟨_, rfl⟩
  rw [← ely] at h0
  obtain ⟨dt, edt⟩ : ∃ z, z = detX 3 ly := ⟨_, rfl⟩
  rw [← edt] at h0
  obtain ⟨m0, em0⟩ : ∃ z, z = miX 3 ly mi := ⟨_, rfl⟩
  refine ⟨dt, m0, ly, ?_⟩
  refine PX1_solve (Nat.le_of_ble_eq_true rfl) (Or.inl rfl) ?_
  intro G hT hC hR
  refine mB hT 3 rfl ?_
  refine hC.1 _ 1 [_, _] _ _ _ _ _ (show KX1_layTable l D ca ad _ _ none (XW n vs be dt 3 ro co m0 ly B hd df) from (by rw [em0, edt, ely]; exact c_lay_6_3)) rfl rfl (Nat.le_of_ble_eq_true rfl) rfl ?_
  refine mB hT 5 rfl ?_
  refine mIf (fun _ => ?_) (fun hn => absurd (lc_eq.mpr h0) hn)
  refine mB hT 1 rfl ?_
  exact hR _ (by decide) _ _ _ rfl rfl
set_option maxRecDepth 20000 in
theorem c_solve1_6_3_2p {n vs : Int32} {be de : Int64} {sz : Int32} {ro co mi : Nat → Int64} {T : Nat → Nat → Int64} {B : Nat → Nat → Nat → Int32} {hd : Nat → Nat → Int32} {df : Nat → Int32} {ly : Nat → Nat → Int64} {dt : Int64} {rr : Nat → Int64} (ely : ly = (lyT 3 (B 6) T)) (edt : dt = detX 3 ly) (h0 : ¬ dt = 0) (hs : ¬ dt < 0) (hrr : ∀ i : Nat, rr i = detX 3 (clT 3 ly i (hd 2))) : ∃ (co2 mi2 : Nat → Int64), KX1_solve l D ca ad [.ref 1, .ref 10, .int 3, .ref 25] (XW n vs be de sz ro co mi T B hd df) (some (.int 1)) (XW n vs (absX dt) dt 3 (roc 3 rr ro) co2 mi2 ly B hd df) := by
  obtain ⟨m0, em0⟩ : ∃ z, z = miX 3 ly mi := ⟨_, rfl⟩
  obtain ⟨c1, ec1⟩ : ∃ z, z = coT 3 ly 0 co := ⟨_, rfl⟩
  obtain ⟨m1, em1⟩ : ∃ z, z = miX 3 (clT 3 ly 0 (hd 2)) m0 := ⟨_, rfl⟩
  obtain ⟨c2, ec2⟩ : ∃ z, z = coT 3 ly 1 c1 := ⟨_, rfl⟩
  obtain ⟨m2, em2⟩ : ∃ z, z = miX 3 (clT 3 ly 1 (hd 2)) m1 := ⟨_, rfl⟩
  obtain ⟨c3, ec3⟩ : ∃ z, z = coT 3 ly 2 c2 := ⟨_, rfl⟩
  obtain ⟨m3, em3⟩ : ∃ z, z = miX 3 (clT 3 ly 2 (hd 2)) m2 := ⟨_, rfl⟩
  refine ⟨c3, m3, ?_⟩
  refine PX1_solve (Nat.le_of_ble_eq_true rfl) (Or.inr rfl) ?_
  intro G hT hC hR
  refine mB hT 3 rfl ?_
  refine hC.1 _ 1 [_, _] _ _ _ _ _ (show KX1_layTable l D ca ad _ _ none (XW n vs be dt 3 ro co m0 ly B hd df) from (by rw [em0, edt, ely]; exact c_lay_6_3)) rfl rfl (Nat.le_of_ble_eq_true rfl) rfl ?_
  refine mB hT 5 rfl ?_
  refine mIf (fun hp => absurd hp (fun q => h0 (lc_eq.mp q))) (fun _ => ?_)
  refine mB hT 3 rfl ?_
  refine hC.2.1 _ [_] _ _ _ _ (c_abs _) rfl (Nat.le_of_ble_eq_true rfl) rfl ?_
  refine mB hT 10 rfl ?_
  refine mWd (w2 := (XW n vs (absX dt) dt 3 ro co m0 ly B hd df)) rfl ?_
  refine hC.2.2 _ 1 [_, _] _ _ _ _ _ (show KX1_determinantWithColumn l D ca ad _ _ (some (.long (detX 3 (clT 3 ly 0 (hd 2))))) (XW n vs (absX dt) dt 3 ro c1 m1 ly B hd df) from (by rw [em1, ec1]; exact c_dwc_2_3_0)) rfl rfl (Nat.le_of_ble_eq_true rfl) rfl ?_
  refine mB hT 9 rfl ?_
  refine mIf (fun _ => ?_) (fun hn => absurd (lc_ge.mpr (Int64.not_lt.mp hs)) hn)
  refine mNf (lv2 := [(5, .long (detX 3 (clT 3 ly 0 (hd 2)))), (4, .int 0), (0, .ref 1), (1, .ref 10), (2, .int 3), (3, .ref 25)]) (st2 := [.int 0, .ref 2]) rfl rfl ?_
  refine mB hT 1 rfl ?_
  refine mNf (lv2 := [(5, .long (detX 3 (clT 3 ly 0 (hd 2)))), (4, .int 0), (0, .ref 1), (1, .ref 10), (2, .int 3), (3, .ref 25)]) (st2 := [.long (rr 0), .int 0, .ref 2]) rfl (by rw [hrr 0] <;> rfl) ?_
  refine mB hT 10 rfl ?_
  refine mWd (w2 := (XW n vs (absX dt) dt 3 (up ro 0 (rr 0)) c1 m1 ly B hd df)) rfl ?_
  refine hC.2.2 _ 1 [_, _] _ _ _ _ _ (show KX1_determinantWithColumn l D ca ad _ _ (some (.long (detX 3 (clT 3 ly 1 (hd 2))))) (XW n vs (absX dt) dt 3 (up ro 0 (rr 0)) c2 m2 ly B hd df) from (by rw [em2, ec2]; exact c_dwc_2_3_1)) rfl rfl (Nat.le_of_ble_eq_true rfl) rfl ?_
  refine mB hT 9 rfl ?_
  refine mIf (fun _ => ?_) (fun hn => absurd (lc_ge.mpr (Int64.not_lt.mp hs)) hn)
  refine mNf (lv2 := [(5, .long (detX 3 (clT 3 ly 1 (hd 2)))), (4, .int 1), (0, .ref 1), (1, .ref 10), (2, .int 3), (3, .ref 25)]) (st2 := [.int 1, .ref 2]) rfl rfl ?_
  refine mB hT 1 rfl ?_
  refine mNf (lv2 := [(5, .long (detX 3 (clT 3 ly 1 (hd 2)))), (4, .int 1), (0, .ref 1), (1, .ref 10), (2, .int 3), (3, .ref 25)]) (st2 := [.long (rr 1), .int 1, .ref 2]) rfl (by rw [hrr 1] <;> rfl) ?_
  refine mB hT 10 rfl ?_
  refine mWd (w2 := (XW n vs (absX dt) dt 3 (up (up ro 0 (rr 0)) 1 (rr 1)) c2 m2 ly B hd df)) rfl ?_
  refine hC.2.2 _ 1 [_, _] _ _ _ _ _ (show KX1_determinantWithColumn l D ca ad _ _ (some (.long (detX 3 (clT 3 ly 2 (hd 2))))) (XW n vs (absX dt) dt 3 (up (up ro 0 (rr 0)) 1 (rr 1)) c3 m3 ly B hd df) from (by rw [em3, ec3]; exact c_dwc_2_3_2)) rfl rfl (Nat.le_of_ble_eq_true rfl) rfl ?_
  refine mB hT 9 rfl ?_
  refine mIf (fun _ => ?_) (fun hn => absurd (lc_ge.mpr (Int64.not_lt.mp hs)) hn)
  refine mNf (lv2 := [(5, .long (detX 3 (clT 3 ly 2 (hd 2)))), (4, .int 2), (0, .ref 1), (1, .ref 10), (2, .int 3), (3, .ref 25)]) (st2 := [.int 2, .ref 2]) rfl rfl ?_
  refine mB hT 1 rfl ?_
  refine mNf (lv2 := [(5, .long (detX 3 (clT 3 ly 2 (hd 2)))), (4, .int 2), (0, .ref 1), (1, .ref 10), (2, .int 3), (3, .ref 25)]) (st2 := [.long (rr 2), .int 2, .ref 2]) rfl (by rw [hrr 2] <;> rfl) ?_
  refine mB hT 8 rfl ?_
  exact hR _ (by decide) _ _ _ rfl rfl
set_option maxRecDepth 20000 in
theorem c_solve1_6_3_2n {n vs : Int32} {be de : Int64} {sz : Int32} {ro co mi : Nat → Int64} {T : Nat → Nat → Int64} {B : Nat → Nat → Nat → Int32} {hd : Nat → Nat → Int32} {df : Nat → Int32} {ly : Nat → Nat → Int64} {dt : Int64} {rr : Nat → Int64} (ely : ly = (lyT 3 (B 6) T)) (edt : dt = detX 3 ly) (h0 : ¬ dt = 0) (hs : dt < 0) (hrr : ∀ i : Nat, rr i = -(detX 3 (clT 3 ly i (hd 2)))) : ∃ (co2 mi2 : Nat → Int64), KX1_solve l D ca ad [.ref 1, .ref 10, .int 3, .ref 25] (XW n vs be de sz ro co mi T B hd df) (some (.int 1)) (XW n vs (absX dt) dt 3 (roc 3 rr ro) co2 mi2 ly B hd df) := by
  obtain ⟨m0, em0⟩ : ∃ z, z = miX 3 ly mi := ⟨_, rfl⟩
  obtain ⟨c1, ec1⟩ : ∃ z, z = coT 3 ly 0 co := ⟨_, rfl⟩
  obtain ⟨m1, em1⟩ : ∃ z, z = miX 3 (clT 3 ly 0 (hd 2)) m0 := ⟨_, rfl⟩
  obtain ⟨c2, ec2⟩ : ∃ z, z = coT 3 ly 1 c1 := ⟨_, rfl⟩
  obtain ⟨m2, em2⟩ : ∃ z, z = miX 3 (clT 3 ly 1 (hd 2)) m1 := ⟨_, rfl⟩
  obtain ⟨c3, ec3⟩ : ∃ z, z = coT 3 ly 2 c2 := ⟨_, rfl⟩
  obtain ⟨m3, em3⟩ : ∃ z, z = miX 3 (clT 3 ly 2 (hd 2)) m2 := ⟨_, rfl⟩
  refine ⟨c3, m3, ?_⟩
  refine PX1_solve (Nat.le_of_ble_eq_true rfl) (Or.inr rfl) ?_
  intro G hT hC hR
  refine mB hT 3 rfl ?_
  refine hC.1 _ 1 [_, _] _ _ _ _ _ (show KX1_layTable l D ca ad _ _ none (XW n vs be dt 3 ro co m0 ly B hd df) from (by rw [em0, edt, ely]; exact c_lay_6_3)) rfl rfl (Nat.le_of_ble_eq_true rfl) rfl ?_
  refine mB hT 5 rfl ?_
  refine mIf (fun hp => absurd hp (fun q => h0 (lc_eq.mp q))) (fun _ => ?_)
  refine mB hT 3 rfl ?_
  refine hC.2.1 _ [_] _ _ _ _ (c_abs _) rfl (Nat.le_of_ble_eq_true rfl) rfl ?_
  refine mB hT 10 rfl ?_
  refine mWd (w2 := (XW n vs (absX dt) dt 3 ro co m0 ly B hd df)) rfl ?_
  refine hC.2.2 _ 1 [_, _] _ _ _ _ _ (show KX1_determinantWithColumn l D ca ad _ _ (some (.long (detX 3 (clT 3 ly 0 (hd 2))))) (XW n vs (absX dt) dt 3 ro c1 m1 ly B hd df) from (by rw [em1, ec1]; exact c_dwc_2_3_0)) rfl rfl (Nat.le_of_ble_eq_true rfl) rfl ?_
  refine mB hT 9 rfl ?_
  refine mIf (fun hp => absurd hp (fun q => Int64.not_lt.mpr (lc_ge.mp q) hs)) (fun _ => ?_)
  refine mNf (lv2 := [(5, .long (detX 3 (clT 3 ly 0 (hd 2)))), (4, .int 0), (0, .ref 1), (1, .ref 10), (2, .int 3), (3, .ref 25)]) (st2 := [.int 0, .ref 2]) rfl rfl ?_
  refine mB hT 3 rfl ?_
  refine mNf (lv2 := [(5, .long (detX 3 (clT 3 ly 0 (hd 2)))), (4, .int 0), (0, .ref 1), (1, .ref 10), (2, .int 3), (3, .ref 25)]) (st2 := [.long (rr 0), .int 0, .ref 2]) rfl (by rw [hrr 0] <;> rfl) ?_
  refine mB hT 10 rfl ?_
  refine mWd (w2 := (XW n vs (absX dt) dt 3 (up ro 0 (rr 0)) c1 m1 ly B hd df)) rfl ?_
  refine hC.2.2 _ 1 [_, _] _ _ _ _ _ (show KX1_determinantWithColumn l D ca ad _ _ (some (.long (detX 3 (clT 3 ly 1 (hd 2))))) (XW n vs (absX dt) dt 3 (up ro 0 (rr 0)) c2 m2 ly B hd df) from (by rw [em2, ec2]; exact c_dwc_2_3_1)) rfl rfl (Nat.le_of_ble_eq_true rfl) rfl ?_
  refine mB hT 9 rfl ?_
  refine mIf (fun hp => absurd hp (fun q => Int64.not_lt.mpr (lc_ge.mp q) hs)) (fun _ => ?_)
  refine mNf (lv2 := [(5, .long (detX 3 (clT 3 ly 1 (hd 2)))), (4, .int 1), (0, .ref 1), (1, .ref 10), (2, .int 3), (3, .ref 25)]) (st2 := [.int 1, .ref 2]) rfl rfl ?_
  refine mB hT 3 rfl ?_
  refine mNf (lv2 := [(5, .long (detX 3 (clT 3 ly 1 (hd 2)))), (4, .int 1), (0, .ref 1), (1, .ref 10), (2, .int 3), (3, .ref 25)]) (st2 := [.long (rr 1), .int 1, .ref 2]) rfl (by rw [hrr 1] <;> rfl) ?_
  refine mB hT 10 rfl ?_
  refine mWd (w2 := (XW n vs (absX dt) dt 3 (up (up ro 0 (rr 0)) 1 (rr 1)) c2 m2 ly B hd df)) rfl ?_
  refine hC.2.2 _ 1 [_, _] _ _ _ _ _ (show KX1_determinantWithColumn l D ca ad _ _ (some (.long (detX 3 (clT 3 ly 2 (hd 2))))) (XW n vs (absX dt) dt 3 (up (up ro 0 (rr 0)) 1 (rr 1)) c3 m3 ly B hd df) from (by rw [em3, ec3]; exact c_dwc_2_3_2)) rfl rfl (Nat.le_of_ble_eq_true rfl) rfl ?_
  refine mB hT 9 rfl ?_
  refine mIf (fun hp => absurd hp (fun q => Int64.not_lt.mpr (lc_ge.mp q) hs)) (fun _ => ?_)
  refine mNf (lv2 := [(5, .long (detX 3 (clT 3 ly 2 (hd 2)))), (4, .int 2), (0, .ref 1), (1, .ref 10), (2, .int 3), (3, .ref 25)]) (st2 := [.int 2, .ref 2]) rfl rfl ?_
  refine mB hT 3 rfl ?_
  refine mNf (lv2 := [(5, .long (detX 3 (clT 3 ly 2 (hd 2)))), (4, .int 2), (0, .ref 1), (1, .ref 10), (2, .int 3), (3, .ref 25)]) (st2 := [.long (rr 2), .int 2, .ref 2]) rfl (by rw [hrr 2] <;> rfl) ?_
  refine mB hT 8 rfl ?_
  exact hR _ (by decide) _ _ _ rfl rfl
theorem c_solve1_6_3_2 {n vs : Int32} {be de : Int64} {sz : Int32} {ro co mi : Nat → Int64} {T : Nat → Nat → Int64} {B : Nat → Nat → Nat → Int32} {hd : Nat → Nat → Int32} {df : Nat → Int32} (h0 : ¬ detX 3 (lyT 3 (B 6) T) = 0) : ∃ (de2 : Int64) (co2 mi2 : Nat → Int64) (T2 : Nat → Nat → Int64), KX1_solve l D ca ad [.ref 1, .ref 10, .int 3, .ref 25] (XW n vs be de sz ro co mi T B hd df) (some (.int 1)) (XW n vs (absX (detX 3 (lyT 3 (B 6) T))) de2 3 (roX 3 (lyT 3 (B 6) T) (hd 2) ro) co2 mi2 T2 B hd df) := by
  by_cases hs : detX 3 (lyT 3 (B 6) T) < 0
  · obtain ⟨c2, m2, k⟩ := c_solve1_6_3_2n (rr := rdX 3 (lyT 3 (B 6) T) (hd 2)) rfl rfl h0 hs (fun i => if_pos hs)
    exact ⟨_, c2, m2, _, k⟩
  · obtain ⟨c2, m2, k⟩ := c_solve1_6_3_2p (rr := rdX 3 (lyT 3 (B 6) T) (hd 2)) rfl rfl h0 hs (fun i => if_neg hs)
    exact ⟨_, c2, m2, _, k⟩
theorem c_solve0_6_3_3 {n vs : Int32} {be de : Int64} {sz : Int32} {ro co mi : Nat → Int64} {T : Nat → Nat → Int64} {B : Nat → Nat → Nat → Int32} {hd : Nat → Nat → Int32} {df : Nat → Int32} (h0 : detX 3 (lyT 3 (B 6) T) = 0) : ∃ (de2 : Int64) (mi2 : Nat → Int64) (T2 : Nat → Nat → Int64), KX1_solve l D ca ad [.ref 1, .ref 10, .int 3, .ref 26] (XW n vs be de sz ro co mi T B hd df) (some (.int 0)) (XW n vs be de2 3 ro co mi2 T2 B hd df) := by
  obtain ⟨ly, ely⟩ : ∃ z, z = (lyT 3 (B 6) T) := ⟨_, rfl⟩
  rw [← ely] at h0
  obtain ⟨dt, edt⟩ : ∃ z, z = detX 3 ly := ⟨_, rfl⟩
  rw [← edt] at h0
  obtain ⟨m0, em0⟩ : ∃ z, z = miX 3 ly mi := ⟨_, rfl⟩
  refine ⟨dt, m0, ly, ?_⟩
  refine PX1_solve (Nat.le_of_ble_eq_true rfl) (Or.inl rfl) ?_
  intro G hT hC hR
  refine mB hT 3 rfl ?_
  refine hC.1 _ 1 [_, _] _ _ _ _ _ (show KX1_layTable l D ca ad _ _ none (XW n vs be dt 3 ro co m0 ly B hd df) from (by rw [em0, edt, ely]; exact c_lay_6_3)) rfl rfl (Nat.le_of_ble_eq_true rfl) rfl ?_
  refine mB hT 5 rfl ?_
  refine mIf (fun _ => ?_) (fun hn => absurd (lc_eq.mpr h0) hn)
  refine mB hT 1 rfl ?_
  exact hR _ (by decide) _ _ _ rfl rfl
set_option maxRecDepth 20000 in
theorem c_solve1_6_3_3p {n vs : Int32} {be de : Int64} {sz : Int32} {ro co mi : Nat → Int64} {T : Nat → Nat → Int64} {B : Nat → Nat → Nat → Int32} {hd : Nat → Nat → Int32} {df : Nat → Int32} {ly : Nat → Nat → Int64} {dt : Int64} {rr : Nat → Int64} (ely : ly = (lyT 3 (B 6) T)) (edt : dt = detX 3 ly) (h0 : ¬ dt = 0) (hs : ¬ dt < 0) (hrr : ∀ i : Nat, rr i = detX 3 (clT 3 ly i (hd 3))) : ∃ (co2 mi2 : Nat → Int64), KX1_solve l D ca ad [.ref 1, .ref 10, .int 3, .ref 26] (XW n vs be de sz ro co mi T B hd df) (some (.int 1)) (XW n vs (absX dt) dt 3 (roc 3 rr ro) co2 mi2 ly B hd df) := by
  obtain ⟨m0, em0⟩ : ∃ z, z = miX 3 ly mi := ⟨_, rfl⟩
  obtain ⟨c1, ec1⟩ : ∃ z, z = coT 3 ly 0 co := ⟨_, rfl⟩
  obtain ⟨m1, em1⟩ : ∃ z, z = miX 3 (clT 3 ly 0 (hd 3)) m0 := ⟨_, rfl⟩
  obtain ⟨c2, ec2⟩ : ∃ z, z = coT 3 ly 1 c1 := ⟨_, rfl⟩
  obtain ⟨m2, em2⟩ : ∃ z, z = miX 3 (clT 3 ly 1 (hd 3)) m1 := ⟨_, rfl⟩
  obtain ⟨c3, ec3⟩ : ∃ z, z = coT 3 ly 2 c2 := ⟨_, rfl⟩
  obtain ⟨m3, em3⟩ : ∃ z, z = miX 3 (clT 3 ly 2 (hd 3)) m2 := ⟨_, rfl⟩
  refine ⟨c3, m3, ?_⟩
  refine PX1_solve (Nat.le_of_ble_eq_true rfl) (Or.inr rfl) ?_
  intro G hT hC hR
  refine mB hT 3 rfl ?_
  refine hC.1 _ 1 [_, _] _ _ _ _ _ (show KX1_layTable l D ca ad _ _ none (XW n vs be dt 3 ro co m0 ly B hd df) from (by rw [em0, edt, ely]; exact c_lay_6_3)) rfl rfl (Nat.le_of_ble_eq_true rfl) rfl ?_
  refine mB hT 5 rfl ?_
  refine mIf (fun hp => absurd hp (fun q => h0 (lc_eq.mp q))) (fun _ => ?_)
  refine mB hT 3 rfl ?_
  refine hC.2.1 _ [_] _ _ _ _ (c_abs _) rfl (Nat.le_of_ble_eq_true rfl) rfl ?_
  refine mB hT 10 rfl ?_
  refine mWd (w2 := (XW n vs (absX dt) dt 3 ro co m0 ly B hd df)) rfl ?_
  refine hC.2.2 _ 1 [_, _] _ _ _ _ _ (show KX1_determinantWithColumn l D ca ad _ _ (some (.long (detX 3 (clT 3 ly 0 (hd 3))))) (XW n vs (absX dt) dt 3 ro c1 m1 ly B hd df) from (by rw [em1, ec1]; exact c_dwc_3_3_0)) rfl rfl (Nat.le_of_ble_eq_true rfl) rfl ?_
  refine mB hT 9 rfl ?_
  refine mIf (fun _ => ?_) (fun hn => absurd (lc_ge.mpr (Int64.not_lt.mp hs)) hn)
  refine mNf (lv2 := [(5, .long (detX 3 (clT 3 ly 0 (hd 3)))), (4, .int 0), (0, .ref 1), (1, .ref 10), (2, .int 3), (3, .ref 26)]) (st2 := [.int 0, .ref 2]) rfl rfl ?_
  refine mB hT 1 rfl ?_
  refine mNf (lv2 := [(5, .long (detX 3 (clT 3 ly 0 (hd 3)))), (4, .int 0), (0, .ref 1), (1, .ref 10), (2, .int 3), (3, .ref 26)]) (st2 := [.long (rr 0), .int 0, .ref 2]) rfl (by rw [hrr 0] <;> rfl) ?_
  refine mB hT 10 rfl ?_
  refine mWd (w2 := (XW n vs (absX dt) dt 3 (up ro 0 (rr 0)) c1 m1 ly B hd df)) rfl ?_
  refine hC.2.2 _ 1 [_, _] _ _ _ _ _ (show KX1_determinantWithColumn l D ca ad _ _ (some (.long (detX 3 (clT 3 ly 1 (hd 3))))) (XW n vs (absX dt) dt 3 (up ro 0 (rr 0)) c2 m2 ly B hd df) from (by rw [em2, ec2]; exact c_dwc_3_3_1)) rfl rfl (Nat.le_of_ble_eq_true rfl) rfl ?_
  refine mB hT 9 rfl ?_
  refine mIf (fun _ => ?_) (fun hn => absurd (lc_ge.mpr (Int64.not_lt.mp hs)) hn)
  refine mNf (lv2 := [(5, .long (detX 3 (clT 3 ly 1 (hd 3)))), (4, .int 1), (0, .ref 1), (1, .ref 10), (2, .int 3), (3, .ref 26)]) (st2 := [.int 1, .ref 2]) rfl rfl ?_
  refine mB hT 1 rfl ?_
  refine mNf (lv2 := [(5, .long (detX 3 (clT 3 ly 1 (hd 3)))), (4, .int 1), (0, .ref 1), (1, .ref 10), (2, .int 3), (3, .ref 26)]) (st2 := [.long (rr 1), .int 1, .ref 2]) rfl (by rw [hrr 1] <;> rfl) ?_
  refine mB hT 10 rfl ?_
  refine mWd (w2 := (XW n vs (absX dt) dt 3 (up (up ro 0 (rr 0)) 1 (rr 1)) c2 m2 ly B hd df)) rfl ?_
  refine hC.2.2 _ 1 [_, _] _ _ _ _ _ (show KX1_determinantWithColumn l D ca ad _ _ (some (.long (detX 3 (clT 3 ly 2 (hd 3))))) (XW n vs (absX dt) dt 3 (up (up ro 0 (rr 0)) 1 (rr 1)) c3 m3 ly B hd df) from (by rw [em3, ec3]; exact c_dwc_3_3_2)) rfl rfl (Nat.le_of_ble_eq_true rfl) rfl ?_
  refine mB hT 9 rfl ?_
  refine mIf (fun _ => ?_) (fun hn => absurd (lc_ge.mpr (Int64.not_lt.mp hs)) hn)
  refine mNf (lv2 := [(5, .long (detX 3 (clT 3 ly 2 (hd 3)))), (4, .int 2), (0, .ref 1), (1, .ref 10), (2, .int 3), (3, .ref 26)]) (st2 := [.int 2, .ref 2]) rfl rfl ?_
  refine mB hT 1 rfl ?_
  refine mNf (lv2 := [(5, .long (detX 3 (clT 3 ly 2 (hd 3)))), (4, .int 2), (0, .ref 1), (1, .ref 10), (2, .int 3), (3, .ref 26)]) (st2 := [.long (rr 2), .int 2, .ref 2]) rfl (by rw [hrr 2] <;> rfl) ?_
  refine mB hT 8 rfl ?_
  exact hR _ (by decide) _ _ _ rfl rfl
set_option maxRecDepth 20000 in
theorem c_solve1_6_3_3n {n vs : Int32} {be de : Int64} {sz : Int32} {ro co mi : Nat → Int64} {T : Nat → Nat → Int64} {B : Nat → Nat → Nat → Int32} {hd : Nat → Nat → Int32} {df : Nat → Int32} {ly : Nat → Nat → Int64} {dt : Int64} {rr : Nat → Int64} (ely : ly = (lyT 3 (B 6) T)) (edt : dt = detX 3 ly) (h0 : ¬ dt = 0) (hs : dt < 0) (hrr : ∀ i : Nat, rr i = -(detX 3 (clT 3 ly i (hd 3)))) : ∃ (co2 mi2 : Nat → Int64), KX1_solve l D ca ad [.ref 1, .ref 10, .int 3, .ref 26] (XW n vs be de sz ro co mi T B hd df) (some (.int 1)) (XW n vs (absX dt) dt 3 (roc 3 rr ro) co2 mi2 ly B hd df) := by
  obtain ⟨m0, em0⟩ : ∃ z, z = miX 3 ly mi := ⟨_, rfl⟩
  obtain ⟨c1, ec1⟩ : ∃ z, z = coT 3 ly 0 co := ⟨_, rfl⟩
  obtain ⟨m1, em1⟩ : ∃ z, z = miX 3 (clT 3 ly 0 (hd 3)) m0 := ⟨_, rfl⟩
  obtain ⟨c2, ec2⟩ : ∃ z, z = coT 3 ly 1 c1 := ⟨_, rfl⟩
  obtain ⟨m2, em2⟩ : ∃ z, z = miX 3 (clT 3 ly 1 (hd 3)) m1 := ⟨_, rfl⟩
  obtain ⟨c3, ec3⟩ : ∃ z, z = coT 3 ly 2 c2 := ⟨_, rfl⟩
  obtain ⟨m3, em3⟩ : ∃ z, z = miX 3 (clT 3 ly 2 (hd 3)) m2 := ⟨_, rfl⟩
  refine ⟨c3, m3, ?_⟩
  refine PX1_solve (Nat.le_of_ble_eq_true rfl) (Or.inr rfl) ?_
  intro G hT hC hR
  refine mB hT 3 rfl ?_
  refine hC.1 _ 1 [_, _] _ _ _ _ _ (show KX1_layTable l D ca ad _ _ none (XW n vs be dt 3 ro co m0 ly B hd df) from (by rw [em0, edt, ely]; exact c_lay_6_3)) rfl rfl (Nat.le_of_ble_eq_true rfl) rfl ?_
  refine mB hT 5 rfl ?_
  refine mIf (fun hp => absurd hp (fun q => h0 (lc_eq.mp q))) (fun _ => ?_)
  refine mB hT 3 rfl ?_
  refine hC.2.1 _ [_] _ _ _ _ (c_abs _) rfl (Nat.le_of_ble_eq_true rfl) rfl ?_
  refine mB hT 10 rfl ?_
  refine mWd (w2 := (XW n vs (absX dt) dt 3 ro co m0 ly B hd df)) rfl ?_
  refine hC.2.2 _ 1 [_, _] _ _ _ _ _ (show KX1_determinantWithColumn l D ca ad _ _ (some (.long (detX 3 (clT 3 ly 0 (hd 3))))) (XW n vs (absX dt) dt 3 ro c1 m1 ly B hd df) from (by rw [em1, ec1]; exact c_dwc_3_3_0)) rfl rfl (Nat.le_of_ble_eq_true rfl) rfl ?_
  refine mB hT 9 rfl ?_
  refine mIf (fun hp => absurd hp (fun q => Int64.not_lt.mpr (lc_ge.mp q) hs)) (fun _ => ?_)
  refine mNf (lv2 := [(5, .long (detX 3 (clT 3 ly 0 (hd 3)))), (4, .int 0), (0, .ref 1), (1, .ref 10), (2, .int 3), (3, .ref 26)]) (st2 := [.int 0, .ref 2]) rfl rfl ?_
  refine mB hT 3 rfl ?_
  refine mNf (lv2 := [(5, .long (detX 3 (clT 3 ly 0 (hd 3)))), (4, .int 0), (0, .ref 1), (1, .ref 10), (2, .int 3), (3, .ref 26)]) (st2 := [.long (rr 0), .int 0, .ref 2]) rfl (by rw [hrr 0] <;> rfl) ?_
  refine mB hT 10 rfl ?_
  refine mWd (w2 := (XW n vs (absX dt) dt 3 (up ro 0 (rr 0)) c1 m1 ly B hd df)) rfl ?_
  refine hC.2.2 _ 1 [_, _] _ _ _ _ _ (show KX1_determinantWithColumn l D ca ad _ _ (some (.long (detX 3 (clT 3 ly 1 (hd 3))))) (XW n vs (absX dt) dt 3 (up ro 0 (rr 0)) c2 m2 ly B hd df) from (by rw [em2, ec2]; exact c_dwc_3_3_1)) rfl rfl (Nat.le_of_ble_eq_true rfl) rfl ?_
  refine mB hT 9 rfl ?_
  refine mIf (fun hp => absurd hp (fun q => Int64.not_lt.mpr (lc_ge.mp q) hs)) (fun _ => ?_)
  refine mNf (lv2 := [(5, .long (detX 3 (clT 3 ly 1 (hd 3)))), (4, .int 1), (0, .ref 1), (1, .ref 10), (2, .int 3), (3, .ref 26)]) (st2 := [.int 1, .ref 2]) rfl rfl ?_
  refine mB hT 3 rfl ?_
  refine mNf (lv2 := [(5, .long (detX 3 (clT 3 ly 1 (hd 3)))), (4, .int 1), (0, .ref 1), (1, .ref 10), (2, .int 3), (3, .ref 26)]) (st2 := [.long (rr 1), .int 1, .ref 2]) rfl (by rw [hrr 1] <;> rfl) ?_
  refine mB hT 10 rfl ?_
  refine mWd (w2 := (XW n vs (absX dt) dt 3 (up (up ro 0 (rr 0)) 1 (rr 1)) c2 m2 ly B hd df)) rfl ?_
  refine hC.2.2 _ 1 [_, _] _ _ _ _ _ (show KX1_determinantWithColumn l D ca ad _ _ (some (.long (detX 3 (clT 3 ly 2 (hd 3))))) (XW n vs (absX dt) dt 3 (up (up ro 0 (rr 0)) 1 (rr 1)) c3 m3 ly B hd df) from (by rw [em3, ec3]; exact c_dwc_3_3_2)) rfl rfl (Nat.le_of_ble_eq_true rfl) rfl ?_
  refine mB hT 9 rfl ?_
  refine mIf (fun hp => absurd hp (fun q => Int64.not_lt.mpr (lc_ge.mp q) hs)) (fun _ => ?_)
  refine mNf (lv2 := [(5, .long (detX 3 (clT 3 ly 2 (hd 3)))), (4, .int 2), (0, .ref 1), (1, .ref 10), (2, .int 3), (3, .ref 26)]) (st2 := [.int 2, .ref 2]) rfl rfl ?_
  refine mB hT 3 rfl ?_
  refine mNf (lv2 := [(5, .long (detX 3 (clT 3 ly 2 (hd 3)))), (4, .int 2), (0, .ref 1), (1, .ref 10), (2, .int 3), (3, .ref 26)]) (st2 := [.long (rr 2), .int 2, .ref 2]) rfl (by rw [hrr 2] <;> rfl) ?_
  refine mB hT 8 rfl ?_
  exact hR _ (by decide) _ _ _ rfl rfl
theorem c_solve1_6_3_3 {n vs : Int32} {be de : Int64} {sz : Int32} {ro co mi : Nat → Int64} {T : Nat → Nat → Int64} {B : Nat → Nat → Nat → Int32} {hd : Nat → Nat → Int32} {df : Nat → Int32} (h0 : ¬ detX 3 (lyT 3 (B 6) T) = 0) : ∃ (de2 : Int64) (co2 mi2 : Nat → Int64) (T2 : Nat → Nat → Int64), KX1_solve l D ca ad [.ref 1, .ref 10, .int 3, .ref 26] (XW n vs be de sz ro co mi T B hd df) (some (.int 1)) (XW n vs (absX (detX 3 (lyT 3 (B 6) T))) de2 3 (roX 3 (lyT 3 (B 6) T) (hd 3) ro) co2 mi2 T2 B hd df) := by
  by_cases hs : detX 3 (lyT 3 (B 6) T) < 0
  · obtain ⟨c2, m2, k⟩ := c_solve1_6_3_3n (rr := rdX 3 (lyT 3 (B 6) T) (hd 3)) rfl rfl h0 hs (fun i => if_pos hs)
    exact ⟨_, c2, m2, _, k⟩
  · obtain ⟨c2, m2, k⟩ := c_solve1_6_3_3p (rr := rdX 3 (lyT 3 (B 6) T) (hd 3)) rfl rfl h0 hs (fun i => if_neg hs)
    exact ⟨_, c2, m2, _, k⟩
theorem c_solve0_6_3_4 {n vs : Int32} {be de : Int64} {sz : Int32} {ro co mi : Nat → Int64} {T : Nat → Nat → Int64} {B : Nat → Nat → Nat → Int32} {hd : Nat → Nat → Int32} {df : Nat → Int32} (h0 : detX 3 (lyT 3 (B 6) T) = 0) : ∃ (de2 : Int64) (mi2 : Nat → Int64) (T2 : Nat → Nat → Int64), KX1_solve l D ca ad [.ref 1, .ref 10, .int 3, .ref 27] (XW n vs be de sz ro co mi T B hd df) (some (.int 0)) (XW n vs be de2 3 ro co mi2 T2 B hd df) := by
  obtain ⟨ly, ely⟩ : ∃ z, z = (lyT 3 (B 6) T) := ⟨_, rfl⟩
  rw [← ely] at h0
  obtain ⟨dt, edt⟩ : ∃ z, z = detX 3 ly := ⟨_, rfl⟩
  rw [← edt] at h0
  obtain ⟨m0, em0⟩ : ∃ z, z = miX 3 ly mi := ⟨_, rfl⟩
  refine ⟨dt, m0, ly, ?_⟩
  refine PX1_solve (Nat.le_of_ble_eq_true rfl) (Or.inl rfl) ?_
  intro G hT hC hR
  refine mB hT 3 rfl ?_
  refine hC.1 _ 1 [_, _] _ _ _ _ _ (show KX1_layTable l D ca ad _ _ none (XW n vs be dt 3 ro co m0 ly B hd df) from (by rw [em0, edt, ely]; exact c_lay_6_3)) rfl rfl (Nat.le_of_ble_eq_true rfl) rfl ?_
  refine mB hT 5 rfl ?_
  refine mIf (fun _ => ?_) (fun hn => absurd (lc_eq.mpr h0) hn)
  refine mB hT 1 rfl ?_
  exact hR _ (by decide) _ _ _ rfl rfl
set_option maxRecDepth 20000 in
theorem c_solve1_6_3_4p {n vs : Int32} {be de : Int64} {sz : Int32} {ro co mi : Nat → Int64} {T : Nat → Nat → Int64} {B : Nat → Nat → Nat → Int32} {hd : Nat → Nat → Int32} {df : Nat → Int32} {ly : Nat → Nat → Int64} {dt : Int64} {rr : Nat → Int64} (ely : ly = (lyT 3 (B 6) T)) (edt : dt = detX 3 ly) (h0 : ¬ dt = 0) (hs : ¬ dt < 0) (hrr : ∀ i : Nat, rr i = detX 3 (clT 3 ly i df)) : ∃ (co2 mi2 : Nat → Int64), KX1_solve l D ca ad [.ref 1, .ref 10, .int 3, .ref 27] (XW n vs be de sz ro co mi T B hd df) (some (.int 1)) (XW n vs (absX dt) dt 3 (roc 3 rr ro) co2 mi2 ly B hd df) := by
  obtain ⟨m0, em0⟩ : ∃ z, z = miX 3 ly mi := ⟨_, rfl⟩
  obtain ⟨c1, ec1⟩ : ∃ z, z = coT 3 ly 0 co := ⟨_, rfl⟩
  obtain ⟨m1, em1⟩ : ∃ z, z = miX 3 (clT 3 ly 0 df) m0 := ⟨_, rfl⟩
  obtain ⟨c2, ec2⟩ : ∃ z, z = coT 3 ly 1 c1 := ⟨_, rfl⟩
  obtain ⟨m2, em2⟩ : ∃ z, z = miX 3 (clT 3 ly 1 df) m1 := ⟨_, rfl⟩
  obtain ⟨c3, ec3⟩ : ∃ z, z = coT 3 ly 2 c2 := ⟨_, rfl⟩
  obtain ⟨m3, em3⟩ : ∃ z, z = miX 3 (clT 3 ly 2 df) m2 := ⟨_, rfl⟩
  refine ⟨c3, m3, ?_⟩
  refine PX1_solve (Nat.le_of_ble_eq_true rfl) (Or.inr rfl) ?_
  intro G hT hC hR
  refine mB hT 3 rfl ?_
  refine hC.1 _ 1 [_, _] _ _ _ _ _ (show KX1_layTable l D ca ad _ _ none (XW n vs be dt 3 ro co m0 ly B hd df) from (by rw [em0, edt, ely]; exact c_lay_6_3)) rfl rfl (Nat.le_of_ble_eq_true rfl) rfl ?_
  refine mB hT 5 rfl ?_
  refine mIf (fun hp => absurd hp (fun q => h0 (lc_eq.mp q))) (fun _ => ?_)
  refine mB hT 3 rfl ?_
  refine hC.2.1 _ [_] _ _ _ _ (c_abs _) rfl (Nat.le_of_ble_eq_true rfl) rfl ?_
  refine mB hT 10 rfl ?_
  refine mWd (w2 := (XW n vs (absX dt) dt 3 ro co m0 ly B hd df)) rfl ?_
  refine hC.2.2 _ 1 [_, _] _ _ _ _ _ (show KX1_determinantWithColumn l D ca ad _ _ (some (.long (detX 3 (clT 3 ly 0 df)))) (XW n vs (absX dt) dt 3 ro c1 m1 ly B hd df) from (by rw [em1, ec1]; exact c_dwc_4_3_0)) rfl rfl (Nat.le_of_ble_eq_true rfl) rfl ?_
  refine mB hT 9 rfl ?_
  refine mIf (fun _ => ?_) (fun hn => absurd (lc_ge.mpr (Int64.not_lt.mp hs)) hn)
  refine mNf (lv2 := [(5, .long (detX 3 (clT 3 ly 0 df))), (4, .int 0), (0, .ref 1), (1, .ref 10), (2, .int 3), (3, .ref 27)]) (st2 := [.int 0, .ref 2]) rfl rfl ?_
  refine mB hT 1 rfl ?_
  refine mNf (lv2 := [(5, .long (detX 3 (clT 3 ly 0 df))), (4, .int 0), (0, .ref 1), (1, .ref 10), (2, .int 3), (3, .ref 27)]) (st2 := [.long (rr 0), .int 0, .ref 2]) rfl (by rw [hrr 0] <;> rfl) ?_
  refine mB hT 10 rfl ?_
  refine mWd (w2 := (XW n vs (absX dt) dt 3 (up ro 0 (rr 0)) c1 m1 ly B hd df)) rfl ?_
  refine hC.2.2 _ 1 [_, _] _ _ _ _ _ (show KX1_determinantWithColumn l D ca ad _ _ (some (.long (detX 3 (clT 3 ly 1 df)))) (XW n vs (absX dt) dt 3 (up ro 0 (rr 0)) c2 m2 ly B hd df) from (by rw [em2, ec2]; exact c_dwc_4_3_1)) rfl rfl (Nat.le_of_ble_eq_true rfl) rfl ?_
  refine mB hT 9 rfl ?_
  refine mIf (fun _ => ?_) (fun hn => absurd (lc_ge.mpr (Int64.not_lt.mp hs)) hn)
  refine mNf (lv2 := [(5, .long (detX 3 (clT 3 ly 1 df))), (4, .int 1), (0, .ref 1), (1, .ref 10), (2, .int 3), (3, .ref 27)]) (st2 := [.int 1, .ref 2]) rfl rfl ?_
  refine mB hT 1 rfl ?_
  refine mNf (lv2 := [(5, .long (detX 3 (clT 3 ly 1 df))), (4, .int 1), (0, .ref 1), (1, .ref 10), (2, .int 3), (3, .ref 27)]) (st2 := [.long (rr 1), .int 1, .ref 2]) rfl (by rw [hrr 1] <;> rfl) ?_
  refine mB hT 10 rfl ?_
  refine mWd (w2 := (XW n vs (absX dt) dt 3 (up (up ro 0 (rr 0)) 1 (rr 1)) c2 m2 ly B hd df)) rfl ?_
  refine hC.2.2 _ 1 [_, _] _ _ _ _ _ (show KX1_determinantWithColumn l D ca ad _ _ (some (.long (detX 3 (clT 3 ly 2 df)))) (XW n vs (absX dt) dt 3 (up (up ro 0 (rr 0)) 1 (rr 1)) c3 m3 ly B hd df) from (by rw [em3, ec3]; exact c_dwc_4_3_2)) rfl rfl (Nat.le_of_ble_eq_true rfl) rfl ?_
  refine mB hT 9 rfl ?_
  refine mIf (fun _ => ?_) (fun hn => absurd (lc_ge.mpr (Int64.not_lt.mp hs)) hn)
  refine mNf (lv2 := [(5, .long (detX 3 (clT 3 ly 2 df))), (4, .int 2), (0, .ref 1), (1, .ref 10), (2, .int 3), (3, .ref 27)]) (st2 := [.int 2, .ref 2]) rfl rfl ?_
  refine mB hT 1 rfl ?_
  refine mNf (lv2 := [(5, .long (detX 3 (clT 3 ly 2 df))), (4, .int 2), (0, .ref 1), (1, .ref 10), (2, .int 3), (3, .ref 27)]) (st2 := [.long (rr 2), .int 2, .ref 2]) rfl (by rw [hrr 2] <;> rfl) ?_
  refine mB hT 8 rfl ?_
  exact hR _ (by decide) _ _ _ rfl rfl
set_option maxRecDepth 20000 in
theorem c_solve1_6_3_4n {n vs : Int32} {be de : Int64} {sz : Int32} {ro co mi : Nat → Int64} {T : Nat → Nat → Int64} {B : Nat → Nat → Nat → Int32} {hd : Nat → Nat → Int32} {df : Nat → Int32} {ly : Nat → Nat → Int64} {dt : Int64} {rr : Nat → Int64} (ely : ly = (lyT 3 (B 6) T)) (edt : dt = detX 3 ly) (h0 : ¬ dt = 0) (hs : dt < 0) (hrr : ∀ i : Nat, rr i = -(detX 3 (clT 3 ly i df))) : ∃ (co2 mi2 : Nat → Int64), KX1_solve l D ca ad [.ref 1, .ref 10, .int 3, .ref 27] (XW n vs be de sz ro co mi T B hd df) (some (.int 1)) (XW n vs (absX dt) dt 3 (roc 3 rr ro) co2 mi2 ly B hd df) := by
  obtain ⟨m0, em0⟩ : ∃ z, z = miX 3 ly mi := ⟨_, rfl⟩
  obtain ⟨c1, ec1⟩ : ∃ z, z = coT 3 ly 0 co := ⟨_, rfl⟩
  obtain ⟨m1, em1⟩ : ∃ z, z = miX 3 (clT 3 ly 0 df) m0 := ⟨_, rfl⟩
  obtain ⟨c2, ec2⟩ : ∃ z, z = coT 3 ly 1 c1 := ⟨_, rfl⟩
  obtain ⟨m2, em2⟩ : ∃ z, z = miX 3 (clT 3 ly 1 df) m1 := ⟨_, rfl⟩
  obtain ⟨c3, ec3⟩ : ∃ z, z = coT 3 ly 2 c2 := ⟨_, rfl⟩
  obtain ⟨m3, em3⟩ : ∃ z, z = miX 3 (clT 3 ly 2 df) m2 := ⟨_, rfl⟩
  refine ⟨c3, m3, ?_⟩
  refine PX1_solve (Nat.le_of_ble_eq_true rfl) (Or.inr rfl) ?_
  intro G hT hC hR
  refine mB hT 3 rfl ?_
  refine hC.1 _ 1 [_, _] _ _ _ _ _ (show KX1_layTable l D ca ad _ _ none (XW n vs be dt 3 ro co m0 ly B hd df) from (by rw [em0, edt, ely]; exact c_lay_6_3)) rfl rfl (Nat.le_of_ble_eq_true rfl) rfl ?_
  refine mB hT 5 rfl ?_
  refine mIf (fun hp => absurd hp (fun q => h0 (lc_eq.mp q))) (fun _ => ?_)
  refine mB hT 3 rfl ?_
  refine hC.2.1 _ [_] _ _ _ _ (c_abs _) rfl (Nat.le_of_ble_eq_true rfl) rfl ?_
  refine mB hT 10 rfl ?_
  refine mWd (w2 := (XW n vs (absX dt) dt 3 ro co m0 ly B hd df)) rfl ?_
  refine hC.2.2 _ 1 [_, _] _ _ _ _ _ (show KX1_determinantWithColumn l D ca ad _ _ (some (.long (detX 3 (clT 3 ly 0 df)))) (XW n vs (absX dt) dt 3 ro c1 m1 ly B hd df) from (by rw [em1, ec1]; exact c_dwc_4_3_0)) rfl rfl (Nat.le_of_ble_eq_true rfl) rfl ?_
  refine mB hT 9 rfl ?_
  refine mIf (fun hp => absurd hp (fun q => Int64.not_lt.mpr (lc_ge.mp q) hs)) (fun _ => ?_)
  refine mNf (lv2 := [(5, .long (detX 3 (clT 3 ly 0 df))), (4, .int 0), (0, .ref 1), (1, .ref 10), (2, .int 3), (3, .ref 27)]) (st2 := [.int 0, .ref 2]) rfl rfl ?_
  refine mB hT 3 rfl ?_
  refine mNf (lv2 := [(5, .long (detX 3 (clT 3 ly 0 df))), (4, .int 0), (0, .ref 1), (1, .ref 10), (2, .int 3), (3, .ref 27)]) (st2 := [.long (rr 0), .int 0, .ref 2]) rfl (by rw [hrr 0] <;> rfl) ?_
  refine mB hT 10 rfl ?_
  refine mWd (w2 := (XW n vs (absX dt) dt 3 (up ro 0 (rr 0)) c1 m1 ly B hd df)) rfl ?_
  refine hC.2.2 _ 1 [_, _] _ _ _ _ _ (show KX1_determinantWithColumn l D ca ad _ _ (some (.long (detX 3 (clT 3 ly 1 df)))) (XW n vs (absX dt) dt 3 (up ro 0 (rr 0)) c2 m2 ly B hd df) from (by rw [em2, ec2]; exact c_dwc_4_3_1)) rfl rfl (Nat.le_of_ble_eq_true rfl) rfl ?_
  refine mB hT 9 rfl ?_
  refine mIf (fun hp => absurd hp (fun q => Int64.not_lt.mpr (lc_ge.mp q) hs)) (fun _ => ?_)
  refine mNf (lv2 := [(5, .long (detX 3 (clT 3 ly 1 df))), (4, .int 1), (0, .ref 1), (1, .ref 10), (2, .int 3), (3, .ref 27)]) (st2 := [.int 1, .ref 2]) rfl rfl ?_
  refine mB hT 3 rfl ?_
  refine mNf (lv2 := [(5, .long (detX 3 (clT 3 ly 1 df))), (4, .int 1), (0, .ref 1), (1, .ref 10), (2, .int 3), (3, .ref 27)]) (st2 := [.long (rr 1), .int 1, .ref 2]) rfl (by rw [hrr 1] <;> rfl) ?_
  refine mB hT 10 rfl ?_
  refine mWd (w2 := (XW n vs (absX dt) dt 3 (up (up ro 0 (rr 0)) 1 (rr 1)) c2 m2 ly B hd df)) rfl ?_
  refine hC.2.2 _ 1 [_, _] _ _ _ _ _ (show KX1_determinantWithColumn l D ca ad _ _ (some (.long (detX 3 (clT 3 ly 2 df)))) (XW n vs (absX dt) dt 3 (up (up ro 0 (rr 0)) 1 (rr 1)) c3 m3 ly B hd df) from (by rw [em3, ec3]; exact c_dwc_4_3_2)) rfl rfl (Nat.le_of_ble_eq_true rfl) rfl ?_
  refine mB hT 9 rfl ?_
  refine mIf (fun hp => absurd hp (fun q => Int64.not_lt.mpr (lc_ge.mp q) hs)) (fun _ => ?_)
  refine mNf (lv2 := [(5, .long (detX 3 (clT 3 ly 2 df))), (4, .int 2), (0, .ref 1), (1, .ref 10), (2, .int 3), (3, .ref 27)]) (st2 := [.int 2, .ref 2]) rfl rfl ?_
  refine mB hT 3 rfl ?_
  refine mNf (lv2 := [(5, .long (detX 3 (clT 3 ly 2 df))), (4, .int 2), (0, .ref 1), (1, .ref 10), (2, .int 3), (3, .ref 27)]) (st2 := [.long (rr 2), .int 2, .ref 2]) rfl (by rw [hrr 2] <;> rfl) ?_
  refine mB hT 8 rfl ?_
  exact hR _ (by decide) _ _ _ rfl rfl
theorem c_solve1_6_3_4 {n vs : Int32} {be de : Int64} {sz : Int32} {ro co mi : Nat → Int64} {T : Nat → Nat → Int64} {B : Nat → Nat → Nat → Int32} {hd : Nat → Nat → Int32} {df : Nat → Int32} (h0 : ¬ detX 3 (lyT 3 (B 6) T) = 0) : ∃ (de2 : Int64) (co2 mi2 : Nat → Int64) (T2 : Nat → Nat → Int64), KX1_solve l D ca ad [.ref 1, .ref 10, .int 3, .ref 27] (XW n vs be de sz ro co mi T B hd df) (some (.int 1)) (XW n vs (absX (detX 3 (lyT 3 (B 6) T))) de2 3 (roX 3 (lyT 3 (B 6) T) df ro) co2 mi2 T2 B hd df) := by
  by_cases hs : detX 3 (lyT 3 (B 6) T) < 0
  · obtain ⟨c2, m2, k⟩ := c_solve1_6_3_4n (rr := rdX 3 (lyT 3 (B 6) T) df) rfl rfl h0 hs (fun i => if_pos hs)
    exact ⟨_, c2, m2, _, k⟩
  · obtain ⟨c2, m2, k⟩ := c_solve1_6_3_4p (rr := rdX 3 (lyT 3 (B 6) T) df) rfl rfl h0 hs (fun i => if_neg hs)
    exact ⟨_, c2, m2, _, k⟩
theorem c_solve0_6_4_0 {n vs : Int32} {be de : Int64} {sz : Int32} {ro co mi : Nat → Int64} {T : Nat → Nat → Int64} {B : Nat → Nat → Nat → Int32} {hd : Nat → Nat → Int32} {df : Nat → Int32} (h0 : detX 4 (lyT 4 (B 6) T) = 0) : ∃ (de2 : Int64) (mi2 : Nat → Int64) (T2 : Nat → Nat → Int64), KX1_solve l D ca ad [.ref 1, .ref 10, .int 4, .ref 23] (XW n vs be de sz ro co mi T B hd df) (some (.int 0)) (XW n vs be de2 4 ro co mi2 T2 B hd df) := by
  obtain ⟨ly, ely⟩ : ∃ z, z = (lyT 4 (B 6) T) := ⟨_, rfl⟩
  rw [← ely] at h0
  obtain ⟨dt, edt⟩ : ∃ z, z = detX 4 ly := ⟨_, rfl⟩
  rw [← edt] at h0
  obtain ⟨m0, em0⟩ : ∃ z, z = miX 4 ly mi := ⟨_, rfl⟩
  refine ⟨dt, m0, ly, ?_⟩
  refine PX1_solve (Nat.le_of_ble_eq_true rfl) (Or.inl rfl) ?_
  intro G hT hC hR
  refine mB hT 3 rfl ?_
  refine hC.1 _ 1 [_, _] _ _ _ _ _ (show KX1_layTable l D ca ad _ _ none (XW n vs be dt 4 ro co m0 ly B hd df) from (by rw [em0, edt, ely]; exact c_lay_6_4)) rfl rfl (Nat.le_of_ble_eq_true rfl) rfl ?_
  refine mB hT 5 rfl ?_
  refine mIf (fun _ => ?_) (fun hn => absurd (lc_eq.mpr h0) hn)
  refine mB hT 1 rfl ?_
  exact hR _ (by decide) _ _ _ rfl rfl
set_option maxRecDepth 20000 in
theorem c_solve1_6_4_0p {n vs : Int32} {be de : Int64} {sz : Int32} {ro co mi : Nat → Int64} {T : Nat → Nat → Int64} {B : Nat → Nat → Nat → Int32} {hd : Nat → Nat → Int32} {df : Nat → Int32} {ly : Nat → Nat → Int64} {dt : Int64} {rr : Nat → Int64} (ely : ly = (lyT 4 (B 6) T)) (edt : dt = detX 4 ly) (h0 : ¬ dt = 0) (hs : ¬ dt < 0) (hrr : ∀ i : Nat, rr i = detX 4 (clT 4 ly i (hd 0))) : ∃ (co2 mi2 : Nat → Int64), KX1_solve l D ca ad [.ref 1, .ref 10, .int 4, .ref 23] (XW n vs be de sz ro co mi T B hd df) (some (.int 1)) (XW n vs (absX dt) dt 4 (roc 4 rr ro) co2 mi2 ly B hd df) := by
  obtain ⟨m0, em0⟩ : ∃ z, z = miX 4 ly mi := ⟨_, rfl⟩
  obtain ⟨c1, ec1⟩ : ∃ z, z = coT 4 ly 0 co := ⟨_, rfl⟩
  obtain ⟨m1, em1⟩ : ∃ z, z = miX 4 (clT 4 ly 0 (hd 0)) m0 := ⟨_, rfl⟩
  obtain ⟨c2, ec2⟩ : ∃ z, z = coT 4 ly 1 c1 := ⟨_, rfl⟩
  obtain ⟨m2, em2⟩ : ∃ z, z = miX 4 (clT 4 ly 1 (hd 0)) m1 := ⟨_, rfl⟩
  obtain ⟨c3, ec3⟩ : ∃ z, z = coT 4 ly 2 c2 := ⟨_, rfl⟩
  obtain ⟨m3, em3⟩ : ∃ z, z = miX 4 (clT 4 ly 2 (hd 0)) m2 := ⟨_, rfl⟩
  obtain ⟨c4, ec4⟩ : ∃ z, z = coT 4 ly 3 c3 := ⟨_, rfl⟩
  obtain ⟨m4, em4⟩ : ∃ z, z = miX 4 (clT 4 ly 3 (hd 0)) m3 := ⟨_, rfl⟩
  refine ⟨c4, m4, ?_⟩
  refine PX1_solve (Nat.le_of_ble_eq_true rfl) (Or.inr rfl) ?_
  intro G hT hC hR
  refine mB hT 3 rfl ?_
  refine hC.1 _ 1 [_, _] _ _ _ _ _ (show KX1_layTable l D ca ad _ _ none (XW n vs be dt 4 ro co m0 ly B hd df) from (by rw [em0, edt, ely]; exact c_lay_6_4)) rfl rfl (Nat.le_of_ble_eq_true rfl) rfl ?_
  refine mB hT 5 rfl ?_
  refine mIf (fun hp => absurd hp (fun q => h0 (lc_eq.mp q))) (fun _ => ?_)
  refine mB hT 3 rfl ?_
  refine hC.2.1 _ [_] _ _ _ _ (c_abs _) rfl (Nat.le_of_ble_eq_true rfl) rfl ?_
  refine mB hT 10 rfl ?_
  refine mWd (w2 := (XW n vs (absX dt) dt 4 ro co m0 ly B hd df)) rfl ?_
  refine hC.2.2 _ 1 [_, _] _ _ _ _ _ (show KX1_determinantWithColumn l D ca ad _ _ (some (.long (detX 4 (clT 4 ly 0 (hd 0))))) (XW n vs (absX dt) dt 4 ro c1 m1 ly B hd df) from (by rw [em1, ec1]; exact c_dwc_0_4_0)) rfl rfl (Nat.le_of_ble_eq_true rfl) rfl ?_
  refine mB hT 9 rfl ?_
  refine mIf (fun _ => ?_) (fun hn => absurd (lc_ge.mpr (Int64.not_lt.mp hs)) hn)
  refine mNf (lv2 := [(5, .long (detX 4 (clT 4 ly 0 (hd 0)))), (4, .int 0), (0, .ref 1), (1, .ref 10), (2, .int 4), (3, .ref 23)]) (st2 := [.int 0, .ref 2]) rfl rfl ?_
  refine mB hT 1 rfl ?_
  refine mNf (lv2 := [(5, .long (detX 4 (clT 4 ly 0 (hd 0)))), (4, .int 0), (0, .ref 1), (1, .ref 10), (2, .int 4), (3, .ref 23)]) (st2 := [.long (rr 0), .int 0, .ref 2]) rfl (by rw [hrr 0] <;> rfl) ?_
  refine mB hT 10 rfl ?_
  refine mWd (w2 := (XW n vs (absX dt) dt 4 (up ro 0 (rr 0)) c1 m1 ly B hd df)) rfl ?_
  refine hC.2.2 _ 1 [_, _] _ _ _ _ _ (show KX1_determinantWithColumn l D ca ad _ _ (some (.long (detX 4 (clT 4 ly 1 (hd 0))))) (XW n vs (absX dt) dt 4 (up ro 0 (rr 0)) c2 m2 ly B hd df) from (by rw [em2, ec2]; exact c_dwc_0_4_1)) rfl rfl (Nat.le_of_ble_eq_true rfl) rfl ?_
  refine mB hT 9 rfl ?_
  refine mIf (fun _ => ?_) (fun hn => absurd (lc_ge.mpr (Int64.not_lt.mp hs)) hn)
  refine mNf (lv2 := [(5, .long (detX 4 (clT 4 ly 1 (hd 0)))), (4, .int 1), (0, .ref 1), (1, .ref 10), (2, .int 4), (3, .ref 23)]) (st2 := [.int 1, .ref 2]) rfl rfl ?_
  refine mB hT 1 rfl ?_
  refine mNf (lv2 := [(5, .long (detX 4 (clT 4 ly 1 (hd 0)))), (4, .int 1), (0, .ref 1), (1, .ref 10), (2, .int 4), (3, .ref 23)]) (st2 := [.long (rr 1), .int 1, .ref 2]) rfl (by rw [hrr 1] <;> rfl) ?_
  refine mB hT 10 rfl ?_
  refine mWd (w2 := (XW n vs (absX dt) dt 4 (up (up ro 0 (rr 0)) 1 (rr 1)) c2 m2 ly B hd df)) rfl ?_
  refine hC.2.2 _ 1 [_, _] _ _ _ _ _ (show KX1_determinantWithColumn l D ca ad _ _ (some (.long (detX 4 (clT 4 ly 2 (hd 0))))) (XW n vs (absX dt) dt 4 (up (up ro 0 (rr 0)) 1 (rr 1)) c3 m3 ly B hd df) from (by rw [em3, ec3]; exact c_dwc_0_4_2)) rfl rfl (Nat.le_of_ble_eq_true rfl) rfl ?_
  refine mB hT 9 rfl ?_
  refine mIf (fun _ => ?_) (fun hn => absurd (lc_ge.mpr (Int64.not_lt.mp hs)) hn)
  refine mNf (lv2 := [(5, .long (detX 4 (clT 4 ly 2 (hd 0)))), (4, .int 2), (0, .ref 1), (1, .ref 10), (2, .int 4), (3, .ref 23)]) (st2 := [.int 2, .ref 2]) rfl rfl ?_
  refine mB hT 1 rfl ?_
  refine mNf (lv2 := [(5, .long (detX 4 (clT 4 ly 2 (hd 0)))), (4, .int 2), (0, .ref 1), (1, .ref 10), (2, .int 4), (3, .ref 23)]) (st2 := [.long (rr 2), .int 2, .ref 2]) rfl (by rw [hrr 2] <;> rfl) ?_
  refine mB hT 10 rfl ?_
  refine mWd (w2 := (XW n vs (absX dt) dt 4 (up (up (up ro 0 (rr 0)) 1 (rr 1)) 2 (rr 2)) c3 m3 ly B hd df)) rfl ?_
  refine hC.2.2 _ 1 [_, _] _ _ _ _ _ (show KX1_determinantWithColumn l D ca ad _ _ (some (.long (detX 4 (clT 4 ly 3 (hd 0))))) (XW n vs (absX dt) dt 4 (up (up (up ro 0 (rr 0)) 1 (rr 1)) 2 (rr 2)) c4 m4 ly B hd df) from (by rw [em4, ec4]; exact c_dwc_0_4_3)) rfl rfl (Nat.le_of_ble_eq_true rfl) rfl ?_
  refine mB hT 9 rfl ?_
  refine mIf (fun _ => ?_) (fun hn => absurd (lc_ge.mpr (Int64.not_lt.mp hs)) hn)
  refine mNf (lv2 := [(5, .long (detX 4 (clT 4 ly 3 (hd 0)))), (4, .int 3), (0, .ref 1), (1, .ref 10), (2, .int 4), (3, .ref 23)]) (st2 := [.int 3, .ref 2]) rfl rfl ?_
  refine mB hT 1 rfl ?_
  refine mNf (lv2 := [(5, .long (detX 4 (clT 4 ly 3 (hd 0)))), (4, .int 3), (0, .ref 1), (1, .ref 10), (2, .int 4), (3, .ref 23)]) (st2 := [.long (rr 3), .int 3, .ref 2]) rfl (by rw [hrr 3] <;> rfl) ?_
  refine mB hT 8 rfl ?_
  exact hR _ (by decide) _ _ _ rfl rfl
set_option maxRecDepth 20000 in
theorem c_solve1_6_4_0n {n vs : Int32} {be de : Int64} {sz : Int32} {ro co mi : Nat → Int64} {T : Nat → Nat → Int64} {B : Nat → Nat → Nat → Int32} {hd : Nat → Nat → Int32} {df : Nat → Int32} {ly : Nat → Nat → Int64} {dt : Int64} {rr : Nat → Int64} (ely : ly = (lyT 4 (B 6) T)) (edt : dt = detX 4 ly) (h0 : ¬ dt = 0) (hs : dt < 0) (hrr : ∀ i : Nat, rr i = -(detX 4 (clT 4 ly i (hd 0)))) : ∃ (co2 mi2 : Nat → Int64), KX1_solve l D ca ad [.ref 1, .ref 10, .int 4, .ref 23] (XW n vs be de sz ro co mi T B hd df) (some (.int 1)) (XW n vs (absX dt) dt 4 (roc 4 rr ro) co2 mi2 ly B hd df) := by
  obtain ⟨m0, em0⟩ : ∃ z, z = miX 4 ly mi := ⟨_, rfl⟩
  obtain ⟨c1, ec1⟩ : ∃ z, z = coT 4 ly 0 co := ⟨_, rfl⟩
  obtain ⟨m1, em1⟩ : ∃ z, z = miX 4 (clT 4 ly 0 (hd 0)) m0 := ⟨_, rfl⟩
  obtain ⟨c2, ec2⟩ : ∃ z, z = coT 4 ly 1 c1 := ⟨_, rfl⟩
  obtain ⟨m2, em2⟩ : ∃ z, z = miX 4 (clT 4 ly 1 (hd 0)) m1 := ⟨_, rfl⟩
  obtain ⟨c3, ec3⟩ : ∃ z, z = coT 4 ly 2 c2 := ⟨_, rfl⟩
  obtain ⟨m3, em3⟩ : ∃ z, z = miX 4 (clT 4 ly 2 (hd 0)) m2 := ⟨_, rfl⟩
  obtain ⟨c4, ec4⟩ : ∃ z, z = coT 4 ly 3 c3 := ⟨_, rfl⟩
  obtain ⟨m4, em4⟩ : ∃ z, z = miX 4 (clT 4 ly 3 (hd 0)) m3 := ⟨_, rfl⟩
  refine ⟨c4, m4, ?_⟩
  refine PX1_solve (Nat.le_of_ble_eq_true rfl) (Or.inr rfl) ?_
  intro G hT hC hR
  refine mB hT 3 rfl ?_
  refine hC.1 _ 1 [_, _] _ _ _ _ _ (show KX1_layTable l D ca ad _ _ none (XW n vs be dt 4 ro co m0 ly B hd df) from (by rw [em0, edt, ely]; exact c_lay_6_4)) rfl rfl (Nat.le_of_ble_eq_true rfl) rfl ?_
  refine mB hT 5 rfl ?_
  refine mIf (fun hp => absurd hp (fun q => h0 (lc_eq.mp q))) (fun _ => ?_)
  refine mB hT 3 rfl ?_
  refine hC.2.1 _ [_] _ _ _ _ (c_abs _) rfl (Nat.le_of_ble_eq_true rfl) rfl ?_
  refine mB hT 10 rfl ?_
  refine mWd (w2 := (XW n vs (absX dt) dt 4 ro co m0 ly B hd df)) rfl ?_
  refine hC.2.2 _ 1 [_, _] _ _ _ _ _ (show KX1_determinantWithColumn l D ca ad _ _ (some (.long (detX 4 (clT 4 ly 0 (hd 0))))) (XW n vs (absX dt) dt 4 ro c1 m1 ly B hd df) from (by rw [em1, ec1]; exact c_dwc_0_4_0)) rfl rfl (Nat.le_of_ble_eq_true rfl) rfl ?_
  refine mB hT 9 rfl ?_
  refine mIf (fun hp => absurd hp (fun q => Int64.not_lt.mpr (lc_ge.mp q) hs)) (fun _ => ?_)
  refine mNf (lv2 := [(5, .long (detX 4 (clT 4 ly 0 (hd 0)))), (4, .int 0), (0, .ref 1), (1, .ref 10), (2, .int 4), (3, .ref 23)]) (st2 := [.int 0, .ref 2]) rfl rfl ?_
  refine mB hT 3 rfl ?_
  refine mNf (lv2 := [(5, .long (detX 4 (clT 4 ly 0 (hd 0)))), (4, .int 0), (0, .ref 1), (1, .ref 10), (2, .int 4), (3, .ref 23)]) (st2 := [.long (rr 0), .int 0, .ref 2]) rfl (by rw [hrr 0] <;> rfl) ?_
  refine mB hT 10 rfl ?_
  refine mWd (w2 := (XW n vs (absX dt) dt 4 (up ro 0 (rr 0)) c1 m1 ly B hd df)) rfl ?_
  refine hC.2.2 _ 1 [_, _] _ _ _ _ _ (show KX1_determinantWithColumn l D ca ad _ _ (some (.long (detX 4 (clT 4 ly 1 (hd 0))))) (XW n vs (absX dt) dt 4 (up ro 0 (rr 0)) c2 m2 ly B hd df) from (by rw [em2, ec2]; exact c_dwc_0_4_1)) rfl rfl (Nat.le_of_ble_eq_true rfl) rfl ?_
  refine mB hT 9 rfl ?_
  refine mIf (fun hp => absurd hp (fun q => Int64.not_lt.mpr (lc_ge.mp q) hs)) (fun _ => ?_)
  refine mNf (lv2 := [(5, .long (detX 4 (clT 4 ly 1 (hd 0)))), (4, .int 1), (0, .ref 1), (1, .ref 10), (2, .int 4), (3, .ref 23)]) (st2 := [.int 1, .ref 2]) rfl rfl ?_
  refine mB hT 3 rfl ?_
  refine mNf (lv2 := [(5, .long (detX 4 (clT 4 ly 1 (hd 0)))), (4, .int 1), (0, .ref 1), (1, .ref 10), (2, .int 4), (3, .ref 23)]) (st2 := [.long (rr 1), .int 1, .ref 2]) rfl (by rw [hrr 1] <;> rfl) ?_
  refine mB hT 10 rfl ?_
  refine mWd (w2 := (XW n vs (absX dt) dt 4 (up (up ro 0 (rr 0)) 1 (rr 1)) c2 m2 ly B hd df)) rfl ?_
  refine hC.2.2 _ 1 [_, _] _ _ _ _ _ (show KX1_determinantWithColumn l D ca ad _ _ (some (.long (detX 4 (clT 4 ly 2 (hd 0))))) (XW n vs (absX dt) dt 4 (up (up ro 0 (rr 0)) 1 (rr 1)) c3 m3 ly B hd df) from (by rw [em3, ec3]; exact c_dwc_0_4_2)) rfl rfl (Nat.le_of_ble_eq_true rfl) rfl ?_
  refine mB hT 9 rfl ?_
  refine mIf (fun hp => absurd hp (fun q => Int64.not_lt.mpr (lc_ge.mp q) hs)) (fun _ => ?_)
  refine mNf (lv2 := [(5, .long (detX 4 (clT 4 ly 2 (hd 0)))), (4, .int 2), (0, .ref 1), (1, .ref 10), (2, .int 4), (3, .ref 23)]) (st2 := [.int 2, .ref 2]) rfl rfl ?_
  refine mB hT 3 rfl ?_
  refine mNf (lv2 := [(5, .long (detX 4 (clT 4 ly 2 (hd 0)))), (4, .int 2), (0, .ref 1), (1, .ref 10), (2, .int 4), (3, .ref 23)]) (st2 := [.long (rr 2), .int 2, .ref 2]) rfl (by rw [hrr 2] <;> rfl) ?_
  refine mB hT 10 rfl ?_
  refine mWd (w2 := (XW n vs (absX dt) dt 4 (up (up (up ro 0 (rr 0)) 1 (rr 1)) 2 (rr 2)) c3 m3 ly B hd df)) rfl ?_
  refine hC.2.2 _ 1 [_, _] _ _ _ _ _ (show KX1_determinantWithColumn l D ca ad _ _ (some (.long (detX 4 (clT 4 ly 3 (hd 0))))) (XW n vs (absX dt) dt 4 (up (up (up ro 0 (rr 0)) 1 (rr 1)) 2 (rr 2)) c4 m4 ly B hd df) from (by rw [em4, ec4]; exact c_dwc_0_4_3)) rfl rfl (Nat.le_of_ble_eq_true rfl) rfl ?_
  refine mB hT 9 rfl ?_
  refine mIf (fun hp => absurd hp (fun q => Int64.not_lt.mpr (lc_ge.mp q) hs)) (fun _ => ?_)
  refine mNf (lv2 := [(5, .long (detX 4 (clT 4 ly 3 (hd 0)))), (4, .int 3), (0, .ref 1), (1, .ref 10), (2, .int 4), (3, .ref 23)]) (st2 := [.int 3, .ref 2]) rfl rfl ?_
  refine mB hT 3 rfl ?_
  refine mNf (lv2 := [(5, .long (detX 4 (clT 4 ly 3 (hd 0)))), (4, .int 3), (0, .ref 1), (1, .ref 10), (2, .int 4), (3, .ref 23)]) (st2 := [.long (rr 3), .int 3, .ref 2]) rfl (by rw [hrr 3] <;> rfl) ?_
  refine mB hT 8 rfl ?_
  exact hR _ (by decide) _ _ _ rfl rfl
theorem c_solve1_6_4_0 {n vs : Int32} {be de : Int64} {sz : Int32} {ro co mi : Nat → Int64} {T : Nat → Nat → Int64} {B : Nat → Nat → Nat → Int32} {hd : Nat → Nat → Int32} {df : Nat → Int32} (h0 : ¬ detX 4 (lyT 4 (B 6) T) = 0) : ∃ (de2 : Int64) (co2 mi2 : Nat → Int64) (T2 : Nat → Nat → Int64), KX1_solve l D ca ad [.ref 1, .ref 10, .int 4, .ref 23] (XW n vs be de sz ro co mi T B hd df) (some (.int 1)) (XW n vs (absX (detX 4 (lyT 4 (B 6) T))) de2 4 (roX 4 (lyT 4 (B 6) T) (hd 0) ro) co2 mi2 T2 B hd df) := by
  by_cases hs : detX 4 (lyT 4 (B 6) T) < 0
  · obtain ⟨c2, m2, k⟩ := c_solve1_6_4_0n (rr := rdX 4 (lyT 4 (B 6) T) (hd 0)) rfl rfl h0 hs (fun i => if_pos hs)
    exact ⟨_, c2, m2, _, k⟩
  · obtain ⟨c2, m2, k⟩ := c_solve1_6_4_0p (rr := rdX 4 (lyT 4 (B 6) T) (hd 0)) rfl rfl h0 hs (fun i => if_neg hs)
    exact ⟨_, c2, m2, _, k⟩
theorem c_solve0_6_4_1 {n vs : Int32} {be de : Int64} {sz : Int32} {ro co mi : Nat → Int64} {T : Nat → Nat → Int64} {B : Nat → Nat → Nat → Int32} {hd : Nat → Nat → Int32} {df : Nat → Int32} (h0 : detX 4 (lyT 4 (B 6) T) = 0) : ∃ (de2 : Int64) (mi2 : Nat → Int64) (T2 : Nat → Nat → Int64), KX1_solve l D ca ad [.ref 1, .ref 10, .int 4, .ref 24] (XW n vs be de sz ro co mi T B hd df) (some (.int 0)) (XW n vs be de2 4 ro co mi2 T2 B hd df) := by
  obtain ⟨ly, ely⟩ : ∃ z, z = (lyT 4 (B 6) T) := ⟨_, rfl⟩
  rw [← ely] at h0
  obtain ⟨dt, edt⟩ : ∃ z, z = detX 4 ly := ⟨_, rfl⟩
  rw [← edt] at h0
  obtain ⟨m0, em0⟩ : ∃ z, z = miX 4 ly mi := ⟨_, rfl⟩
  refine ⟨dt, m0, ly, ?_⟩
  refine PX1_solve (Nat.le_of_ble_eq_true rfl) (Or.inl rfl) ?_
  intro G hT hC hR
  refine mB hT 3 rfl ?_
  refine hC.1 _ 1 [_, _] _ _ _ _ _ (show KX1_layTable l D ca ad _ _ none (XW n vs be dt 4 ro co m0 ly B hd df) from (by rw [em0, edt, ely]; exact c_lay_6_4)) rfl rfl (Nat.le_of_ble_eq_true rfl) rfl ?_
  refine mB hT 5 rfl ?_
  refine mIf (fun _ => ?_) (fun hn => absurd (lc_eq.mpr h0) hn)
  refine mB hT 1 rfl ?_
  exact hR _ (by decide) _ _ _ rfl rfl
set_option maxRecDepth 20000 in
theorem c_solve1_6_4_1p {n vs : Int32} {be de : Int64} {sz : Int32} {ro co mi : Nat → Int64} {T : Nat → Nat → Int64} {B : Nat → Nat → Nat → Int32} {hd : Nat → Nat → Int32} {df : Nat → Int32} {ly : Nat → Nat → Int64} {dt : Int64} {rr : Nat → Int64} (ely : ly = (lyT 4 (B 6) T)) (edt : dt = detX 4 ly) (h0 : ¬ dt = 0) (hs : ¬ dt < 0) (hrr : ∀ i : Nat, rr i = detX 4 (clT 4 ly i (hd 1))) : ∃ (co2 mi2 : Nat → Int64), KX1_solve l D ca ad [.ref 1, .ref 10, .int 4, .ref 24] (XW n vs be de sz ro co mi T B hd df) (some (.int 1)) (XW n vs (absX dt) dt 4 (roc 4 rr ro) co2 mi2 ly B hd df) := by
  obtain ⟨m0, em0⟩ : ∃ z, z = miX 4 ly mi := ⟨_, rfl⟩
  obtain ⟨c1, ec1⟩ : ∃ z, z = coT 4 ly 0 co := ⟨_, rfl⟩
  obtain ⟨m1, em1⟩ : ∃ z, z = miX 4 (clT 4 ly 0 (hd 1)) m0 := ⟨_, rfl⟩
  obtain ⟨c2, ec2⟩ : ∃ z, z = coT 4 ly 1 c1 := ⟨_, rfl⟩
  obtain ⟨m2, em2⟩ : ∃ z, z = miX 4 (clT 4 ly 1 (hd 1)) m1 := ⟨_, rfl⟩
  obtain ⟨c3, ec3⟩ : ∃ z, z = coT 4 ly 2 c2 := ⟨_, rfl⟩
  obtain ⟨m3, em3⟩ : ∃ z, z = miX 4 (clT 4 ly 2 (hd 1)) m2 := ⟨_, rfl⟩
  obtain ⟨c4, ec4⟩ : ∃ z, z = coT 4 ly 3 c3 := ⟨_, rfl⟩
  obtain ⟨m4, em4⟩ : ∃ z, z = miX 4 (clT 4 ly 3 (hd 1)) m3 := ⟨_, rfl⟩
  refine ⟨c4, m4, ?_⟩
  refine PX1_solve (Nat.le_of_ble_eq_true rfl) (Or.inr rfl) ?_
  intro G hT hC hR
  refine mB hT 3 rfl ?_
  refine hC.1 _ 1 [_, _] _ _ _ _ _ (show KX1_layTable l D ca ad _ _ none (XW n vs be dt 4 ro co m0 ly B hd df) from (by rw [em0, edt, ely]; exact c_lay_6_4)) rfl rfl (Nat.le_of_ble_eq_true rfl) rfl ?_
  refine mB hT 5 rfl ?_
  refine mIf (fun hp => absurd hp (fun q => h0 (lc_eq.mp q))) (fun _ => ?_)
  refine mB hT 3 rfl ?_
  refine hC.2.1 _ [_] _ _ _ _ (c_abs _) rfl (Nat.le_of_ble_eq_true rfl) rfl ?_
  refine mB hT 10 rfl ?_
  refine mWd (w2 := (XW n vs (absX dt) dt 4 ro co m0 ly B hd df)) rfl ?_
  refine hC.2.2 _ 1 [_, _] _ _ _ _ _ (show KX1_determinantWithColumn l D ca ad _ _ (some (.long (detX 4 (clT 4 ly 0 (hd 1))))) (XW n vs (absX dt) dt 4 ro c1 m1 ly B hd df) from (by rw [em1, ec1]; exact c_dwc_1_4_0)) rfl rfl (Nat.le_of_ble_eq_true rfl) rfl ?_
  refine mB hT 9 rfl ?_
  refine mIf (fun _ => ?_) (fun hn => absurd (lc_ge.mpr (Int64.not_lt.mp hs)) hn)
  refine mNf (lv2 := [(5, .long (detX 4 (clT 4 ly 0 (hd 1)))), (4, .int 0), (0, .ref 1), (1, .ref 10), (2, .int 4), (3, .ref 24)]) (st2 := [.int 0, .ref 2]) rfl rfl ?_
  refine mB hT 1 rfl ?_
  refine mNf (lv2 := [(5, .long (detX 4 (clT 4 ly 0 (hd 1)))), (4, .int 0), (0, .ref 1), (1, .ref 10), (2, .int 4), (3, .ref 24)]) (st2 := [.long (rr 0), .int 0, .ref 2]) rfl (by rw [hrr 0] <;> rfl) ?_
  refine mB hT 10 rfl ?_
  refine mWd (w2 := (XW n vs (absX dt) dt 4 (up ro 0 (rr 0)) c1 m1 ly B hd df)) rfl ?_
  refine hC.2.2 _ 1 [_, _] _ _ _ _ _ (show KX1_determinantWithColumn l D ca ad _ _ (some (.long (detX 4 (clT 4 ly 1 (hd 1))))) (XW n vs (absX dt) dt 4 (up ro 0 (rr 0)) c2 m2 ly B hd df) from (by rw [em2, ec2]; exact c_dwc_1_4_1)) rfl rfl (Nat.le_of_ble_eq_true rfl) rfl ?_
  refine mB hT 9 rfl ?_
  refine mIf (fun _ => ?_) (fun hn => absurd (lc_ge.mpr (Int64.not_lt.mp hs)) hn)
  refine mNf (lv2 := [(5, .long (detX 4 (clT 4 ly 1 (hd 1)))), (4, .int 1), (0, .ref 1), (1, .ref 10), (2, .int 4), (3, .ref 24)]) (st2 := [.int 1, .ref 2]) rfl rfl ?_
  refine mB hT 1 rfl ?_
  refine mNf (lv2 := [(5, .long (detX 4 (clT 4 ly 1 (hd 1)))), (4, .int 1), (0, .ref 1), (1, .ref 10), (2, .int 4), (3, .ref 24)]) (st2 := [.long (rr 1), .int 1, .ref 2]) rfl (by rw [hrr 1] <;> rfl) ?_
  refine mB hT 10 rfl ?_
  refine mWd (w2 := (XW n vs (absX dt) dt 4 (up (up ro 0 (rr 0)) 1 (rr 1)) c2 m2 ly B hd df)) rfl ?_
  refine hC.2.2 _ 1 [_, _] _ _ _ _ _ (show KX1_determinantWithColumn l D ca ad _ _ (some (.long (detX 4 (clT 4 ly 2 (hd 1))))) (XW n vs (absX dt) dt 4 (up (up ro 0 (rr 0)) 1 (rr 1)) c3 m3 ly B hd df) from (by rw [em3, ec3]; exact c_dwc_1_4_2)) rfl rfl (Nat.le_of_ble_eq_true rfl) rfl ?_
  refine mB hT 9 rfl ?_
  refine mIf (fun _ => ?_) (fun hn => absurd (lc_ge.mpr (Int64.not_lt.mp hs)) hn)
  refine mNf (lv2 := [(5, .long (detX 4 (clT 4 ly 2 (hd 1)))), (4, .int 2), (0, .ref 1), (1, .ref 10), (2, .int 4), (3, .ref 24)]) (st2 := [.int 2, .ref 2]) rfl rfl ?_
  refine mB hT 1 rfl ?_
  refine mNf (lv2 := [(5, .long (detX 4 (clT 4 ly 2 (hd 1)))), (4, .int 2), (0, .ref 1), (1, .ref 10), (2, .int 4), (3, .ref 24)]) (st2 := [.long (rr 2), .int 2, .ref 2]) rfl (by rw [hrr 2] <;> rfl) ?_
  refine mB hT 10 rfl ?_
  refine mWd (w2 := (XW n vs (absX dt) dt 4 (up (up (up ro 0 (rr 0)) 1 (rr 1)) 2 (rr 2)) c3 m3 ly B hd df)) rfl ?_
  refine hC.2.2 _ 1 [_, _] _ _ _ _ _ (show KX1_determinantWithColumn l D ca ad _ _ (some (.long (detX 4 (clT 4 ly 3 (hd 1))))) (XW n vs (absX dt) dt 4 (up (up (up ro 0 (rr 0)) 1 (rr 1)) 2 (rr 2)) c4 m4 ly B hd df) from (by rw [em4, ec4]; exact c_dwc_1_4_3)) rfl rfl (Nat.le_of_ble_eq_true rfl) rfl ?_
  refine mB hT 9 rfl ?_
  refine mIf (fun _ => ?_) (fun hn => absurd (lc_ge.mpr (Int64.not_lt.mp hs)) hn)
  refine mNf (lv2 := [(5, .long (detX 4 (clT 4 ly 3 (hd 1)))), (4, .int 3), (0, .ref 1), (1, .ref 10), (2, .int 4), (3, .ref 24)]) (st2 := [.int 3, .ref 2]) rfl rfl ?_
  refine mB hT 1 rfl ?_
  refine mNf (lv2 := [(5, .long (detX 4 (clT 4 ly 3 (hd 1)))), (4, .int 3), (0, .ref 1), (1, .ref 10), (2, .int 4), (3, .ref 24)]) (st2 := [.long (rr 3), .int 3, .ref 2]) rfl (by rw [hrr 3] <;> rfl) ?_
  refine mB hT 8 rfl ?_
  exact hR _ (by decide) _ _ _ rfl rfl
set_option maxRecDepth 20000 in
theorem c_solve1_6_4_1n {n vs : Int32} {be de : Int64} {sz : Int32} {ro co mi : Nat → Int64} {T : Nat → Nat → Int64} {B : Nat → Nat → Nat → Int32} {hd : Nat → Nat → Int32} {df : Nat → Int32} {ly : Nat → Nat → Int64} {dt : Int64} {rr : Nat → Int64} (ely : ly = (lyT 4 (B 6) T)) (edt : dt = detX 4 ly) (h0 : ¬ dt = 0) (hs : dt < 0) (hrr : ∀ i : Nat, rr i = -(detX 4 (clT 4 ly i (hd 1)))) : ∃ (co2 mi2 : Nat → Int64), KX1_solve l D ca ad [.ref 1, .ref 10, .int 4, .ref 24] (XW n vs be de sz ro co mi T B hd df) (some (.int 1)) (XW n vs (absX dt) dt 4 (roc 4 rr ro) co2 mi2 ly B hd df) := by
  obtain ⟨m0, em0⟩ : ∃ z, z = miX 4 ly mi := ⟨_, rfl⟩
  obtain ⟨c1, ec1⟩ : ∃ z, z = coT 4 ly 0 co := ⟨_, rfl⟩
  obtain ⟨m1, em1⟩ : ∃ z, z = miX 4 (clT 4 ly 0 (hd 1)) m0 := ⟨_, rfl⟩
  obtain ⟨c2, ec2⟩ : ∃ z, z = coT 4 ly 1 c1 := ⟨_, rfl⟩
  obtain ⟨m2, em2⟩ : ∃ z, z = miX 4 (clT 4 ly 1 (hd 1)) m1 := ⟨_, rfl⟩
  obtain ⟨c3, ec3⟩ : ∃ z, z = coT 4 ly 2 c2 := ⟨_, rfl⟩
  obtain ⟨m3, em3⟩ : ∃ z, z = miX 4 (clT 4 ly 2 (hd 1)) m2 := ⟨_, rfl⟩
  obtain ⟨c4, ec4⟩ : ∃ z, z = coT 4 ly 3 c3 := ⟨_, rfl⟩
  obtain ⟨m4, em4⟩ : ∃ z, z = miX 4 (clT 4 ly 3 (hd 1)) m3 := ⟨_, rfl⟩
  refine ⟨c4, m4, ?_⟩
  refine PX1_solve (Nat.le_of_ble_eq_true rfl) (Or.inr rfl) ?_
  intro G hT hC hR
  refine mB hT 3 rfl ?_
  refine hC.1 _ 1 [_, _] _ _ _ _ _ (show KX1_layTable l D ca ad _ _ none (XW n vs be dt 4 ro co m0 ly B hd df) from (by rw [em0, edt, ely]; exact c_lay_6_4)) rfl rfl (Nat.le_of_ble_eq_true rfl) rfl ?_
  refine mB hT 5 rfl ?_
  refine mIf (fun hp => absurd hp (fun q => h0 (lc_eq.mp q))) (fun _ => ?_)
  refine mB hT 3 rfl ?_
  refine hC.2.1 _ [_] _ _ _ _ (c_abs _) rfl (Nat.le_of_ble_eq_true rfl) rfl ?_
  refine mB hT 10 rfl ?_
  refine mWd (w2 := (XW n vs (absX dt) dt 4 ro co m0 ly B hd df)) rfl ?_
  refine hC.2.2 _ 1 [_, _] _ _ _ _ _ (show KX1_determinantWithColumn l D ca ad _ _ (some (.long (detX 4 (clT 4 ly 0 (hd 1))))) (XW n vs (absX dt) dt 4 ro c1 m1 ly B hd df) from (by rw [em1, ec1]; exact c_dwc_1_4_0)) rfl rfl (Nat.le_of_ble_eq_true rfl) rfl ?_
  refine mB hT 9 rfl ?_
  refine mIf (fun hp => absurd hp (fun q => Int64.not_lt.mpr (lc_ge.mp q) hs)) (fun _ => ?_)
  refine mNf (lv2 := [(5, .long (detX 4 (clT 4 ly 0 (hd 1)))), (4, .int 0), (0, .ref 1), (1, .ref 10), (2, .int 4), (3, .ref 24)]) (st2 := [.int 0, .ref 2]) rfl rfl ?_
  refine mB hT 3 rfl ?_
  refine mNf (lv2 := [(5, .long (detX 4 (clT 4 ly 0 (hd 1)))), (4, .int 0), (0, .ref 1), (1, .ref 10), (2, .int 4), (3, .ref 24)]) (st2 := [.long (rr 0), .int 0, .ref 2]) rfl (by rw [hrr 0] <;> rfl) ?_
  refine mB hT 10 rfl ?_
  refine mWd (w2 := (XW n vs (absX dt) dt 4 (up ro 0 (rr 0)) c1 m1 ly B hd df)) rfl ?_
  refine hC.2.2 _ 1 [_, _] _ _ _ _ _ (show KX1_determinantWithColumn l D ca ad _ _ (some (.long (detX 4 (clT 4 ly 1 (hd 1))))) (XW n vs (absX dt) dt 4 (up ro 0 (rr 0)) c2 m2 ly B hd df) from (by rw [em2, ec2]; exact c_dwc_1_4_1)) rfl rfl (Nat.le_of_ble_eq_true rfl) rfl ?_
  refine mB hT 9 rfl ?_
  refine mIf (fun hp => absurd hp (fun q => Int64.not_lt.mpr (lc_ge.mp q) hs)) (fun _ => ?_)
  refine mNf (lv2 := [(5, .long (detX 4 (clT 4 ly 1 (hd 1)))), (4, .int 1), (0, .ref 1), (1, .ref 10), (2, .int 4), (3, .ref 24)]) (st2 := [.int 1, .ref 2]) rfl rfl ?_
  refine mB hT 3 rfl ?_
  refine mNf (lv2 := [(5, .long (detX 4 (clT 4 ly 1 (hd 1)))), (4, .int 1), (0, .ref 1), (1, .ref 10), (2, .int 4), (3, .ref 24)]) (st2 := [.long (rr 1), .int 1, .ref 2]) rfl (by rw [hrr 1] <;> rfl) ?_
  refine mB hT 10 rfl ?_
  refine mWd (w2 := (XW n vs (absX dt) dt 4 (up (up ro 0 (rr 0)) 1 (rr 1)) c2 m2 ly B hd df)) rfl ?_
  refine hC.2.2 _ 1 [_, _] _ _ _ _ _ (show KX1_determinantWithColumn l D ca ad _ _ (some (.long (detX 4 (clT 4 ly 2 (hd 1))))) (XW n vs (absX dt) dt 4 (up (up ro 0 (rr 0)) 1 (rr 1)) c3 m3 ly B hd df) from (by rw [em3, ec3]; exact c_dwc_1_4_2)) rfl rfl (Nat.le_of_ble_eq_true rfl) rfl ?_
  refine mB hT 9 rfl ?_
  refine mIf (fun hp => absurd hp (fun q => Int64.not_lt.mpr (lc_ge.mp q) hs)) (fun _ => ?_)
  refine mNf (lv2 := [(5, .long (detX 4 (clT 4 ly 2 (hd 1)))), (4, .int 2), (0, .ref 1), (1, .ref 10), (2, .int 4), (3, .ref 24)]) (st2 := [.int 2, .ref 2]) rfl rfl ?_
  refine mB hT 3 rfl ?_
  refine mNf (lv2 := [(5, .long (detX 4 (clT 4 ly 2 (hd 1)))), (4, .int 2), (0, .ref 1), (1, .ref 10), (2, .int 4), (3, .ref 24)]) (st2 := [.long (rr 2), .int 2, .ref 2]) rfl (by rw [hrr 2] <;> rfl) ?_
  refine mB hT 10 rfl ?_
  refine mWd (w2 := (XW n vs (absX dt) dt 4 (up (up (up ro 0 (rr 0)) 1 (rr 1)) 2 (rr 2)) c3 m3 ly B hd df)) rfl ?_
  refine hC.2.2 _ 1 [_, _] _ _ _ _ _ (show KX1_determinantWithColumn l D ca ad _ _ (some (.long (detX 4 (clT 4 ly 3 (hd 1))))) (XW n vs (absX dt) dt 4 (up (up (up ro 0 (rr 0)) 1 (rr 1)) 2 (rr 2)) c4 m4 ly B hd df) from (by rw [em4, ec4]; exact c_dwc_1_4_3)) rfl rfl (Nat.le_of_ble_eq_true rfl) rfl ?_
  refine mB hT 9 rfl ?_
  refine mIf (fun hp => absurd hp (fun q => Int64.not_lt.mpr (lc_ge.mp q) hs)) (fun _ => ?_)
  refine mNf (lv2 := [(5, .long (detX 4 (clT 4 ly 3 (hd 1)))), (4, .int 3), (0, .ref 1), (1, .ref 10), (2, .int 4), (3, .ref 24)]) (st2 := [.int 3, .ref 2]) rfl rfl ?_
  refine mB hT 3 rfl ?_
  refine mNf (lv2 := [(5, .long (detX 4 (clT 4 ly 3 (hd 1)))), (4, .int 3), (0, .ref 1), (1, .ref 10), (2, .int 4), (3, .ref 24)]) (st2 := [.long (rr 3), .int 3, .ref 2]) rfl (by rw [hrr 3] <;> rfl) ?_
  refine mB hT 8 rfl ?_
  exact hR _ (by decide) _ _ _ rfl rfl
theorem c_solve1_6_4_1 {n vs : Int32} {be de : Int64} {sz : Int32} {ro co mi : Nat → Int64} {T : Nat → Nat → Int64} {B : Nat → Nat → Nat → Int32} {hd : Nat → Nat → Int32} {df : Nat → Int32} (h0 : ¬ detX 4 (lyT 4 (B 6) T) = 0) : ∃ (de2 : Int64) (co2 mi2 : Nat → Int64) (T2 : Nat → Nat → Int64), KX1_solve l D ca ad [.ref 1, .ref 10, .int 4, .ref 24] (XW n vs be de sz ro co mi T B hd df) (some (.int 1)) (XW n vs (absX (detX 4 (lyT 4 (B 6) T))) de2 4 (roX 4 (lyT 4 (B 6) T) (hd 1) ro) co2 mi2 T2 B hd df) := by
  by_cases hs : detX 4 (lyT 4 (B 6) T) < 0
  · obtain ⟨c2, m2, k⟩ := c_solve1_6_4_1n (rr := rdX 4 (lyT 4 (B 6) T) (hd 1)) rfl rfl h0 hs (fun i => if_pos hs)
    exact ⟨_, c2, m2, _, k⟩
  · obtain ⟨c2, m2, k⟩ := c_solve1_6_4_1p (rr := rdX 4 (lyT 4 (B 6) T) (hd 1)) rfl rfl h0 hs (fun i => if_neg hs)
    exact ⟨_, c2, m2, _, k⟩
theorem c_solve0_6_4_2 {n vs : Int32} {be de : Int64} {sz : Int32} {ro co mi : Nat → Int64} {T : Nat → Nat → Int64} {B : Nat → Nat → Nat → Int32} {hd : Nat → Nat → Int32} {df : Nat → Int32} (h0 : detX 4 (lyT 4 (B 6) T) = 0) : ∃ (de2 : Int64) (mi2 : Nat → Int64) (T2 : Nat → Nat → Int64), KX1_solve l D ca ad [.ref 1, .ref 10, .int 4, .ref 25] (XW n vs be de sz ro co mi T B hd df) (some (.int 0)) (XW n vs be de2 4 ro co mi2 T2 B hd df) := by
  obtain ⟨ly, ely⟩ : ∃ z, z = (lyT 4 (B 6) T) := ⟨_, rfl⟩
  rw [← ely] at h0
  obtain ⟨dt, edt⟩ : ∃ z, z = detX 4 ly := ⟨_, rfl⟩
  rw [← edt] at h0
  obtain ⟨m0, em0⟩ : ∃ z, z = miX 4 ly mi := ⟨_, rfl⟩
  refine ⟨dt, m0, ly, ?_⟩
  refine PX1_solve (Nat.le_of_ble_eq_true rfl) (Or.inl rfl) ?_
  intro G hT hC hR
  refine mB hT 3 rfl ?_
  refine hC.1 _ 1 [_, _] _ _ _ _ _ (show KX1_layTable l D ca ad _ _ none (XW n vs be dt 4 ro co m0 ly B hd df) from (by rw [em0, edt, ely]; exact c_lay_6_4)) rfl rfl (Nat.le_of_ble_eq_true rfl) rfl ?_
  refine mB hT 5 rfl ?_
  refine mIf (fun _ => ?_) (fun hn => absurd (lc_eq.mpr h0) hn)
  refine mB hT 1 rfl ?_
  exact hR _ (by decide) _ _ _ rfl rfl
set_option maxRecDepth 20000 in
theorem c_solve1_6_4_2p {n vs : Int32} {be de : Int64} {sz : Int32} {ro co mi : Nat → Int64} {T : Nat → Nat → Int64} {B : Nat → Nat → Nat → Int32} {hd : Nat → Nat → Int32} {df : Nat → Int32} {ly : Nat → Nat → Int64} {dt : Int64} {rr : Nat → Int64} (ely : ly = (lyT 4 (B 6) T)) (edt : dt = detX 4 ly) (h0 : ¬ dt = 0) (hs : ¬ dt < 0) (hrr : ∀ i : Nat, rr i = detX 4 (clT 4 ly i (hd 2))) : ∃ (co2 mi2 : Nat → Int64), KX1_solve l D ca ad [.ref 1, .ref 10, .int 4, .ref 25] (XW n vs be de sz ro co mi T B hd df) (some (.int 1)) (XW n vs (absX dt) dt 4 (roc 4 rr ro) co2 mi2 ly B hd df) := by
  obtain ⟨m0, em0⟩ : ∃ z, z = miX 4 ly mi := ⟨_, rfl⟩
  obtain ⟨c1, ec1⟩ : ∃ z, z = coT 4 ly 0 co := ⟨_, rfl⟩
  obtain ⟨m1, em1⟩ : ∃ z, z = miX 4 (clT 4 ly 0 (hd 2)) m0 := ⟨_, rfl⟩
  obtain ⟨c2, ec2⟩ : ∃ z, z = coT 4 ly 1 c1 := ⟨_, rfl⟩
  obtain ⟨m2, em2⟩ : ∃ z, z = miX 4 (clT 4 ly 1 (hd 2)) m1 := ⟨_, rfl⟩
  obtain ⟨c3, ec3⟩ : ∃ z, z = coT 4 ly 2 c2 := ⟨_, rfl⟩
  obtain ⟨m3, em3⟩ : ∃ z, z = miX 4 (clT 4 ly 2 (hd 2)) m2 := ⟨_, rfl⟩
  obtain ⟨c4, ec4⟩ : ∃ z, z = coT 4 ly 3 c3 := ⟨_, rfl⟩
  obtain ⟨m4, em4⟩ : ∃ z, z = miX 4 (clT 4 ly 3 (hd 2)) m3 := ⟨_, rfl⟩
  refine ⟨c4, m4, ?_⟩
  refine PX1_solve (Nat.le_of_ble_eq_true rfl) (Or.inr rfl) ?_
  intro G hT hC hR
  refine mB hT 3 rfl ?_
  refine hC.1 _ 1 [_, _] _ _ _ _ _ (show KX1_layTable l D ca ad _ _ none (XW n vs be dt 4 ro co m0 ly B hd df) from (by rw [em0, edt, ely]; exact c_lay_6_4)) rfl rfl (Nat.le_of_ble_eq_true rfl) rfl ?_
  refine mB hT 5 rfl ?_
  refine mIf (fun hp => absurd hp (fun q => h0 (lc_eq.mp q))) (fun _ => ?_)
  refine mB hT 3 rfl ?_
  refine hC.2.1 _ [_] _ _ _ _ (c_abs _) rfl (Nat.le_of_ble_eq_true rfl) rfl ?_
  refine mB hT 10 rfl ?_
  refine mWd (w2 := (XW n vs (absX dt) dt 4 ro co m0 ly B hd df)) rfl ?_
  refine hC.2.2 _ 1 [_, _] _ _ _ _ _ (show KX1_determinantWithColumn l D ca ad _ _ (some (.long (detX 4 (clT 4 ly 0 (hd 2))))) (XW n vs (absX dt) dt 4 ro c1 m1 ly B hd df) from (by rw [em1, ec1]; exact c_dwc_2_4_0)) rfl rfl (Nat.le_of_ble_eq_true rfl) rfl ?_
  refine mB hT 9 rfl ?_
  refine mIf (fun _ => ?_) (fun hn => absurd (lc_ge.mpr (Int64.not_lt.mp hs)) hn)
  refine mNf (lv2 := [(5, .long (detX 4 (clT 4 ly 0 (hd 2)))), (4, .int 0), (0, .ref 1), (1, .ref 10), (2, .int 4), (3, .ref 25)]) (st2 := [.int 0, .ref 2]) rfl rfl ?_
  refine mB hT 1 rfl ?_
  refine mNf (lv2 := [(5, .long (detX 4 (clT 4 ly 0 (hd 2)))), (4, .int 0), (0, .ref 1), (1, .ref 10), (2, .int 4), (3, .ref 25)]) (st2 := [.long (rr 0), .int 0, .ref 2]) rfl (by rw [hrr 0] <;> rfl) ?_
  refine mB hT 10 rfl ?_
  refine mWd (w2 := (XW n vs (absX dt) dt 4 (up ro 0 (rr 0)) c1 m1 ly B hd df)) rfl ?_
  refine hC.2.2 _ 1 [_, _] _ _ _ _ _ (show KX1_determinantWithColumn l D ca ad _ _ (some (.long (detX 4 (clT 4 ly 1 (hd 2))))) (XW n vs (absX dt) dt 4 (up ro 0 (rr 0)) c2 m2 ly B hd df) from (by rw [em2, ec2]; exact c_dwc_2_4_1)) rfl rfl (Nat.le_of_ble_eq_true rfl) rfl ?_
  refine mB hT 9 rfl ?_
  refine mIf (fun _ => ?_) (fun hn => absurd (lc_ge.mpr (Int64.not_lt.mp hs)) hn)
  refine mNf (lv2 := [(5, .long (detX 4 (clT 4 ly 1 (hd 2)))), (4, .int 1), (0, .ref 1), (1, .ref 10), (2, .int 4), (3, .ref 25)]) (st2 := [.int 1, .ref 2]) rfl rfl ?_
  refine mB hT 1 rfl ?_
  refine mNf (lv2 := [(5, .long (detX 4 (clT 4 ly 1 (hd 2)))), (4, .int 1), (0, .ref 1), (1, .ref 10), (2, .int 4), (3, .ref 25)]) (st2 := [.long (rr 1), .int 1, .ref 2]) rfl (by rw [hrr 1] <;> rfl) ?_
  refine mB hT 10 rfl ?_
  refine mWd (w2 := (XW n vs (absX dt) dt 4 (up (up ro 0 (rr 0)) 1 (rr 1)) c2 m2 ly B hd df)) rfl ?_
  refine hC.2.2 _ 1 [_, _] _ _ _ _ _ (show KX1_determinantWithColumn l D ca ad _ _ (some (.long (detX 4 (clT 4 ly 2 (hd 2))))) (XW n vs (absX dt) dt 4 (up (up ro 0 (rr 0)) 1 (rr 1)) c3 m3 ly B hd df) from (by rw [em3, ec3]; exact c_dwc_2_4_2)) rfl rfl (Nat.le_of_ble_eq_true rfl) rfl ?_
  refine mB hT 9 rfl ?_
  refine mIf (fun _ => ?_) (fun hn => absurd (lc_ge.mpr (Int64.not_lt.mp hs)) hn)
  refine mNf (lv2 := [(5, .long (detX 4 (clT 4 ly 2 (hd 2)))), (4, .int 2), (0, .ref 1), (1, .ref 10), (2, .int 4), (3, .ref 25)]) (st2 := [.int 2, .ref 2]) rfl rfl ?_
  refine mB hT 1 rfl ?_
  refine mNf (lv2 := [(5, .long (detX 4 (clT 4 ly 2 (hd 2)))), (4, .int 2), (0, .ref 1), (1, .ref 10), (2, .int 4), (3, .ref 25)]) (st2 := [.long (rr 2), .int 2, .ref 2]) rfl (by rw [hrr 2] <;> rfl) ?_
  refine mB hT 10 rfl ?_
  refine mWd (w2 := (XW n vs (absX dt) dt 4 (up (up (up ro 0 (rr 0)) 1 (rr 1)) 2 (rr 2)) c3 m3 ly B hd df)) rfl ?_
  refine hC.2.2 _ 1 [_, _] _ _ _ _ _ (show KX1_determinantWithColumn l D ca ad _ _ (some (.long (detX 4 (clT 4 ly 3 (hd 2))))) (XW n vs (absX dt) dt 4 (up (up (up ro 0 (rr 0)) 1 (rr 1)) 2 (rr 2)) c4 m4 ly B hd df) from (by rw [em4, ec4]; exact c_dwc_2_4_3)) rfl rfl (Nat.le_of_ble_eq_true rfl) rfl ?_
  refine mB hT 9 rfl ?_
  refine mIf (fun _ => ?_) (fun hn => absurd (lc_ge.mpr (Int64.not_lt.mp hs)) hn)
  refine mNf (lv2 := [(5, .long (detX 4 (clT 4 ly 3 (hd 2)))), (4, .int 3), (0, .ref 1), (1, .ref 10), (2, .int 4), (3, .ref 25)]) (st2 := [.int 3, .ref 2]) rfl rfl ?_
  refine mB hT 1 rfl ?_
  refine mNf (lv2 := [(5, .long (detX 4 (clT 4 ly 3 (hd 2)))), (4, .int 3), (0, .ref 1), (1, .ref 10), (2, .int 4), (3, .ref 25)]) (st2 := [.long (rr 3), .int 3, .ref 2]) rfl (by rw [hrr 3] <;> rfl) ?_
  refine mB hT 8 rfl ?_
  exact hR _ (by decide) _ _ _ rfl rfl
set_option maxRecDepth 20000 in
theorem c_solve1_6_4_2n {n vs : Int32} {be de : Int64} {sz : Int32} {ro co mi : Nat → Int64} {T : Nat → Nat → Int64} {B : Nat → Nat → Nat → Int32} {hd : Nat → Nat → Int32} {df : Nat → Int32} {ly : Nat → Nat → Int64} {dt : Int64} {rr : Nat → Int64} (ely : ly = (lyT 4 (B 6) T)) (edt : dt = detX 4 ly) (h0 : ¬ dt = 0) (hs : dt < 0) (hrr : ∀ i : Nat, rr i = -(detX 4 (clT 4 ly i (hd 2)))) : ∃ (co2 mi2 : Nat → Int64), KX1_solve l D ca ad [.ref 1, .ref 10, .int 4, .ref 25] (XW n vs be de sz ro co mi T B hd df) (some (.int 1)) (XW n vs (absX dt) dt 4 (roc 4 rr ro) co2 mi2 ly B hd df) := by
  obtain ⟨m0, em0⟩ : ∃ z, z = miX 4 ly mi := ⟨_, rfl⟩
  obtain ⟨c1, ec1⟩ : ∃ z, z = coT 4 ly 0 co := ⟨_, rfl⟩
  obtain ⟨m1, em1⟩ : ∃ z, z = miX 4 (clT 4 ly 0 (hd 2)) m0 := ⟨_, rfl⟩
  obtain ⟨c2, ec2⟩ : ∃ z, z = coT 4 ly 1 c1 := ⟨_, rfl⟩
  obtain ⟨m2, em2⟩ : ∃ z, z = miX 4 (clT 4 ly 1 (hd 2)) m1 := ⟨_, rfl⟩
  obtain ⟨c3, ec3⟩ : ∃ z, z = coT 4 ly 2 c2 := ⟨_, rfl⟩
  obtain ⟨m3, em3⟩ : ∃ z, z = miX 4 (clT 4 ly 2 (hd 2)) m2 := ⟨_, rfl⟩
  obtain ⟨c4, ec4⟩ : ∃ z, z = coT 4 ly 3 c3 := ⟨_, rfl⟩
  obtain ⟨m4, em4⟩ : ∃ z, z = miX 4 (clT 4 ly 3 (hd 2)) m3 := ⟨_, rfl⟩
  refine ⟨c4, m4, ?_⟩
  refine PX1_solve (Nat.le_of_ble_eq_true rfl) (Or.inr rfl) ?_
  intro G hT hC hR
  refine mB hT 3 rfl ?_
  refine hC.1 _ 1 [_, _] _ _ _ _ _ (show KX1_layTable l D ca ad _ _ none (XW n vs be dt 4 ro co m0 ly B hd df) from (by rw [em0, edt, ely]; exact c_lay_6_4)) rfl rfl (Nat.le_of_ble_eq_true rfl) rfl ?_
  refine mB hT 5 rfl ?_
  refine mIf (fun hp => absurd hp (fun q => h0 (lc_eq.mp q))) (fun _ => ?_)
  refine mB hT 3 rfl ?_
  refine hC.2.1 _ [_] _ _ _ _ (c_abs _) rfl (Nat.le_of_ble_eq_true rfl) rfl ?_
  refine mB hT 10 rfl ?_
  refine mWd (w2 := (XW n vs (absX dt) dt 4 ro co m0 ly B hd df)) rfl ?_
  refine hC.2.2 _ 1 [_, _] _ _ _ _ _ (show KX1_determinantWithColumn l D ca ad _ _ (some (.long (detX 4 (clT 4 ly 0 (hd 2))))) (XW n vs (absX dt) dt 4 ro c1 m1 ly B hd df) from (by rw [em1, ec1]; exact c_dwc_2_4_0)) rfl rfl (Nat.le_of_ble_eq_true rfl) rfl ?_
  refine mB hT 9 rfl ?_
  refine mIf (fun hp => absurd hp (fun q => Int64.not_lt.mpr (lc_ge.mp q) hs)) (fun _ => ?_)
  refine mNf (lv2 := [(5, .long (detX 4 (clT 4 ly 0 (hd 2)))), (4, .int 0), (0, .ref 1), (1, .ref 10), (2, .int 4), (3, .ref 25)]) (st2 := [.int 0, .ref 2]) rfl rfl ?_
  refine mB hT 3 rfl ?_
  refine mNf (lv2 := [(5, .long (detX 4 (clT 4 ly 0 (hd 2)))), (4, .int 0), (0, .ref 1), (1, .ref 10), (2, .int 4), (3, .ref 25)]) (st2 := [.long (rr 0), .int 0, .ref 2]) rfl (by rw [hrr 0] <;> rfl) ?_
  refine mB hT 10 rfl ?_
  refine mWd (w2 := (XW n vs (absX dt) dt 4 (up ro 0 (rr 0)) c1 m1 ly B hd df)) rfl ?_
  refine hC.2.2 _ 1 [_, _] _ _ _ _ _ (show KX1_determinantWithColumn l D ca ad _ _ (some (.long (detX 4 (clT 4 ly 1 (hd 2))))) (XW n vs (absX dt) dt 4 (up ro 0 (rr 0)) c2 m2 ly B hd df) from (by rw [em2, ec2]; exact c_dwc_2_4_1)) rfl rfl (Nat.le_of_ble_eq_true rfl) rfl ?_
  refine mB hT 9 rfl ?_
  refine mIf (fun hp => absurd hp (fun q => Int64.not_lt.mpr (lc_ge.mp q) hs)) (fun _ => ?_)
  refine mNf (lv2 := [(5, .long (detX 4 (clT 4 ly 1 (hd 2)))), (4, .int 1), (0, .ref 1), (1, .ref 10), (2, .int 4), (3, .ref 25)]) (st2 := [.int 1, .ref 2]) rfl rfl ?_
  refine mB hT 3 rfl ?_
  refine mNf (lv2 := [(5, .long (detX 4 (clT 4 ly 1 (hd 2)))), (4, .int 1), (0, .ref 1), (1, .ref 10), (2, .int 4), (3, .ref 25)]) (st2 := [.long (rr 1), .int 1, .ref 2]) rfl (by rw [hrr 1] <;> rfl) ?_
  refine mB hT 10 rfl ?_
  refine mWd (w2 := (XW n vs (absX dt) dt 4 (up (up ro 0 (rr 0)) 1 (rr 1)) c2 m2 ly B hd df)) rfl ?_
  refine hC.2.2 _ 1 [_, _] _ _ _ _ _ (show KX1_determinantWithColumn l D ca ad _ _ (some (.long (detX 4 (clT 4 ly 2 (hd 2))))) (XW n vs (absX dt) dt 4 (up (up ro 0 (rr 0)) 1 (rr 1)) c3 m3 ly B hd df) from (by rw [em3, ec3]; exact c_dwc_2_4_2)) rfl rfl (Nat.le_of_ble_eq_true rfl) rfl ?_
  refine mB hT 9 rfl ?_
  refine mIf (fun hp => absurd hp (fun q => Int64.not_lt.mpr (lc_ge.mp q) hs)) (fun _ => ?_)
  refine mNf (lv2 := [(5, .long (detX 4 (clT 4 ly 2 (hd 2)))), (4, .int 2), (0, .ref 1), (1, .ref 10), (2, .int 4), (3, .ref 25)]) (st2 := [.int 2, .ref 2]) rfl rfl ?_
  refine mB hT 3 rfl ?_
  refine mNf (lv2 := [(5, .long (detX 4 (clT 4 ly 2 (hd 2)))), (4, .int 2), (0, .ref 1), (1, .ref 10), (2, .int 4), (3, .ref 25)]) (st2 := [.long (rr 2), .int 2, .ref 2]) rfl (by rw [hrr 2] <;> rfl) ?_
  refine mB hT 10 rfl ?_
  refine mWd (w2 := (XW n vs (absX dt) dt 4 (up (up (up ro 0 (rr 0)) 1 (rr 1)) 2 (rr 2)) c3 m3 ly B hd df)) rfl ?_
  refine hC.2.2 _ 1 [_, _] _ _ _ _ _ (show KX1_determinantWithColumn l D ca ad _ _ (some (.long (detX 4 (clT 4 ly 3 (hd 2))))) (XW n vs (absX dt) dt 4 (up (up (up ro 0 (rr 0)) 1 (rr 1)) 2 (rr 2)) c4 m4 ly B hd df) from (by rw [em4, ec4]; exact c_dwc_2_4_3)) rfl rfl (Nat.le_of_ble_eq_true rfl) rfl ?_
  refine mB hT 9 rfl ?_
  refine mIf (fun hp => absurd hp (fun q => Int64.not_lt.mpr (lc_ge.mp q) hs)) (fun _ => ?_)
  refine mNf (lv2 := [(5, .long (detX 4 (clT 4 ly 3 (hd 2)))), (4, .int 3), (0, .ref 1), (1, .ref 10), (2, .int 4), (3, .ref 25)]) (st2 := [.int 3, .ref 2]) rfl rfl ?_
  refine mB hT 3 rfl ?_
  refine mNf (lv2 := [(5, .long (detX 4 (clT 4 ly 3 (hd 2)))), (4, .int 3), (0, .ref 1), (1, .ref 10), (2, .int 4), (3, .ref 25)]) (st2 := [.long (rr 3), .int 3, .ref 2]) rfl (by rw [hrr 3] <;> rfl) ?_
  refine mB hT 8 rfl ?_
  exact hR _ (by decide) _ _ _ rfl rfl
theorem c_solve1_6_4_2 {n vs : Int32} {be de : Int64} {sz : Int32} {ro co mi : Nat → Int64} {T : Nat → Nat → Int64} {B : Nat → Nat → Nat → Int32} {hd : Nat → Nat → Int32} {df : Nat → Int32} (h0 : ¬ detX 4 (lyT 4 (B 6) T) = 0) : ∃ (de2 : Int64) (co2 mi2 : Nat → Int64) (T2 : Nat → Nat → Int64), KX1_solve l D ca ad [.ref 1, .ref 10, .int 4, .ref 25] (XW n vs be de sz ro co mi T B hd df) (some (.int 1)) (XW n vs (absX (detX 4 (lyT 4 (B 6) T))) de2 4 (roX 4 (lyT 4 (B 6) T) (hd 2) ro) co2 mi2 T2 B hd df) := by
  by_cases hs : detX 4 (lyT 4 (B 6) T) < 0
  · obtain ⟨c2, m2, k⟩ := c_solve1_6_4_2n (rr := rdX 4 (lyT 4 (B 6) T) (hd 2)) rfl rfl h0 hs (fun i => if_pos hs)
    exact ⟨_, c2, m2, _, k⟩
  · obtain ⟨c2, m2, k⟩ := c_solve1_6_4_2p (rr := rdX 4 (lyT 4 (B 6) T) (hd 2)) rfl rfl h0 hs (fun i => if_neg hs)
    exact ⟨_, c2, m2, _, k⟩
theorem c_solve0_6_4_3 {n vs : Int32} {be de : Int64} {sz : Int32} {ro co mi : Nat → Int64} {T : Nat → Nat → Int64} {B : Nat → Nat → Nat → Int32} {hd : Nat → Nat → Int32} {df : Nat → Int32} (h0 : detX 4 (lyT 4 (B 6) T) = 0) : ∃ (de2 : Int64) (mi2 : Nat → Int64) (T2 : Nat → Nat → Int64), KX1_solve l D ca ad [.ref 1, .ref 10, .int 4, .ref 26] (XW n vs be de sz ro co mi T B hd df) (some (.int 0)) (XW n vs be de2 4 ro co mi2 T2 B hd df) := by
  obtain ⟨ly, ely⟩ : ∃ z, z = (lyT 4 (B 6) T) := ⟨_, rfl⟩
  rw [← ely] at h0
  obtain ⟨dt, edt⟩ : ∃ z, z = detX 4 ly := ⟨_, rfl⟩
  rw [← edt] at h0
  obtain ⟨m0, em0⟩ : ∃ z, z = miX 4 ly mi := ⟨_, rfl⟩
  refine ⟨dt, m0, ly, ?_⟩
  refine PX1_solve (Nat.le_of_ble_eq_true rfl) (Or.inl rfl) ?_
  intro G hT hC hR
  refine mB hT 3 rfl ?_
  refine hC.1 _ 1 [_, _] _ _ _ _ _ (show KX1_layTable l D ca ad _ _ none (XW n vs be dt 4 ro co m0 ly B hd df) from (by rw [em0, edt, ely]; exact c_lay_6_4)) rfl rfl (Nat.le_of_ble_eq_true rfl) rfl ?_
  refine mB hT 5 rfl ?_
  refine mIf (fun _ => ?_) (fun hn => absurd (lc_eq.mpr h0) hn)
  refine mB hT 1 rfl ?_
  exact hR _ (by decide) _ _ _ rfl rfl
set_option maxRecDepth 20000 in
theorem c_solve1_6_4_3p {n vs : Int32} {be de : Int64} {sz : Int32} {ro co mi : Nat → Int64} {T : Nat → Nat → Int64} {B : Nat → Nat → Nat → Int32} {hd : Nat → Nat → Int32} {df : Nat → Int32} {ly : Nat → Nat → Int64} {dt : Int64} {rr : Nat → Int64} (ely : ly = (lyT 4 (B 6) T)) (edt : dt = detX 4 ly) (h0 : ¬ dt = 0) (hs : ¬ dt < 0) (hrr : ∀ i : Nat, rr i = detX 4 (clT 4 ly i (hd 3))) : ∃ (co2 mi2 : Nat → Int64), KX1_solve l D ca ad [.ref 1, .ref 10, .int 4, .ref 26] (XW n vs be de sz ro co mi T B hd df) (some (.int 1)) (XW n vs (absX dt) dt 4 (roc 4 rr ro) co2 mi2 ly B hd df) := by
  obtain ⟨m0, em0⟩ : ∃ z, z = miX 4 ly mi := ⟨_, rfl⟩
  obtain ⟨c1, ec1⟩ : ∃ z, z = coT 4 ly 0 co := ⟨_, rfl⟩
  obtain ⟨m1, em1⟩ : ∃ z, z = miX 4 (clT 4 ly 0 (hd 3)) m0 := ⟨_, rfl⟩
  obtain ⟨c2, ec2⟩ : ∃ z, z = coT 4 ly 1 c1 := ⟨_, rfl⟩
  obtain ⟨m2, em2⟩ : ∃ z, z = miX 4 (clT 4 ly 1 (hd 3)) m1 := ⟨_, rfl⟩
  obtain ⟨c3, ec3⟩ : ∃ z, z = coT 4 ly 2 c2 := ⟨_, rfl⟩
  obtain ⟨m3, em3⟩ : ∃ z, z = miX 4 (clT 4 ly 2 (hd 3)) m2 := ⟨_, rfl⟩
  obtain ⟨c4, ec4⟩ : ∃ z, z = coT 4 ly 3 c3 := ⟨_, rfl⟩
  obtain ⟨m4, em4⟩ : ∃ z, z = miX 4 (clT 4 ly 3 (hd 3)) m3 := ⟨_, rfl⟩
  refine ⟨c4, m4, ?_⟩
  refine PX1_solve (Nat.le_of_ble_eq_true rfl) (Or.inr rfl) ?_
  intro G hT hC hR
  refine mB hT 3 rfl ?_
  refine hC.1 _ 1 [_, _] _ _ _ _ _ (show KX1_layTable l D ca ad _ _ none (XW n vs be dt 4 ro co m0 ly B hd df) from (by rw [em0, edt, ely]; exact c_lay_6_4)) rfl rfl (Nat.le_of_ble_eq_true rfl) rfl ?_
  refine mB hT 5 rfl ?_
  refine mIf (fun hp => absurd hp (fun q => h0 (lc_eq.mp q))) (fun _ => ?_)
  refine mB hT 3 rfl ?_
  refine hC.2.1 _ [_] _ _ _ _ (c_abs _) rfl (Nat.le_of_ble_eq_true rfl) rfl ?_
  refine mB hT 10 rfl ?_
  refine mWd (w2 := (XW n vs (absX dt) dt 4 ro co m0 ly B hd df)) rfl ?_
  refine hC.2.2 _ 1 [_, _] _ _ _ _ _ (show KX1_determinantWithColumn l D ca ad _ _ (some (.long (detX 4 (clT 4 ly 0 (hd 3))))) (XW n vs (absX dt) dt 4 ro c1 m1 ly B hd df) from (by rw [em1, ec1]; exact c_dwc_3_4_0)) rfl rfl (Nat.le_of_ble_eq_true rfl) rfl ?_
  refine mB hT 9 rfl ?_
  refine mIf (fun _ => ?_) (fun hn => absurd (lc_ge.mpr (Int64.not_lt.mp hs)) hn)
  refine mNf (lv2 := [(5, .long (detX 4 (clT 4 ly 0 (hd 3)))), (4, .int 0), (0, .ref 1), (1, .ref 10), (2, .int 4), (3, .ref 26)]) (st2 := [.int 0, .ref 2]) rfl rfl ?_
  refine mB hT 1 rfl ?_
  refine mNf (lv2 := [(5, .long (detX 4 (clT 4 ly 0 (hd 3)))), (4, .int 0), (0, .ref 1), (1, .ref 10), (2, .int 4), (3, .ref 26)]) (st2 := [.long (rr 0), .int 0, .ref 2]) rfl (by rw [hrr 0] <;> rfl) ?_
  refine mB hT 10 rfl ?_
  refine mWd (w2 := (XW n vs (absX dt) dt 4 (up ro 0 (rr 0)) c1 m1 ly B hd df)) rfl ?_
  refine hC.2.2 _ 1 [_, _] _ _ _ _ _ (show KX1_determinantWithColumn l D ca ad _ _ (some (.long (detX 4 (clT 4 ly 1 (hd 3))))) (XW n vs (absX dt) dt 4 (up ro 0 (rr 0)) c2 m2 ly B hd df) from (by rw [em2, ec2]; exact c_dwc_3_4_1)) rfl rfl (Nat.le_of_ble_eq_true rfl) rfl ?_
  refine mB hT 9 rfl ?_
  refine mIf (fun _ => ?_) (fun hn => absurd (lc_ge.mpr (Int64.not_lt.mp hs)) hn)
  refine mNf (lv2 := [(5, .long (detX 4 (clT 4 ly 1 (hd 3)))), (4, .int 1), (0, .ref 1), (1, .ref 10), (2, .int 4), (3, .ref 26)]) (st2 := [.int 1, .ref 2]) rfl rfl ?_
  refine mB hT 1 rfl ?_
  refine mNf (lv2 := [(5, .long (detX 4 (clT 4 ly 1 (hd 3)))), (4, .int 1), (0, .ref 1), (1, .ref 10), (2, .int 4), (3, .ref 26)]) (st2 := [.long (rr 1), .int 1, .ref 2]) rfl (by rw [hrr 1] <;> rfl) ?_
  refine mB hT 10 rfl ?_
  refine mWd (w2 := (XW n vs (absX dt) dt 4 (up (up ro 0 (rr 0)) 1 (rr 1)) c2 m2 ly B hd df)) rfl ?_
  refine hC.2.2 _ 1 [_, _] _ _ _ _ _ (show KX1_determinantWithColumn l D ca ad _ _ (some (.long (detX 4 (clT 4 ly 2 (hd 3))))) (XW n vs (absX dt) dt 4 (up (up ro 0 (rr 0)) 1 (rr 1)) c3 m3 ly B hd df) from (by rw [em3, ec3]; exact c_dwc_3_4_2)) rfl rfl (Nat.le_of_ble_eq_true rfl) rfl ?_
  refine mB hT 9 rfl ?_
  refine mIf (fun _ => ?_) (fun hn => absurd (lc_ge.mpr (Int64.not_lt.mp hs)) hn)
  refine mNf (lv2 := [(5, .long (detX 4 (clT 4 ly 2 (hd 3)))), (4, .int 2), (0, .ref 1), (1, .ref 10), (2, .int 4), (3, .ref 26)]) (st2 := [.int 2, .ref 2]) rfl rfl ?_
  refine mB hT 1 rfl ?_
  refine mNf (lv2 := [(5, .long (detX 4 (clT 4 ly 2 (hd 3)))), (4, .int 2), (0, .ref 1), (1, .ref 10), (2, .int 4), (3, .ref 26)]) (st2 := [.long (rr 2), .int 2, .ref 2]) rfl (by rw [hrr 2] <;> rfl) ?_
  refine mB hT 10 rfl ?_
  refine mWd (w2 := (XW n vs (absX dt) dt 4 (up (up (up ro 0 (rr 0)) 1 (rr 1)) 2 (rr 2)) c3 m3 ly B hd df)) rfl ?_
  refine hC.2.2 _ 1 [_, _] _ _ _ _ _ (show KX1_determinantWithColumn l D ca ad _ _ (some (.long (detX 4 (clT 4 ly 3 (hd 3))))) (XW n vs (absX dt) dt 4 (up (up (up ro 0 (rr 0)) 1 (rr 1)) 2 (rr 2)) c4 m4 ly B hd df) from (by rw [em4, ec4]; exact c_dwc_3_4_3)) rfl rfl (Nat.le_of_ble_eq_true rfl) rfl ?_
  refine mB hT 9 rfl ?_
  refine mIf (fun _ => ?_) (fun hn => absurd (lc_ge.mpr (Int64.not_lt.mp hs)) hn)
  refine mNf (lv2 := [(5, .long (detX 4 (clT 4 ly 3 (hd 3)))), (4, .int 3), (0, .ref 1), (1, .ref 10), (2, .int 4), (3, .ref 26)]) (st2 := [.int 3, .ref 2]) rfl rfl ?_
  refine mB hT 1 rfl ?_
  refine mNf (lv2 := [(5, .long (detX 4 (clT 4 ly 3 (hd 3)))), (4, .int 3), (0, .ref 1), (1, .ref 10), (2, .int 4), (3, .ref 26)]) (st2 := [.long (rr 3), .int 3, .ref 2]) rfl (by rw [hrr 3] <;> rfl) ?_
  refine mB hT 8 rfl ?_
  exact hR _ (by decide) _ _ _ rfl rfl
set_option maxRecDepth 20000 in
theorem c_solve1_6_4_3n {n vs : Int32} {be de : Int64} {sz : Int32} {ro co mi : Nat → Int64} {T : Nat → Nat → Int64} {B : Nat → Nat → Nat → Int32} {hd : Nat → Nat → Int32} {df : Nat → Int32} {ly : Nat → Nat → Int64} {dt : Int64} {rr : Nat → Int64} (ely : ly = (lyT 4 (B 6) T)) (edt : dt = detX 4 ly) (h0 : ¬ dt = 0) (hs : dt < 0) (hrr : ∀ i : Nat, rr i = -(detX 4 (clT 4 ly i (hd 3)))) : ∃ (co2 mi2 : Nat → Int64), KX1_solve l D ca ad [.ref 1, .ref 10, .int 4, .ref 26] (XW n vs be de sz ro co mi T B hd df) (some (.int 1)) (XW n vs (absX dt) dt 4 (roc 4 rr ro) co2 mi2 ly B hd df) := by
  obtain ⟨m0, em0⟩ : ∃ z, z = miX 4 ly mi := ⟨_, rfl⟩
  obtain ⟨c1, ec1⟩ : ∃ z, z = coT 4 ly 0 co := ⟨_, rfl⟩
  obtain ⟨m1, em1⟩ : ∃ z, z = miX 4 (clT 4 ly 0 (hd 3)) m0 := ⟨_, rfl⟩
  obtain ⟨c2, ec2⟩ : ∃ z, z = coT 4 ly 1 c1 := ⟨_, rfl⟩
  obtain ⟨m2, em2⟩ : ∃ z, z = miX 4 (clT 4 ly 1 (hd 3)) m1 := ⟨_, rfl⟩
  obtain ⟨c3, ec3⟩ : ∃ z, z = coT 4 ly 2 c2 := ⟨_, rfl⟩
  obtain ⟨m3, em3⟩ : ∃ z, z = miX 4 (clT 4 ly 2 (hd 3)) m2 := ⟨_, rfl⟩
  obtain ⟨c4, ec4⟩ : ∃ z, z = coT 4 ly 3 c3 := ⟨_, rfl⟩
  obtain ⟨m4, em4⟩ : ∃ z, z = miX 4 (clT 4 ly 3 (hd 3)) m3 := ⟨_, rfl⟩
  refine ⟨c4, m4, ?_⟩
  refine PX1_solve (Nat.le_of_ble_eq_true rfl) (Or.inr rfl) ?_
  intro G hT hC hR
  refine mB hT 3 rfl ?_
  refine hC.1 _ 1 [_, _] _ _ _ _ _ (show KX1_layTable l D ca ad _ _ none (XW n vs be dt 4 ro co m0 ly B hd df) from (by rw [em0, edt, ely]; exact c_lay_6_4)) rfl rfl (Nat.le_of_ble_eq_true rfl) rfl ?_
  refine mB hT 5 rfl ?_
  refine mIf (fun hp => absurd hp (fun q => h0 (lc_eq.mp q))) (fun _ => ?_)
  refine mB hT 3 rfl ?_
  refine hC.2.1 _ [_] _ _ _ _ (c_abs _) rfl (Nat.le_of_ble_eq_true rfl) rfl ?_
  refine mB hT 10 rfl ?_
  refine mWd (w2 := (XW n vs (absX dt) dt 4 ro co m0 ly B hd df)) rfl ?_
  refine hC.2.2 _ 1 [_, _] _ _ _ _ _ (show KX1_determinantWithColumn l D ca ad _ _ (some (.long (detX 4 (clT 4 ly 0 (hd 3))))) (XW n vs (absX dt) dt 4 ro c1 m1 ly B hd df) from (by rw [em1, ec1]; exact c_dwc_3_4_0)) rfl rfl (Nat.le_of_ble_eq_true rfl) rfl ?_
  refine mB hT 9 rfl ?_
  refine mIf (fun hp => absurd hp (fun q => Int64.not_lt.mpr (lc_ge.mp q) hs)) (fun _ => ?_)
  refine mNf (lv2 := [(5, .long (detX 4 (clT 4 ly 0 (hd 3)))), (4, .int 0), (0, .ref 1), (1, .ref 10), (2, .int 4), (3, .ref 26)]) (st2 := [.int 0, .ref 2]) rfl rfl ?_
  refine mB hT 3 rfl ?_
  refine mNf (lv2 := [(5, .long (detX 4 (clT 4 ly 0 (hd 3)))), (4, .int 0), (0, .ref 1), (1, .ref 10), (2, .int 4), (3, .ref 26)]) (st2 := [.long (rr 0), .int 0, .ref 2]) rfl (by rw [hrr 0] <;> rfl) ?_
  refine mB hT 10 rfl ?_
  refine mWd (w2 := (XW n vs (absX dt) dt 4 (up ro 0 (rr 0)) c1 m1 ly B hd df)) rfl ?_
  refine hC.2.2 _ 1 [_, _] _ _ _ _ _ (show KX1_determinantWithColumn l D ca ad _ _ (some (.long (detX 4 (clT 4 ly 1 (hd 3))))) (XW n vs (absX dt) dt 4 (up ro 0 (rr 0)) c2 m2 ly B hd df) from (by rw [em2, ec2]; exact c_dwc_3_4_1)) rfl rfl (Nat.le_of_ble_eq_true rfl) rfl ?_
  refine mB hT 9 rfl ?_
  refine mIf (fun hp => absurd hp (fun q => Int64.not_lt.mpr (lc_ge.mp q) hs)) (fun _ => ?_)
  refine mNf (lv2 := [(5, .long (detX 4 (clT 4 ly 1 (hd 3)))), (4, .int 1), (0, .ref 1), (1, .ref 10), (2, .int 4), (3, .ref 26)]) (st2 := [.int 1, .ref 2]) rfl rfl ?_
  refine mB hT 3 rfl ?_
  refine mNf (lv2 := [(5, .long (detX 4 (clT 4 ly 1 (hd 3)))), (4, .int 1), (0, .ref 1), (1, .ref 10), (2, .int 4), (3, .ref 26)]) (st2 := [.long (rr 1), .int 1, .ref 2]) rfl (by rw [hrr 1] <;> rfl) ?_
  refine mB hT 10 rfl ?_
  refine mWd (w2 := (XW n vs (absX dt) dt 4 (up (up ro 0 (rr 0)) 1 (rr 1)) c2 m2 ly B hd df)) rfl ?_
  refine hC.2.2 _ 1 [_, _] _ _ _ _ _ (show KX1_determinantWithColumn l D ca ad _ _ (some (.long (detX 4 (clT 4 ly 2 (hd 3))))) (XW n vs (absX dt) dt 4 (up (up ro 0 (rr 0)) 1 (rr 1)) c3 m3 ly B hd df) from (by rw [em3, ec3]; exact c_dwc_3_4_2)) rfl rfl (Nat.le_of_ble_eq_true rfl) rfl ?_
  refine mB hT 9 rfl ?_
  refine mIf (fun hp => absurd hp (fun q => Int64.not_lt.mpr (lc_ge.mp q) hs)) (fun _ => ?_)
  refine mNf (lv2 := [(5, .long (detX 4 (clT 4 ly 2 (hd 3)))), (4, .int 2), (0, .ref 1), (1, .ref 10), (2, .int 4), (3, .ref 26)]) (st2 := [.int 2, .ref 2]) rfl rfl ?_
  refine mB hT 3 rfl ?_
  refine mNf (lv2 := [(5, .long (detX 4 (clT 4 ly 2 (hd 3)))), (4, .int 2), (0, .ref 1), (1, .ref 10), (2, .int 4), (3, .ref 26)]) (st2 := [.long (rr 2), .int 2, .ref 2]) rfl (by rw [hrr 2] <;> rfl) ?_
  refine mB hT 10 rfl ?_
  refine mWd (w2 := (XW n vs (absX dt) dt 4 (up (up (up ro 0 (rr 0)) 1 (rr 1)) 2 (rr 2)) c3 m3 ly B hd df)) rfl ?_
  refine hC.2.2 _ 1 [_, _] _ _ _ _ _ (show KX1_determinantWithColumn l D ca ad _ _ (some (.long (detX 4 (clT 4 ly 3 (hd 3))))) (XW n vs (absX dt) dt 4 (up (up (up ro 0 (rr 0)) 1 (rr 1)) 2 (rr 2)) c4 m4 ly B hd df) from (by rw [em4, ec4]; exact c_dwc_3_4_3)) rfl rfl (Nat.le_of_ble_eq_true rfl) rfl ?_
  refine mB hT 9 rfl ?_
  refine mIf (fun hp => absurd hp (fun q => Int64.not_lt.mpr (lc_ge.mp q) hs)) (fun _ => ?_)
  refine mNf (lv2 := [(5, .long (detX 4 (clT 4 ly 3 (hd 3)))), (4, .int 3), (0, .ref 1), (1, .ref 10), (2, .int 4), (3, .ref 26)]) (st2 := [.int 3, .ref 2]) rfl rfl ?_
  refine mB hT 3 rfl ?_
  refine mNf (lv2 := [(5, .long (detX 4 (clT 4 ly 3 (hd 3)))), (4, .int 3), (0, .ref 1), (1, .ref 10), (2, .int 4), (3, .ref 26)]) (st2 := [.long (rr 3), .int 3, .ref 2]) rfl (by rw [hrr 3] <;> rfl) ?_
  refine mB hT 8 rfl ?_
  exact hR _ (by decide) _ _ _ rfl rfl
theorem c_solve1_6_4_3 {n vs : Int32} {be de : Int64} {sz : Int32} {ro co mi : Nat → Int64} {T : Nat → Nat → Int64} {B : Nat → Nat → Nat → Int32} {hd : Nat → Nat → Int32} {df : Nat → Int32} (h0 : ¬ detX 4 (lyT 4 (B 6) T) = 0) : ∃ (de2 : Int64) (co2 mi2 : Nat → Int64) (T2 : Nat → Nat → Int64), KX1_solve l D ca ad [.ref 1, .ref 10, .int 4, .ref 26] (XW n vs be de sz ro co mi T B hd df) (some (.int 1)) (XW n vs (absX (detX 4 (lyT 4 (B 6) T))) de2 4 (roX 4 (lyT 4 (B 6) T) (hd 3) ro) co2 mi2 T2 B hd df) := by
  by_cases hs : detX 4 (lyT 4 (B 6) T) < 0
  · obtain ⟨c2, m2, k⟩ := c_solve1_6_4_3n (rr := rdX 4 (lyT 4 (B 6) T) (hd 3)) rfl rfl h0 hs (fun i => if_pos hs)
    exact ⟨_, c2, m2, _, k⟩
  · obtain ⟨c2, m2, k⟩ := c_solve1_6_4_3p (rr := rdX 4 (lyT 4 (B 6) T) (hd 3)) rfl rfl h0 hs (fun i => if_neg hs)
    exact ⟨_, c2, m2, _, k⟩
theorem c_solve0_6_4_4 {n vs : Int32} {be de : Int64} {sz : Int32} {ro co mi : Nat → Int64} {T : Nat → Nat → Int64} {B : Nat → Nat → Nat → Int32} {hd : Nat → Nat → Int32} {df : Nat → Int32} (h0 : detX 4 (lyT 4 (B 6) T) = 0) : ∃ (de2 : Int64) (mi2 : Nat → Int64) (T2 : Nat → Nat → Int64), KX1_solve l D ca ad [.ref 1, .ref 10, .int 4, .ref 27] (XW n vs be de sz ro co mi T B hd df) (some (.int 0)) (XW n vs be de2 4 ro co mi2 T2 B hd df) := by
  obtain ⟨ly, ely⟩ : ∃ z, z = (lyT 4 (B 6) T) := ⟨_, rfl⟩
  rw [← ely] at h0
  obtain ⟨dt, edt⟩ : ∃ z, z = detX 4 ly := ⟨_, rfl⟩
  rw [← edt] at h0
  obtain ⟨m0, em0⟩ : ∃ z, z = miX 4 ly mi := ⟨_, rfl⟩
  refine ⟨dt, m0, ly, ?_⟩
  refine PX1_solve (Nat.le_of_ble_eq_true rfl) (Or.inl rfl) ?_
  intro G hT hC hR
  refine mB hT 3 rfl ?_
  refine hC.1 _ 1 [_, _] _ _ _ _ _ (show KX1_layTable l D ca ad _ _ none (XW n vs be dt 4 ro co m0 ly B hd df) from (by rw [em0, edt, ely]; exact c_lay_6_4)) rfl rfl (Nat.le_of_ble_eq_true rfl) rfl ?_
  refine mB hT 5 rfl ?_
  refine mIf (fun _ => ?_) (fun hn => absurd (lc_eq.mpr h0) hn)
  refine mB hT 1 rfl ?_
  exact hR _ (by decide) _ _ _ rfl rfl
set_option maxRecDepth 20000 in
theorem c_solve1_6_4_4p {n vs : Int32} {be de : Int64} {sz : Int32} {ro co mi : Nat → Int64} {T : Nat → Nat → Int64} {B : Nat → Nat → Nat → Int32} {hd : Nat → Nat → Int32} {df : Nat → Int32} {ly : Nat → Nat → Int64} {dt : Int64} {rr : Nat → Int64} (ely : ly = (lyT 4 (B 6) T)) (edt : dt = detX 4 ly) (h0 : ¬ dt = 0) (hs : ¬ dt < 0) (hrr : ∀ i : Nat, rr i = detX 4 (clT 4 ly i df)) : ∃ (co2 mi2 : Nat → Int64), KX1_solve l D ca ad [.ref 1, .ref 10, .int 4, .ref 27] (XW n vs be de sz ro co mi T B hd df) (some (.int 1)) (XW n vs (absX dt) dt 4 (roc 4 rr ro) co2 mi2 ly B hd df) := by
  obtain ⟨m0, em0⟩ : ∃ z, z = miX 4 ly mi := ⟨_, rfl⟩
  obtain ⟨c1, ec1⟩ : ∃ z, z = coT 4 ly 0 co := ⟨_, rfl⟩
  obtain ⟨m1, em1⟩ : ∃ z, z = miX 4 (clT 4 ly 0 df) m0 := ⟨_, rfl⟩
  obtain ⟨c2, ec2⟩ : ∃ z, z = coT 4 ly 1 c1 := ⟨_, rfl⟩
  obtain ⟨m2, em2⟩ : ∃ z, z = miX 4 (clT 4 ly 1 df) m1 := ⟨_, rfl⟩
  obtain ⟨c3, ec3⟩ : ∃ z, z = coT 4 ly 2 c2 := ⟨_, rfl⟩
  obtain ⟨m3, em3⟩ : ∃ z, z = miX 4 (clT 4 ly 2 df) m2 := ⟨_, rfl⟩
  obtain ⟨c4, ec4⟩ : ∃ z, z = coT 4 ly 3 c3 := ⟨_, rfl⟩
  obtain ⟨m4, em4⟩ : ∃ z, z = miX 4 (clT 4 ly 3 df) m3 := ⟨_, rfl⟩
  refine ⟨c4, m4, ?_⟩
  refine PX1_solve (Nat.le_of_ble_eq_true rfl) (Or.inr rfl) ?_
  intro G hT hC hR
  refine mB hT 3 rfl ?_
  refine hC.1 _ 1 [_, _] _ _ _ _ _ (show KX1_layTable l D ca ad _ _ none (XW n vs be dt 4 ro co m0 ly B hd df) from (by rw [em0, edt, ely]; exact c_lay_6_4)) rfl rfl (Nat.le_of_ble_eq_true rfl) rfl ?_
  refine mB hT 5 rfl ?_
  refine mIf (fun hp => absurd hp (fun q => h0 (lc_eq.mp q))) (fun _ => ?_)
  refine mB hT 3 rfl ?_
  refine hC.2.1 _ [_] _ _ _ _ (c_abs _) rfl (Nat.le_of_ble_eq_true rfl) rfl ?_
  refine mB hT 10 rfl ?_
  refine mWd (w2 := (XW n vs (absX dt) dt 4 ro co m0 ly B hd df)) rfl ?_
  refine hC.2.2 _ 1 [_, _] _ _ _ _ _ (show KX1_determinantWithColumn l D ca ad _ _ (some (.long (detX 4 (clT 4 ly 0 df)))) (XW n vs (absX dt) dt 4 ro c1 m1 ly B hd df) from (by rw [em1, ec1]; exact c_dwc_4_4_0)) rfl rfl (Nat.le_of_ble_eq_true rfl) rfl ?_
  refine mB hT 9 rfl ?_
  refine mIf (fun _ => ?_) (fun hn => absurd (lc_ge.mpr (Int64.not_lt.mp hs)) hn)
  refine mNf (lv2 := [(5, .long (detX 4 (clT 4 ly 0 df))), (4, .int 0), (0, .ref 1), (1, .ref 10), (2, .int 4), (3, .ref 27)]) (st2 := [.int 0, .ref 2]) rfl rfl ?_
  refine mB hT 1 rfl ?_
  refine mNf (lv2 := [(5, .long (detX 4 (clT 4 ly 0 df))), (4, .int 0), (0, .ref 1), (1, .ref 10), (2, .int 4), (3, .ref 27)]) (st2 := [.long (rr 0), .int 0, .ref 2]) rfl (by rw [hrr 0] <;> rfl) ?_
  refine mB hT 10 rfl ?_
  refine mWd (w2 := (XW n vs (absX dt) dt 4 (up ro 0 (rr 0)) c1 m1 ly B hd df)) rfl ?_
  refine hC.2.2 _ 1 [_, _] _ _ _ _ _ (show KX1_determinantWithColumn l D ca ad _ _ (some (.long (detX 4 (clT 4 ly 1 df)))) (XW n vs (absX dt) dt 4 (up ro 0 (rr 0)) c2 m2 ly B hd df) from (by rw [em2, ec2]; exact c_dwc_4_4_1)) rfl rfl (Nat.le_of_ble_eq_true rfl) rfl ?_
  refine mB hT 9 rfl ?_
  refine mIf (fun _ => ?_) (fun hn => absurd (lc_ge.mpr (Int64.not_lt.mp hs)) hn)
  refine mNf (lv2 := [(5, .long (detX 4 (clT 4 ly 1 df))), (4, .int 1), (0, .ref 1), (1, .ref 10), (2, .int 4), (3, .ref 27)]) (st2 := [.int 1, .ref 2]) rfl rfl ?_
  refine mB hT 1 rfl ?_
  refine mNf (lv2 := [(5, .long (detX 4 (clT 4 ly 1 df))), (4, .int 1), (0, .ref 1), (1, .ref 10), (2, .int 4), (3, .ref 27)]) (st2 := [.long (rr 1), .int 1, .ref 2]) rfl (by rw [hrr 1] <;> rfl) ?_
  refine mB hT 10 rfl ?_
  refine mWd (w2 := (XW n vs (absX dt) dt 4 (up (up ro 0 (rr 0)) 1 (rr 1)) c2 m2 ly B hd df)) rfl ?_
  refine hC.2.2 _ 1 [_, _] _ _ _ _ _ (show KX1_determinantWithColumn l D ca ad _ _ (some (.long (detX 4 (clT 4 ly 2 df)))) (XW n vs (absX dt) dt 4 (up (up ro 0 (rr 0)) 1 (rr 1)) c3 m3 ly B hd df) from (by rw [em3, ec3]; exact c_dwc_4_4_2)) rfl rfl (Nat.le_of_ble_eq_true rfl) rfl ?_
  refine mB hT 9 rfl ?_
  refine mIf (fun _ => ?_) (fun hn => absurd (lc_ge.mpr (Int64.not_lt.mp hs)) hn)
  refine mNf (lv2 := [(5, .long (detX 4 (clT 4 ly 2 df))), (4, .int 2), (0, .ref 1), (1, .ref 10), (2, .int 4), (3, .ref 27)]) (st2 := [.int 2, .ref 2]) rfl rfl ?_
  refine mB hT 1 rfl ?_
  refine mNf (lv2 := [(5, .long (detX 4 (clT 4 ly 2 df))), (4, .int 2), (0, .ref 1), (1, .ref 10), (2, .int 4), (3, .ref 27)]) (st2 := [.long (rr 2), .int 2, .ref 2]) rfl (by rw [hrr 2] <;> rfl) ?_
  refine mB hT 10 rfl ?_
  refine mWd (w2 := (XW n vs (absX dt) dt 4 (up (up (up ro 0 (rr 0)) 1 (rr 1)) 2 (rr 2)) c3 m3 ly B hd df)) rfl ?_
  refine hC.2.2 _ 1 [_, _] _ _ _ _ _ (show KX1_determinantWithColumn l D ca ad _ _ (some (.long (detX 4 (clT 4 ly 3 df)))) (XW n vs (absX dt) dt 4 (up (up (up ro 0 (rr 0)) 1 (rr 1)) 2 (rr 2)) c4 m4 ly B hd df) from (by rw [em4, ec4]; exact c_dwc_4_4_3)) rfl rfl (Nat.le_of_ble_eq_true rfl) rfl ?_
  refine mB hT 9 rfl ?_
  refine mIf (fun _ => ?_) (fun hn => absurd (lc_ge.mpr (Int64.not_lt.mp hs)) hn)
  refine mNf (lv2 := [(5, .long (detX 4 (clT 4 ly 3 df))), (4, .int 3), (0, .ref 1), (1, .ref 10), (2, .int 4), (3, .ref 27)]) (st2 := [.int 3, .ref 2]) rfl rfl ?_
  refine mB hT 1 rfl ?_
  refine mNf (lv2 := [(5, .long (detX 4 (clT 4 ly 3 df))), (4, .int 3), (0, .ref 1), (1, .ref 10), (2, .int 4), (3, .ref 27)]) (st2 := [.long (rr 3), .int 3, .ref 2]) rfl (by rw [hrr 3] <;> rfl) ?_
  refine mB hT 8 rfl ?_
  exact hR _ (by decide) _ _ _ rfl rfl
set_option maxRecDepth 20000 in
theorem c_solve1_6_4_4n {n vs : Int32} {be de : Int64} {sz : Int32} {ro co mi : Nat → Int64} {T : Nat → Nat → Int64} {B : Nat → Nat → Nat → Int32} {hd : Nat → Nat → Int32} {df : Nat → Int32} {ly : Nat → Nat → Int64} {dt : Int64} {rr : Nat → Int64} (ely : ly = (lyT 4 (B 6) T)) (edt : dt = detX 4 ly) (h0 : ¬ dt = 0) (hs : dt < 0) (hrr : ∀ i : Nat, rr i = -(detX 4 (clT 4 ly i df))) : ∃ (co2 mi2 : Nat → Int64), KX1_solve l D ca ad [.ref 1, .ref 10, .int 4, .ref 27] (XW n vs be de sz ro co mi T B hd df) (some (.int 1)) (XW n vs (absX dt) dt 4 (roc 4 rr ro) co2 mi2 ly B hd df) := by
  obtain ⟨m0, em0⟩ : ∃ z, z = miX 4 ly mi := ⟨_, rfl⟩
  obtain ⟨c1, ec1⟩ : ∃ z, z = coT 4 ly 0 co := ⟨_, rfl⟩
  obtain ⟨m1, em1⟩ : ∃ z, z = miX 4 (clT 4 ly 0 df) m0 := ⟨_, rfl⟩
  obtain ⟨c2, ec2⟩ : ∃ z, z = coT 4 ly 1 c1 := ⟨_, rfl⟩
  obtain ⟨m2, em2⟩ : ∃ z, z = miX 4 (clT 4 ly 1 df) m1 := ⟨_, rfl⟩
  obtain ⟨c3, ec3⟩ : ∃ z, z = coT 4 ly 2 c2 := ⟨_, rfl⟩
  obtain ⟨m3, em3⟩ : ∃ z, z = miX 4 (clT 4 ly 2 df) m2 := ⟨_, rfl⟩
  obtain ⟨c4, ec4⟩ : ∃ z, z = coT 4 ly 3 c3 := ⟨_, rfl⟩
  obtain ⟨m4, em4⟩ : ∃ z, z = miX 4 (clT 4 ly 3 df) m3 := ⟨_, rfl⟩
  refine ⟨c4, m4, ?_⟩
  refine PX1_solve (Nat.le_of_ble_eq_true rfl) (Or.inr rfl) ?_
  intro G hT hC hR
  refine mB hT 3 rfl ?_
  refine hC.1 _ 1 [_, _] _ _ _ _ _ (show KX1_layTable l D ca ad _ _ none (XW n vs be dt 4 ro co m0 ly B hd df) from (by rw [em0, edt, ely]; exact c_lay_6_4)) rfl rfl (Nat.le_of_ble_eq_true rfl) rfl ?_
  refine mB hT 5 rfl ?_
  refine mIf (fun hp => absurd hp (fun q => h0 (lc_eq.mp q))) (fun _ => ?_)
  refine mB hT 3 rfl ?_
  refine hC.2.1 _ [_] _ _ _ _ (c_abs _) rfl (Nat.le_of_ble_eq_true rfl) rfl ?_
  refine mB hT 10 rfl ?_
  refine mWd (w2 := (XW n vs (absX dt) dt 4 ro co m0 ly B hd df)) rfl ?_
  refine hC.2.2 _ 1 [_, _] _ _ _ _ _ (show KX1_determinantWithColumn l D ca ad _ _ (some (.long (detX 4 (clT 4 ly 0 df)))) (XW n vs (absX dt) dt 4 ro c1 m1 ly B hd df) from (by rw [em1, ec1]; exact c_dwc_4_4_0)) rfl rfl (Nat.le_of_ble_eq_true rfl) rfl ?_
  refine mB hT 9 rfl ?_
  refine mIf (fun hp => absurd hp (fun q => Int64.not_lt.mpr (lc_ge.mp q) hs)) (fun _ => ?_)
  refine mNf (lv2 := [(5, .long (detX 4 (clT 4 ly 0 df))), (4, .int 0), (0, .ref 1), (1, .ref 10), (2, .int 4), (3, .ref 27)]) (st2 := [.int 0, .ref 2]) rfl rfl ?_
  refine mB hT 3 rfl ?_
  refine mNf (lv2 := [(5, .long (detX 4 (clT 4 ly 0 df))), (4, .int 0), (0, .ref 1), (1, .ref 10), (2, .int 4), (3, .ref 27)]) (st2 := [.long (rr 0), .int 0, .ref 2]) rfl (by rw [hrr 0] <;> rfl) ?_
  refine mB hT 10 rfl ?_
  refine mWd (w2 := (XW n vs (absX dt) dt 4 (up ro 0 (rr 0)) c1 m1 ly B hd df)) rfl ?_
  refine hC.2.2 _ 1 [_, _] _ _ _ _ _ (show KX1_determinantWithColumn l D ca ad _ _ (some (.long (detX 4 (clT 4 ly 1 df)))) (XW n vs (absX dt) dt 4 (up ro 0 (rr 0)) c2 m2 ly B hd df) from (by rw [em2, ec2]; exact c_dwc_4_4_1)) rfl rfl (Nat.le_of_ble_eq_true rfl) rfl ?_
  refine mB hT 9 rfl ?_
  refine mIf (fun hp => absurd hp (fun q => Int64.not_lt.mpr (lc_ge.mp q) hs)) (fun _ => ?_)
  refine mNf (lv2 := [(5, .long (detX 4 (clT 4 ly 1 df))), (4, .int 1), (0, .ref 1), (1, .ref 10), (2, .int 4), (3, .ref 27)]) (st2 := [.int 1, .ref 2]) rfl rfl ?_
  refine mB hT 3 rfl ?_
  refine mNf (lv2 := [(5, .long (detX 4 (clT 4 ly 1 df))), (4, .int 1), (0, .ref 1), (1, .ref 10), (2, .int 4), (3, .ref 27)]) (st2 := [.long (rr 1), .int 1, .ref 2]) rfl (by rw [hrr 1] <;> rfl) ?_
  refine mB hT 10 rfl ?_
  refine mWd (w2 := (XW n vs (absX dt) dt 4 (up (up ro 0 (rr 0)) 1 (rr 1)) c2 m2 ly B hd df)) rfl ?_
  refine hC.2.2 _ 1 [_, _] _ _ _ _ _ (show KX1_determinantWithColumn l D ca ad _ _ (some (.long (detX 4 (clT 4 ly 2 df)))) (XW n vs (absX dt) dt 4 (up (up ro 0 (rr 0)) 1 (rr 1)) c3 m3 ly B hd df) from (by rw [em3, ec3]; exact c_dwc_4_4_2)) rfl rfl (Nat.le_of_ble_eq_true rfl) rfl ?_
  refine mB hT 9 rfl ?_
  refine mIf (fun hp => absurd hp (fun q => Int64.not_lt.mpr (lc_ge.mp q) hs)) (fun _ => ?_)
  refine mNf (lv2 := [(5, .long (detX 4 (clT 4 ly 2 df))), (4, .int 2), (0, .ref 1), (1, .ref 10), (2, .int 4), (3, .ref 27)]) (st2 := [.int 2, .ref 2]) rfl rfl ?_
  refine mB hT 3 rfl ?_
  refine mNf (lv2 := [(5, .long (detX 4 (clT 4 ly 2 df))), (4, .int 2), (0, .ref 1), (1, .ref 10), (2, .int 4), (3, .ref 27)]) (st2 := [.long (rr 2), .int 2, .ref 2]) rfl (by rw [hrr 2] <;> rfl) ?_
  refine mB hT 10 rfl ?_
  refine mWd (w2 := (XW n vs (absX dt) dt 4 (up (up (up ro 0 (rr 0)) 1 (rr 1)) 2 (rr 2)) c3 m3 ly B hd df)) rfl ?_
  refine hC.2.2 _ 1 [_, _] _ _ _ _ _ (show KX1_determinantWithColumn l D ca ad _ _ (some (.long (detX 4 (clT 4 ly 3 df)))) (XW n vs (absX dt) dt 4 (up (up (up ro 0 (rr 0)) 1 (rr 1)) 2 (rr 2)) c4 m4 ly B hd df) from (by rw [em4, ec4]; exact c_dwc_4_4_3)) rfl rfl (Nat.le_of_ble_eq_true rfl) rfl ?_
  refine mB hT 9 rfl ?_
  refine mIf (fun hp => absurd hp (fun q => Int64.not_lt.mpr (lc_ge.mp q) hs)) (fun _ => ?_)
  refine mNf (lv2 := [(5, .long (detX 4 (clT 4 ly 3 df))), (4, .int 3), (0, .ref 1), (1, .ref 10), (2, .int 4), (3, .ref 27)]) (st2 := [.int 3, .ref 2]) rfl rfl ?_
  refine mB hT 3 rfl ?_
  refine mNf (lv2 := [(5, .long (detX 4 (clT 4 ly 3 df))), (4, .int 3), (0, .ref 1), (1, .ref 10), (2, .int 4), (3, .ref 27)]) (st2 := [.long (rr 3), .int 3, .ref 2]) rfl (by rw [hrr 3] <;> rfl) ?_
  refine mB hT 8 rfl ?_
  exact hR _ (by decide) _ _ _ rfl rfl
theorem c_solve1_6_4_4 {n vs : Int32} {be de : Int64} {sz : Int32} {ro co mi : Nat → Int64} {T : Nat → Nat → Int64} {B : Nat → Nat → Nat → Int32} {hd : Nat → Nat → Int32} {df : Nat → Int32} (h0 : ¬ detX 4 (lyT 4 (B 6) T) = 0) : ∃ (de2 : Int64) (co2 mi2 : Nat → Int64) (T2 : Nat → Nat → Int64), KX1_solve l D ca ad [.ref 1, .ref 10, .int 4, .ref 27] (XW n vs be de sz ro co mi T B hd df) (some (.int 1)) (XW n vs (absX (detX 4 (lyT 4 (B 6) T))) de2 4 (roX 4 (lyT 4 (B 6) T) df ro) co2 mi2 T2 B hd df) := by
  by_cases hs : detX 4 (lyT 4 (B 6) T) < 0
  · obtain ⟨c2, m2, k⟩ := c_solve1_6_4_4n (rr := rdX 4 (lyT 4 (B 6) T) df) rfl rfl h0 hs (fun i => if_pos hs)
    exact ⟨_, c2, m2, _, k⟩
  · obtain ⟨c2, m2, k⟩ := c_solve1_6_4_4p (rr := rdX 4 (lyT 4 (B 6) T) df) rfl rfl h0 hs (fun i => if_neg hs)
    exact ⟨_, c2, m2, _, k⟩
set_option maxRecDepth 20000 in
theorem c_solve1_7_0_0p {n vs : Int32} {be de : Int64} {sz : Int32} {ro co mi : Nat → Int64} {T : Nat → Nat → Int64} {B : Nat → Nat → Nat → Int32} {hd : Nat → Nat → Int32} {df : Nat → Int32} {ly : Nat → Nat → Int64} {dt : Int64} {rr : Nat → Int64} (ely : ly = (lyT 0 (B 7) T)) (edt : dt = detX 0 ly) (h0 : ¬ dt = 0) : ∃ (co2 mi2 : Nat → Int64), KX1_solve l D ca ad [.ref 1, .ref 16, .int 0, .ref 23] (XW n vs be de sz ro co mi T B hd df) (some (.int 1)) (XW n vs (absX dt) dt 0 (roc 0 rr ro) co2 mi2 ly B hd df) := by
  obtain ⟨m0, em0⟩ : ∃ z, z = miX 0 ly mi := ⟨_, rfl⟩
  refine ⟨co, m0, ?_⟩
  refine PX1_solve (Nat.le_of_ble_eq_true rfl) (Or.inr rfl) ?_
  intro G hT hC hR
  refine mB hT 3 rfl ?_
  refine hC.1 _ 1 [_, _] _ _ _ _ _ (show KX1_layTable l D ca ad _ _ none (XW n vs be dt 0 ro co m0 ly B hd df) from (by rw [em0, edt, ely]; exact c_lay_7_0)) rfl rfl (Nat.le_of_ble_eq_true rfl) rfl ?_
  refine mB hT 5 rfl ?_
  refine mIf (fun hp => absurd hp (fun q => h0 (lc_eq.mp q))) (fun _ => ?_)
  refine mB hT 3 rfl ?_
  refine hC.2.1 _ [_] _ _ _ _ (c_abs _) rfl (Nat.le_of_ble_eq_true rfl) rfl ?_
  refine mB hT 8 rfl ?_
  exact hR _ (by decide) _ _ _ rfl rfl
theorem c_solve1_7_0_0 {n vs : Int32} {be de : Int64} {sz : Int32} {ro co mi : Nat → Int64} {T : Nat → Nat → Int64} {B : Nat → Nat → Nat → Int32} {hd : Nat → Nat → Int32} {df : Nat → Int32} (h0 : ¬ detX 0 (lyT 0 (B 7) T) = 0) : ∃ (de2 : Int64) (co2 mi2 : Nat → Int64) (T2 : Nat → Nat → Int64), KX1_solve l D ca ad [.ref 1, .ref 16, .int 0, .ref 23] (XW n vs be de sz ro co mi T B hd df) (some (.int 1)) (XW n vs (absX (detX 0 (lyT 0 (B 7) T))) de2 0 (roX 0 (lyT 0 (B 7) T) (hd 0) ro) co2 mi2 T2 B hd df) := by
  obtain ⟨c2, m2, k⟩ := c_solve1_7_0_0p (rr := rdX 0 (lyT 0 (B 7) T) (hd 0)) rfl rfl h0
  exact ⟨_, c2, m2, _, k⟩
set_option maxRecDepth 20000 in
theorem c_solve1_7_0_1p {n vs : Int32} {be de : Int64} {sz : Int32} {ro co mi : Nat → Int64} {T : Nat → Nat → Int64} {B : Nat → Nat → Nat → Int32} {hd : Nat → Nat → Int32} {df : Nat → Int32} {ly : Nat → Nat → Int64} {dt : Int64} {rr : Nat → Int64} (ely : ly = (lyT 0 (B 7) T)) (edt : dt = detX 0 ly) (h0 : ¬ dt = 0) : ∃ (co2 mi2 : Nat → Int64), KX1_solve l D ca ad [.ref 1, .ref 16, .int 0, .ref 24] (XW n vs be de sz ro co mi T B hd df) (some (.int 1)) (XW n vs (absX dt) dt 0 (roc 0 rr ro) co2 mi2 ly B hd df) := by
  obtain ⟨m0, em0⟩ : ∃ z, z = miX 0 ly mi := ⟨_, rfl⟩
  refine ⟨co, m0, ?_⟩
  refine PX1_solve (Nat.le_of_ble_eq_true rfl) (Or.inr rfl) ?_
  intro G hT hC hR
  refine mB hT 3 rfl ?_
  refine hC.1 _ 1 [_, _] _ _ _ _ _ (show KX1_layTable l D ca ad _ _ none (XW n vs be dt 0 ro co m0 ly B hd df) from (by rw [em0, edt, ely]; exact c_lay_7_0)) rfl rfl (Nat.le_of_ble_eq_true rfl) rfl ?_
  refine mB hT 5 rfl ?_
  refine mIf (fun hp => absurd hp (fun q => h0 (lc_eq.mp q))) (fun _ => ?_)
  refine mB hT 3 rfl ?_
  refine hC.2.1 _ [_] _ _ _ _ (c_abs _) rfl (Nat.le_of_ble_eq_true rfl) rfl ?_
  refine mB hT 8 rfl ?_
  exact hR _ (by decide) _ _ _ rfl rfl
theorem c_solve1_7_0_1 {n vs : Int32} {be de : Int64} {sz : Int32} {ro co mi : Nat → Int64} {T : Nat → Nat → Int64} {B : Nat → Nat → Nat → Int32} {hd : Nat → Nat → Int32} {df : Nat → Int32} (h0 : ¬ detX 0 (lyT 0 (B 7) T) = 0) : ∃ (de2 : Int64) (co2 mi2 : Nat → Int64) (T2 : Nat → Nat → Int64), KX1_solve l D ca ad [.ref 1, .ref 16, .int 0, .ref 24] (XW n vs be de sz ro co mi T B hd df) (some (.int 1)) (XW n vs (absX (detX 0 (lyT 0 (B 7) T))) de2 0 (roX 0 (lyT 0 (B 7) T) (hd 1) ro) co2 mi2 T2 B hd df) := by
  obtain ⟨c2, m2, k⟩ := c_solve1_7_0_1p (rr := rdX 0 (lyT 0 (B 7) T) (hd 1)) rfl rfl h0
  exact ⟨_, c2, m2, _, k⟩
set_option maxRecDepth 20000 in
theorem c_solve1_7_0_2p {n vs : Int32} {be de : Int64} {sz : Int32} {ro co mi : Nat → Int64} {T : Nat → Nat → Int64} {B : Nat → Nat → Nat → Int32} {hd : Nat → Nat → Int32} {df : Nat → Int32} {ly : Nat → Nat → Int64} {dt : Int64} {rr : Nat → Int64} (ely : ly = (lyT 0 (B 7) T)) (edt : dt = detX 0 ly) (h0 : ¬ dt = 0) : ∃ (co2 mi2 : Nat → Int64), KX1_solve l D ca ad [.ref 1, .ref 16, .int 0, .ref 25] (XW n vs be de sz ro co mi T B hd df) (some (.int 1)) (XW n vs (absX dt) dt 0 (roc 0 rr ro) co2 mi2 ly B hd df) := by
  obtain ⟨m0, em0⟩ : ∃ z, z = miX 0 ly mi := ⟨_, rfl⟩
  refine ⟨co, m0, ?_⟩
  refine PX1_solve (Nat.le_of_ble_eq_true rfl) (Or.inr rfl) ?_
  intro G hT hC hR
  refine mB hT 3 rfl ?_
  refine hC.1 _ 1 [_, _] _ _ _ _ _ (show KX1_layTable l D ca ad _ _ none (XW n vs be dt 0 ro co m0 ly B hd df) from (by rw [em0, edt, ely]; exact c_lay_7_0)) rfl rfl (Nat.le_of_ble_eq_true rfl) rfl ?_
  refine mB hT 5 rfl ?_
  refine mIf (fun hp => absurd hp (fun q => h0 (lc_eq.mp q))) (fun _ => ?_)
  refine mB hT 3 rfl ?_
  refine hC.2.1 _ [_] _ _ _ _ (c_abs _) rfl (Nat.le_of_ble_eq_true rfl) rfl ?_
  refine mB hT 8 rfl ?_
  exact hR _ (by decide) _ _ _ rfl rfl
theorem c_solve1_7_0_2 {n vs : Int32} {be de : Int64} {sz : Int32} {ro co mi : Nat → Int64} {T : Nat → Nat → Int64} {B : Nat → Nat → Nat → Int32} {hd : Nat → Nat → Int32} {df : Nat → Int32} (h0 : ¬ detX 0 (lyT 0 (B 7) T) = 0) : ∃ (de2 : Int64) (co2 mi2 : Nat → Int64) (T2 : Nat → Nat → Int64), KX1_solve l D ca ad [.ref 1, .ref 16, .int 0, .ref 25] (XW n vs be de sz ro co mi T B hd df) (some (.int 1)) (XW n vs (absX (detX 0 (lyT 0 (B 7) T))) de2 0 (roX 0 (lyT 0 (B 7) T) (hd 2) ro) co2 mi2 T2 B hd df) := by
  obtain ⟨c2, m2, k⟩ := c_solve1_7_0_2p (rr := rdX 0 (lyT 0 (B 7) T) (hd 2)) rfl rfl h0
  exact ⟨_, c2, m2, _, k⟩
set_option maxRecDepth 20000 in
theorem c_solve1_7_0_3p {n vs : Int32} {be de : Int64} {sz : Int32} {ro co mi : Nat → Int64} {T : Nat → Nat → Int64} {B : Nat → Nat → Nat → Int32} {hd : Nat → Nat → Int32} {df : Nat → Int32} {ly : Nat → Nat → Int64} {dt : Int64} {rr : Nat → Int64} (ely : ly = (lyT 0 (B 7) T)) (edt : dt = detX 0 ly) (h0 : ¬ dt = 0) : ∃ (co2 mi2 : Nat → Int64), KX1_solve l D ca ad [.ref 1, .ref 16, .int 0, .ref 26] (XW n vs be de sz ro co mi T B hd df) (some (.int 1)) (XW n vs (absX dt) dt 0 (roc 0 rr ro) co2 mi2 ly B hd df) := by
  obtain ⟨m0, em0⟩ : ∃ z, z = miX 0 ly mi := ⟨_, rfl⟩
  refine ⟨co, m0, ?_⟩
  refine PX1_solve (Nat.le_of_ble_eq_true rfl) (Or.inr rfl) ?_
  intro G hT hC hR
  refine mB hT 3 rfl ?_
  refine hC.1 _ 1 [_, _] _ _ _ _ _ (show KX1_layTable l D ca ad _ _ none (XW n vs be dt 0 ro co m0 ly B hd df) from (by rw [em0, edt, ely]; exact c_lay_7_0)) rfl rfl (Nat.le_of_ble_eq_true rfl) rfl ?_
  refine mB hT 5 rfl ?_
  refine mIf (fun hp => absurd hp (fun q => h0 (lc_eq.mp q))) (fun _ => ?_)
  refine mB hT 3 rfl ?_
  refine hC.2.1 _ [_] _ _ _ _ (c_abs _) rfl (Nat.le_of_ble_eq_true rfl) rfl ?_
  refine mB hT 8 rfl ?_
  exact hR _ (by decide) _ _ _ rfl rfl
theorem c_solve1_7_0_3 {n vs : Int32} {be de : Int64} {sz : Int32} {ro co mi : Nat → Int64} {T : Nat → Nat → Int64} {B : Nat → Nat → Nat → Int32} {hd : Nat → Nat → Int32} {df : Nat → Int32} (h0 : ¬ detX 0 (lyT 0 (B 7) T) = 0) : ∃ (de2 : Int64) (co2 mi2 : Nat → Int64) (T2 : Nat → Nat → Int64), KX1_solve l D ca ad [.ref 1, .ref 16, .int 0, .ref 26] (XW n vs be de sz ro co mi T B hd df) (some (.int 1)) (XW n vs (absX (detX 0 (lyT 0 (B 7) T))) de2 0 (roX 0 (lyT 0 (B 7) T) (hd 3) ro) co2 mi2 T2 B hd df) := by
  obtain ⟨c2, m2, k⟩ := c_solve1_7_0_3p (rr := rdX 0 (lyT 0 (B 7) T) (hd 3)) rfl rfl h0
  exact ⟨_, c2, m2, _, k⟩
set_option maxRecDepth 20000 in
theorem c_solve1_7_0_4p {n vs : Int32} {be de : Int64} {sz : Int32} {ro co mi : Nat → Int64} {T : Nat → Nat → Int64} {B : Nat → Nat → Nat → Int32} {hd : Nat → Nat → Int32} {df : Nat → Int32} {ly : Nat → Nat → Int64} {dt : Int64} {rr : Nat → Int64} (ely : ly = (lyT 0 (B 7) T)) (edt : dt = detX 0 ly) (h0 : ¬ dt = 0) : ∃ (co2 mi2 : Nat → Int64), KX1_solve l D ca ad [.ref 1, .ref 16, .int 0, .ref 27] (XW n vs be de sz ro co mi T B hd df) (some (.int 1)) (XW n vs (absX dt) dt 0 (roc 0 rr ro) co2 mi2 ly B hd df) := by
  obtain ⟨m0, em0⟩ : ∃ z, z = miX 0 ly mi := ⟨_, rfl⟩
  refine ⟨co, m0, ?_⟩
  refine PX1_solve (Nat.le_of_ble_eq_true rfl) (Or.inr rfl) ?_
  intro G hT hC hR
  refine mB hT 3 rfl ?_
  refine hC.1 _ 1 [_, _] _ _ _ _ _ (show KX1_layTable l D ca ad _ _ none (XW n vs be dt 0 ro co m0 ly B hd df) from (by rw [em0, edt, ely]; exact c_lay_7_0)) rfl rfl (Nat.le_of_ble_eq_true rfl) rfl ?_
  refine mB hT 5 rfl ?_
  refine mIf (fun hp => absurd hp (fun q => h0 (lc_eq.mp q))) (fun _ => ?_)
  refine mB hT 3 rfl ?_
  refine hC.2.1 _ [_] _ _ _ _ (c_abs _) rfl (Nat.le_of_ble_eq_true rfl) rfl ?_
  refine mB hT 8 rfl ?_
  exact hR _ (by decide) _ _ _ rfl rfl
theorem c_solve1_7_0_4 {n vs : Int32} {be de : Int64} {sz : Int32} {ro co mi : Nat → Int64} {T : Nat → Nat → Int64} {B : Nat → Nat → Nat → Int32} {hd : Nat → Nat → Int32} {df : Nat → Int32} (h0 : ¬ detX 0 (lyT 0 (B 7) T) = 0) : ∃ (de2 : Int64) (co2 mi2 : Nat → Int64) (T2 : Nat → Nat → Int64), KX1_solve l D ca ad [.ref 1, .ref 16, .int 0, .ref 27] (XW n vs be de sz ro co mi T B hd df) (some (.int 1)) (XW n vs (absX (detX 0 (lyT 0 (B 7) T))) de2 0 (roX 0 (lyT 0 (B 7) T) df ro) co2 mi2 T2 B hd df) := by
  obtain ⟨c2, m2, k⟩ := c_solve1_7_0_4p (rr := rdX 0 (lyT 0 (B 7) T) df) rfl rfl h0
  exact ⟨_, c2, m2, _, k⟩
theorem c_solve0_7_1_0 {n vs : Int32} {be de : Int64} {sz : Int32} {ro co mi : Nat → Int64} {T : Nat → Nat → Int64} {B : Nat → Nat → Nat → Int32} {hd : Nat → Nat → Int32} {df : Nat → Int32} (h0 : detX 1 (lyT 1 (B 7) T) = 0) : ∃ (de2 : Int64) (mi2 : Nat → Int64) (T2 : Nat → Nat → Int64), KX1_solve l D ca ad [.ref 1, .ref 16, .int 1, .ref 23] (XW n vs be de sz ro co mi T B hd df) (some (.int 0)) (XW n vs be de2 1 ro co mi2 T2 B hd df) := by
  obtain ⟨ly, ely⟩ : ∃ z, z = (lyT 1 (B 7) T) := ⟨_, rfl⟩
  rw [← ely] at h0
  obtain ⟨dt, edt⟩ : ∃ z, z = detX 1 ly := ⟨_, rfl⟩
  rw [← edt] at h0
  obtain ⟨m0, em0⟩ : ∃ z, z = miX 1 ly mi := ⟨_, rfl⟩
  refine ⟨dt, m0, ly, ?_⟩
  refine PX1_solve (Nat.le_of_ble_eq_true rfl) (Or.inl rfl) ?_
  intro G hT hC hR
  refine mB hT 3 rfl ?_
  refine hC.1 _ 1 [_, _] _ _ _ _ _ (show KX1_layTable l D ca ad _ _ none (XW n vs be dt 1 ro co m0 ly B hd df) from (by rw [em0, edt, ely]; exact c_lay_7_1)) rfl rfl (Nat.le_of_ble_eq_true rfl) rfl ?_
  refine mB hT 5 rfl ?_
  refine mIf (fun _ => ?_) (fun hn => absurd (lc_eq.mpr h0) hn)
  refine mB hT 1 rfl ?_
  exact hR _ (by decide) _ _ _ rfl rfl
set_option maxRecDepth 20000 in
theorem c_solve1_7_1_0p {n vs : Int32} {be de : Int64} {sz : Int32} {ro co mi : Nat → Int64} {T : Nat → Nat → Int64} {B : Nat → Nat → Nat → Int32} {hd : Nat → Nat → Int32} {df : Nat → Int32} {ly : Nat → Nat → Int64} {dt : Int64} {rr : Nat → Int64} (ely : ly = (lyT 1 (B 7) T)) (edt : dt = detX 1 ly) (h0 : ¬ dt = 0) (hs : ¬ dt < 0) (hrr : ∀ i : Nat, rr i = detX 1 (clT 1 ly i (hd 0))) : ∃ (co2 mi2 : Nat → Int64), KX1_solve l D ca ad [.ref 1, .ref 16, .int 1, .ref 23] (XW n vs be de sz ro co mi T B hd df) (some (.int 1)) (XW n vs (absX dt) dt 1 (roc 1 rr ro) co2 mi2 ly B hd df) := by
  obtain ⟨m0, em0⟩ : ∃ z, z = miX 1 ly mi := ⟨_, rfl⟩
  obtain ⟨c1, ec1⟩ : ∃ z, z = coT 1 ly 0 co := ⟨_, rfl⟩
  obtain ⟨m1, em1⟩ : ∃ z, z = miX 1 (clT 1 ly 0 (hd 0)) m0 := ⟨_, rfl⟩
  refine ⟨c1, m1, ?_⟩
  refine PX1_solve (Nat.le_of_ble_eq_true rfl) (Or.inr rfl) ?_
  intro G hT hC hR
  refine mB hT 3 rfl ?_
  refine hC.1 _ 1 [_, _] _ _ _ _ _ (show KX1_layTable l D ca ad _ _ none (XW n vs be dt 1 ro co m0 ly B hd df) from (by rw [em0, edt, ely]; exact c_lay_7_1)) rfl rfl (Nat.le_of_ble_eq_true rfl) rfl ?_
  refine mB hT 5 rfl ?_
  refine mIf (fun hp => absurd hp (fun q => h0 (lc_eq.mp q))) (fun _ => ?_)
  refine mB hT 3 rfl ?_
  refine hC.2.1 _ [_] _ _ _ _ (c_abs _) rfl (Nat.le_of_ble_eq_true rfl) rfl ?_
  refine mB hT 10 rfl ?_
  refine mWd (w2 := (XW n vs (absX dt) dt 1 ro co m0 ly B hd df)) rfl ?_
  refine hC.2.2 _ 1 [_, _] _ _ _ _ _ (show KX1_determinantWithColumn l D ca ad _ _ (some (.long (detX 1 (clT 1 ly 0 (hd 0))))) (XW n vs (absX dt) dt 1 ro c1 m1 ly B hd df) from (by rw [em1, ec1]; exact c_dwc_0_1_0)) rfl rfl (Nat.le_of_ble_eq_true rfl) rfl ?_
  refine mB hT 9 rfl ?_
  refine mIf (fun _ => ?_) (fun hn => absurd (lc_ge.mpr (Int64.not_lt.mp hs)) hn)
  refine mNf (lv2 := [(5, .long (detX 1 (clT 1 ly 0 (hd 0)))), (4, .int 0), (0, .ref 1), (1, .ref 16), (2, .int 1), (3, .ref 23)]) (st2 := [.int 0, .ref 2]) rfl rfl ?_
  refine mB hT 1 rfl ?_
  refine mNf (lv2 := [(5, .long (detX 1 (clT 1 ly 0 (hd 0)))), (4, .int 0), (0, .ref 1), (1, .ref 16), (2, .int 1), (3, .ref 23)]) (st2 := [.long (rr 0), .int 0, .ref 2]) rfl (by rw [hrr 0] <;> rfl) ?_
  refine mB hT 8 rfl ?_
  exact hR _ (by decide) _ _ _ rfl rfl
set_option maxRecDepth 20000 in
theorem c_solve1_7_1_0n {n vs : Int32} {be de : Int64} {sz : Int32} {ro co mi : Nat → Int64} {T : Nat → Nat → Int64} {B : Nat → Nat → Nat → Int32} {hd : Nat → Nat → Int32} {df : Nat → Int32} {ly : Nat → Nat → Int64} {dt : Int64} {rr : Nat → Int64} (ely : ly = (lyT 1 (B 7) T)) (edt : dt = detX 1 ly) (h0 : ¬ dt = 0) (hs : dt < 0) (hrr : ∀ i : Nat, rr i = -(detX 1 (clT 1 ly i (hd 0)))) : ∃ (co2 mi2 : Nat → Int64), KX1_solve l D ca ad [.ref 1, .ref 16, .int 1, .ref 23] (XW n vs be de sz ro co mi T B hd df) (some (.int 1)) (XW n vs (absX dt) dt 1 (roc 1 rr ro) co2 mi2 ly B hd df) := by
  obtain ⟨m0, em0⟩ : ∃ z, z = miX 1 ly mi := ⟨_, rfl⟩
  obtain ⟨c1, ec1⟩ : ∃ z, z = coT 1 ly 0 co := ⟨_, rfl⟩
  obtain ⟨m1, em1⟩ : ∃ z, z = miX 1 (clT 1 ly 0 (hd 0)) m0 := ⟨_, rfl⟩
  refine ⟨c1, m1, ?_⟩
  refine PX1_solve (Nat.le_of_ble_eq_true rfl) (Or.inr rfl) ?_
  intro G hT hC hR
  refine mB hT 3 rfl ?_
  refine hC.1 _ 1 [_, _] _ _ _ _ _ (show KX1_layTable l D ca ad _ _ none (XW n vs be dt 1 ro co m0 ly B hd df) from (by rw [em0, edt, ely]; exact c_lay_7_1)) rfl rfl (Nat.le_of_ble_eq_true rfl) rfl ?_
  refine mB hT 5 rfl ?_
  refine mIf (fun hp => absurd hp (fun q => h0 (lc_eq.mp q))) (fun _ => ?_)
  refine mB hT 3 rfl ?_
  refine hC.2.1 _ [_] _ _ _ _ (c_abs _) rfl (Nat.le_of_ble_eq_true rfl) rfl ?_
  refine mB hT 10 rfl ?_
  refine mWd (w2 := (XW n vs (absX dt) dt 1 ro co m0 ly B hd df)) rfl ?_
  refine hC.2.2 _ 1 [_, _] _ _ _ _ _ (show KX1_determinantWithColumn l D ca ad _ _ (some (.long (detX 1 (clT 1 ly 0 (hd 0))))) (XW n vs (absX dt) dt 1 ro c1 m1 ly B hd df) from (by rw [em1, ec1]; exact c_dwc_0_1_0)) rfl rfl (Nat.le_of_ble_eq_true rfl) rfl ?_
  refine mB hT 9 rfl ?_
  refine mIf (fun hp => absurd hp (fun q => Int64.not_lt.mpr (lc_ge.mp q) hs)) (fun _ => ?_)
  refine mNf (lv2 := [(5, .long (detX 1 (clT 1 ly 0 (hd 0)))), (4, .int 0), (0, .ref 1), (1, .ref 16), (2, .int 1), (3, .ref 23)]) (st2 := [.int 0, .ref 2]) rfl rfl ?_
  refine mB hT 3 rfl ?_
  refine mNf (lv2 := [(5, .long (detX 1 (clT 1 ly 0 (hd 0)))), (4, .int 0), (0, .ref 1), (1, .ref 16), (2, .int 1), (3, .ref 23)]) (st2 := [.long (rr 0), .int 0, .ref 2]) rfl (by rw [hrr 0] <;> rfl) ?_
  refine mB hT 8 rfl ?_
  exact hR _ (by decide) _ _ _ rfl rfl
theorem c_solve1_7_1_0 {n vs : Int32} {be de : Int64} {sz : Int32} {ro co mi : Nat → Int64} {T : Nat → Nat → Int64} {B : Nat → Nat → Nat → Int32} {hd : Nat → Nat → Int32} {df : Nat → Int32} (h0 : ¬ detX 1 (lyT 1 (B 7) T) = 0) : ∃ (de2 : Int64) (co2 mi2 : Nat → Int64) (T2 : Nat → Nat → Int64), KX1_solve l D ca ad [.ref 1, .ref 16, .int 1, .ref 23] (XW n vs be de sz ro co mi T B hd df) (some (.int 1)) (XW n vs (absX (detX 1 (lyT 1 (B 7) T))) de2 1 (roX 1 (lyT 1 (B 7) T) (hd 0) ro) co2 mi2 T2 B hd df) := by
  by_cases hs : detX 1 (lyT 1 (B 7) T) < 0
  · obtain ⟨c2, m2, k⟩ := c_solve1_7_1_0n (rr := rdX 1 (lyT 1 (B 7) T) (hd 0)) rfl rfl h0 hs (fun i => if_pos hs)
    exact ⟨_, c2, m2, _, k⟩
  · obtain ⟨c2, m2, k⟩ := c_solve1_7_1_0p (rr := rdX 1 (lyT 1 (B 7) T) (hd 0)) rfl rfl h0 hs (fun i => if_neg hs)
    exact ⟨_, c2, m2, _, k⟩
theorem c_solve0_7_1_1 {n vs : Int32} {be de : Int64} {sz : Int32} {ro co mi : Nat → Int64} {T : Nat → Nat → Int64} {B : Nat → Nat → Nat → Int32} {hd : Nat → Nat → Int32} {df : Nat → Int32} (h0 : detX 1 (lyT 1 (B 7) T) = 0) : ∃ (de2 : Int64) (mi2 : Nat → Int64) (T2 : Nat → Nat → Int64), KX1_solve l D ca ad [.ref 1, .ref 16, .int 1, .ref 24] (XW n vs be de sz ro co mi T B hd df) (some (.int 0)) (XW n vs be de2 1 ro co mi2 T2 B hd df) := by
  obtain ⟨ly, ely⟩ : ∃ z, z = (lyT 1 (B 7) T) := ⟨_, rfl⟩
  rw [← ely] at h0
  obtain ⟨dt, edt⟩ : ∃ z, z = detX 1 ly := ⟨_, rfl⟩
  rw [← edt] at h0
  obtain ⟨m0, em0⟩ : ∃ z, z = miX 1 ly mi := ⟨_, rfl⟩
  refine ⟨dt, m0, ly, ?_⟩
  refine PX1_solve (Nat.le_of_ble_eq_true rfl) (Or.inl rfl) ?_
  intro G hT hC hR
  refine mB hT 3 rfl ?_
  refine hC.1 _ 1 [_, _] _ _ _ _ _ (show KX1_layTable l D ca ad _ _ none (XW n vs be dt 1 ro co m0 ly B hd df) from (by rw [em0, edt, ely]; exact c_lay_7_1)) rfl rfl (Nat.le_of_ble_eq_true rfl) rfl ?_
  refine mB hT 5 rfl ?_
  refine mIf (fun _ => ?_) (fun hn => absurd (lc_eq.mpr h0) hn)
  refine mB hT 1 rfl ?_
  exact hR _ (by decide) _ _ _ rfl rfl
set_option maxRecDepth 20000 in
theorem c_solve1_7_1_1p {n vs : Int32} {be de : Int64} {sz : Int32} {ro co mi : Nat → Int64} {T : Nat → Nat → Int64} {B : Nat → Nat → Nat → Int32} {hd : Nat → Nat → Int32} {df : Nat → Int32} {ly : Nat → Nat → Int64} {dt : Int64} {rr : Nat → Int64} (ely : ly = (lyT 1 (B 7) T)) (edt : dt = detX 1 ly) (h0 : ¬ dt = 0) (hs : ¬ dt < 0) (hrr : ∀ i : Nat, rr i = detX 1 (clT 1 ly i (hd 1))) : ∃ (co2 mi2 : Nat → Int64), KX1_solve l D ca ad [.ref 1, .ref 16, .int 1, .ref 24] (XW n vs be de sz ro co mi T B hd df) (some (.int 1)) (XW n vs (absX dt) dt 1 (roc 1 rr ro) co2 mi2 ly B hd df) := by
  obtain ⟨m0, em0⟩ : ∃ z, z = miX 1 ly mi := ⟨_, rfl⟩
  obtain ⟨c1, ec1⟩ : ∃ z, z = coT 1 ly 0 co := ⟨_, rfl⟩
  obtain ⟨m1, em1⟩ : ∃ z, z = miX 1 (clT 1 ly 0 (hd 1)) m0 := ⟨_, rfl⟩
  refine ⟨c1, m1, ?_⟩
  refine PX1_solve (Nat.le_of_ble_eq_true rfl) (Or.inr rfl) ?_
  intro G hT hC hR
  refine mB hT 3 rfl ?_
  refine hC.1 _ 1 [_, _] _ _ _ _ _ (show KX1_layTable l D ca ad _ _ none (XW n vs be dt 1 ro co m0 ly B hd df) from (by rw [em0, edt, ely]; exact c_lay_7_1)) rfl rfl (Nat.le_of_ble_eq_true rfl) rfl ?_
  refine mB hT 5 rfl ?_
  refine mIf (fun hp => absurd hp (fun q => h0 (lc_eq.mp q))) (fun _ => ?_)
  refine mB hT 3 rfl ?_
  refine hC.2.1 _ [_] _ _ _ _ (c_abs _) rfl (Nat.le_of_ble_eq_true rfl) rfl ?_
  refine mB hT 10 rfl ?_
  refine mWd (w2 := (XW n vs (absX dt) dt 1 ro co m0 ly B hd df)) rfl ?_
  refine hC.2.2 _ 1 [_, _] _ _ _ _ _ (show KX1_determinantWithColumn l D ca ad _ _ (some (.long (detX 1 (clT 1 ly 0 (hd 1))))) (XW n vs (absX dt) dt 1 ro c1 m1 ly B hd df) from (by rw [em1, ec1]; exact c_dwc_1_1_0)) rfl rfl (Nat.le_of_ble_eq_true rfl) rfl ?_
  refine mB hT 9 rfl ?_
  refine mIf (fun _ => ?_) (fun hn => absurd (lc_ge.mpr (Int64.not_lt.mp hs)) hn)
  refine mNf (lv2 := [(5, .long (detX 1 (clT 1 ly 0 (hd 1)))), (4, .int 0), (0, .ref 1), (1, .ref 16), (2, .int 1), (3, .ref 24)]) (st2 := [.int 0, .ref 2]) rfl rfl ?_
  refine mB hT 1 rfl ?_
  refine mNf (lv2 := [(5, .long (detX 1 (clT 1 ly 0 (hd 1)))), (4, .int 0), (0, .ref 1), (1, .ref 16), (2, .int 1), (3, .ref 24)]) (st2 := [.long (rr 0), .int 0, .ref 2]) rfl (by rw [hrr 0] <;> rfl) ?_
  refine mB hT 8 rfl ?_
  exact hR _ (by decide) _ _ _ rfl rfl
set_option maxRecDepth 20000 in
theorem c_solve1_7_1_1n {n vs : Int32} {be de : Int64} {sz : Int32} {ro co mi : Nat → Int64} {T : Nat → Nat → Int64} {B : Nat → Nat → Nat → Int32} {hd : Nat → Nat → Int32} {df : Nat → Int32} {ly : Nat → Nat → Int64} {dt : Int64} {rr : Nat → Int64} (ely : ly = (lyT 1 (B 7) T)) (edt : dt = detX 1 ly) (h0 : ¬ dt = 0) (hs : dt < 0) (hrr : ∀ i : Nat, rr i = -(detX 1 (clT 1 ly i (hd 1)))) : ∃ (co2 mi2 : Nat → Int64), KX1_solve l D ca ad [.ref 1, .ref 16, .int 1, .ref 24] (XW n vs be de sz ro co mi T B hd df) (some (.int 1)) (XW n vs (absX dt) dt 1 (roc 1 rr ro) co2 mi2 ly B hd df) := by
  obtain ⟨m0, em0⟩ : ∃ z, z = miX 1 ly mi := ⟨_, rfl⟩
  obtain ⟨c1, ec1⟩ : ∃ z, z = coT 1 ly 0 co := ⟨_, rfl⟩
  obtain ⟨m1, em1⟩ : ∃ z, z = miX 1 (clT 1 ly 0 (hd 1)) m0 := ⟨_, rfl⟩
  refine ⟨c1, m1, ?_⟩
  refine PX1_solve (Nat.le_of_ble_eq_true rfl) (Or.inr rfl) ?_
  intro G hT hC hR
  refine mB hT 3 rfl ?_
  refine hC.1 _ 1 [_, _] _ _ _ _ _ (show KX1_layTable l D ca ad _ _ none (XW n vs be dt 1 ro co m0 ly B hd df) from (by rw [em0, edt, ely]; exact c_lay_7_1)) rfl rfl (Nat.le_of_ble_eq_true rfl) rfl ?_
  refine mB hT 5 rfl ?_
  refine mIf (fun hp => absurd hp (fun q => h0 (lc_eq.mp q))) (fun _ => ?_)
  refine mB hT 3 rfl ?_
  refine hC.2.1 _ [_] _ _ _ _ (c_abs _) rfl (Nat.le_of_ble_eq_true rfl) rfl ?_
  refine mB hT 10 rfl ?_
  refine mWd (w2 := (XW n vs (absX dt) dt 1 ro co m0 ly B hd df)) rfl ?_
  refine hC.2.2 _ 1 [_, _] _ _ _ _ _ (show KX1_determinantWithColumn l D ca ad _ _ (some (.long (detX 1 (clT 1 ly 0 (hd 1))))) (XW n vs (absX dt) dt 1 ro c1 m1 ly B hd df) from (by rw [em1, ec1]; exact c_dwc_1_1_0)) rfl rfl (Nat.le_of_ble_eq_true rfl) rfl ?_
  refine mB hT 9 rfl ?_
  refine mIf (fun hp => absurd hp (fun q => Int64.not_lt.mpr (lc_ge.mp q) hs)) (fun _ => ?_)
  refine mNf (lv2 := [(5, .long (detX 1 (clT 1 ly 0 (hd 1)))), (4, .int 0), (0, .ref 1), (1, .ref 16), (2, .int 1), (3, .ref 24)]) (st2 := [.int 0, .ref 2]) rfl rfl ?_
  refine mB hT 3 rfl ?_
  refine mNf (lv2 := [(5, .long (detX 1 (clT 1 ly 0 (hd 1)))), (4, .int 0), (0, .ref 1), (1, .ref 16), (2, .int 1), (3, .ref 24)]) (st2 := [.long (rr 0), .int 0, .ref 2]) rfl (by rw [hrr 0] <;> rfl) ?_
  refine mB hT 8 rfl ?_
  exact hR _ (by decide) _ _ _ rfl rfl
theorem c_solve1_7_1_1 {n vs : Int32} {be de : Int64} {sz : Int32} {ro co mi : Nat → Int64} {T : Nat → Nat → Int64} {B : Nat → Nat → Nat → Int32} {hd : Nat → Nat → Int32} {df : Nat → Int32} (h0 : ¬ detX 1 (lyT 1 (B 7) T) = 0) : ∃ (de2 : Int64) (co2 mi2 : Nat → Int64) (T2 : Nat → Nat → Int64), KX1_solve l D ca ad [.ref 1, .ref 16, .int 1, .ref 24] (XW n vs be de sz ro co mi T B hd df) (some (.int 1)) (XW n vs (absX (detX 1 (lyT 1 (B 7) T))) de2 1 (roX 1 (lyT 1 (B 7) T) (hd 1) ro) co2 mi2 T2 B hd df) := by
  by_cases hs : detX 1 (lyT 1 (B 7) T) < 0
  · obtain ⟨c2, m2, k⟩ := c_solve1_7_1_1n (rr := rdX 1 (lyT 1 (B 7) T) (hd 1)) rfl rfl h0 hs (fun i => if_pos hs)
    exact ⟨_, c2, m2, _, k⟩
  · obtain ⟨c2, m2, k⟩ := c_solve1_7_1_1p (rr := rdX 1 (lyT 1 (B 7) T) (hd 1)) rfl rfl h0 hs (fun i => if_neg hs)
    exact ⟨_, c2, m2, _, k⟩
theorem c_solve0_7_1_2 {n vs : Int32} {be de : Int64} {sz : Int32} {ro co mi : Nat → Int64} {T : Nat → Nat → Int64} {B : Nat → Nat → Nat → Int32} {hd : Nat → Nat → Int32} {df : Nat → Int32} (h0 : detX 1 (lyT 1 (B 7) T) = 0) : ∃ (de2 : Int64) (mi2 : Nat → Int64) (T2 : Nat → Nat → Int64), KX1_solve l D ca ad [.ref 1, .ref 16, .int 1, .ref 25] (XW n vs be de sz ro co mi T B hd df) (some (.int 0)) (XW n vs be de2 1 ro co mi2 T2 B hd df) := by
  obtain ⟨ly, ely⟩ : ∃ z, z = (lyT 1 (B 7) T) := ⟨_, rfl⟩
  rw [← ely] at h0
  obtain ⟨dt, edt⟩ : ∃ z, z = detX 1 ly := ⟨_, rfl⟩
  rw [← edt] at h0
  obtain ⟨m0, em0⟩ : ∃ z, z = miX 1 ly mi := ⟨_, rfl⟩
  refine ⟨dt, m0, ly, ?_⟩
  refine PX1_solve (Nat.le_of_ble_eq_true rfl) (Or.inl rfl) ?_
  intro G hT hC hR
  refine mB hT 3 rfl ?_
  refine hC.1 _ 1 [_, _] _ _ _ _ _ (show KX1_layTable l D ca ad _ _ none (XW n vs be dt 1 ro co m0 ly B hd df) from (by rw [em0, edt, ely]; exact c_lay_7_1)) rfl rfl (Nat.le_of_ble_eq_true rfl) rfl ?_
  refine mB hT 5 rfl ?_
  refine mIf (fun _ => ?_) (fun hn => absurd (lc_eq.mpr h0) hn)
  refine mB hT 1 rfl ?_
  exact hR _ (by decide) _ _ _ rfl rfl
set_option maxRecDepth 20000 in
theorem c_solve1_7_1_2p {n vs : Int32} {be de : Int64} {sz : Int32} {ro co mi : Nat → Int64} {T : Nat → Nat → Int64} {B : Nat → Nat → Nat → Int32} {hd : Nat → Nat → Int32} {df : Nat → Int32} {ly : Nat → Nat → Int64} {dt : Int64} {rr : Nat → Int64} (ely : ly = (lyT 1 (B 7) T)) (edt : dt = detX 1 ly) (h0 : ¬ dt = 0) (hs : ¬ dt < 0) (hrr : ∀ i : Nat, rr i = detX 1 (clT 1 ly i (hd 2))) : ∃ (co2 mi2 : Nat → Int64), KX1_solve l D ca ad [.ref 1, .ref 16, .int 1, .ref 25] (XW n vs be de sz ro co mi T B hd df) (some (.int 1)) (XW n vs (absX dt) dt 1 (roc 1 rr ro) co2 mi2 ly B hd df) := by
  obtain ⟨m0, em0⟩ : ∃ z, z = miX 1 ly mi := ⟨_, rfl⟩
  obtain ⟨c1, ec1⟩ : ∃ z, z = coT 1 ly 0 co := ⟨_, rfl⟩
  obtain ⟨m1, em1⟩ : ∃ z, z = miX 1 (clT 1 ly 0 (hd 2)) m0 := ⟨_, rfl⟩
  refine ⟨c1, m1, ?_⟩
  refine PX1_solve (Nat.le_of_ble_eq_true rfl) (Or.inr rfl) ?_
  intro G hT hC hR
  refine mB hT 3 rfl ?_
  refine hC.1 _ 1 [_, _] _ _ _ _ _ (show KX1_layTable l D ca ad _ _ none (XW n vs be dt 1 ro co m0 ly B hd df) from (by rw [em0, edt, ely]; exact c_lay_7_1)) rfl rfl (Nat.le_of_ble_eq_true rfl) rfl ?_
  refine mB hT 5 rfl ?_
  refine mIf (fun hp => absurd hp (fun q => h0 (lc_eq.mp q))) (fun _ => ?_)
  refine mB hT 3 rfl ?_
  refine hC.2.1 _ [_] _ _ _ _ (c_abs _) rfl (Nat.le_of_ble_eq_true rfl) rfl ?_
  refine mB hT 10 rfl ?_
  refine mWd (w2 := (XW n vs (absX dt) dt 1 ro co m0 ly B hd df)) rfl ?_
  refine hC.2.2 _ 1 [_, _] _ _ _ _ _ (show KX1_determinantWithColumn l D ca ad _ _ (some (.long (detX 1 (clT 1 ly 0 (hd 2))))) (XW n vs (absX dt) dt 1 ro c1 m1 ly B hd df) from (by rw [em1, ec1]; exact c_dwc_2_1_0)) rfl rfl (Nat.le_of_ble_eq_true rfl) rfl ?_
  refine mB hT 9 rfl ?_
  refine mIf (fun _ => ?_) (fun hn => absurd (lc_ge.mpr (Int64.not_lt.mp hs)) hn)
  refine mNf (lv2 := [(5, .long (detX 1 (clT 1 ly 0 (hd 2)))), (4, .int 0), (0, .ref 1), (1, .ref 16), (2, .int 1), (3, .ref 25)]) (st2 := [.int 0, .ref 2]) rfl rfl ?_
  refine mB hT 1 rfl ?_
  refine mNf (lv2 := [(5, .long (detX 1 (clT 1 ly 0 (hd 2)))), (4, .int 0), (0, .ref 1), (1, .ref 16), (2, .int 1), (3, .ref 25)]) (st2 := [.long (rr 0), .int 0, .ref 2]) rfl (by rw [hrr 0] <;> rfl) ?_
  refine mB hT 8 rfl ?_
  exact hR _ (by decide) _ _ _ rfl rfl
set_option maxRecDepth 20000 in
theorem c_solve1_7_1_2n {n vs : Int32} {be de : Int64} {sz : Int32} {ro co mi : Nat → Int64} {T : Nat → Nat → Int64} {B : Nat → Nat → Nat → Int32} {hd : Nat → Nat → Int32} {df : Nat → Int32} {ly : Nat → Nat → Int64} {dt : Int64} {rr : Nat → Int64} (ely : ly = (lyT 1 (B 7) T)) (edt : dt = detX 1 ly) (h0 : ¬ dt = 0) (hs : dt < 0) (hrr : ∀ i : Nat, rr i = -(detX 1 (clT 1 ly i (hd 2)))) : ∃ (co2 mi2 : Nat → Int64), KX1_solve l D ca ad [.ref 1, .ref 16, .int 1, .ref 25] (XW n vs be de sz ro co mi T B hd df) (some (.int 1)) (XW n vs (absX dt) dt 1 (roc 1 rr ro) co2 mi2 ly B hd df) := by
  obtain ⟨m0, em0⟩ : ∃ z, z = miX 1 ly mi := ⟨_, rfl⟩
  obtain ⟨c1, ec1⟩ : ∃ z, z = coT 1 ly 0 co := ⟨_, rfl⟩
  obtain ⟨m1, em1⟩ : ∃ z, z = miX 1 (clT 1 ly 0 (hd 2)) m0 := ⟨_, rfl⟩
  refine ⟨c1, m1, ?_⟩
  refine PX1_solve (Nat.le_of_ble_eq_true rfl) (Or.inr rfl) ?_
  intro G hT hC hR
  refine mB hT 3 rfl ?_
  refine hC.1 _ 1 [_, _] _ _ _ _ _ (show KX1_layTable l D ca ad _ _ none (XW n vs be dt 1 ro co m0 ly B hd df) from (by rw [em0, edt, ely]; exact c_lay_7_1)) rfl rfl (Nat.le_of_ble_eq_true rfl) rfl ?_
  refine mB hT 5 rfl ?_
  refine mIf (fun hp => absurd hp (fun q => h0 (lc_eq.mp q))) (fun _ => ?_)
  refine mB hT 3 rfl ?_
  refine hC.2.1 _ [_] _ _ _ _ (c_abs _) rfl (Nat.le_of_ble_eq_true rfl) rfl ?_
  refine mB hT 10 rfl ?_
  refine mWd (w2 := (XW n vs (absX dt) dt 1 ro co m0 ly B hd df)) rfl ?_
  refine hC.2.2 _ 1 [_, _] _ _ _ _ _ (show KX1_determinantWithColumn l D ca ad _ _ (some (.long (detX 1 (clT 1 ly 0 (hd 2))))) (XW n vs (absX dt) dt 1 ro c1 m1 ly B hd df) from (by rw [em1, ec1]; exact c_dwc_2_1_0)) rfl rfl (Nat.le_of_ble_eq_true rfl) rfl ?_
  refine mB hT 9 rfl ?_
  refine mIf (fun hp => absurd hp (fun q => Int64.not_lt.mpr (lc_ge.mp q) hs)) (fun _ => ?_)
  refine mNf (lv2 := [(5, .long (detX 1 (clT 1 ly 0 (hd 2)))), (4, .int 0), (0, .ref 1), (1, .ref 16), (2, .int 1), (3, .ref 25)]) (st2 := [.int 0, .ref 2]) rfl rfl ?_
  refine mB hT 3 rfl ?_
  refine mNf (lv2 := [(5, .long (detX 1 (clT 1 ly 0 (hd 2)))), (4, .int 0), (0, .ref 1), (1, .ref 16), (2, .int 1), (3, .ref 25)]) (st2 := [.long (rr 0), .int 0, .ref 2]) rfl (by rw [hrr 0] <;> rfl) ?_
  refine mB hT 8 rfl ?_
  exact hR _ (by decide) _ _ _ rfl rfl
theorem c_solve1_7_1_2 {n vs : Int32} {be de : Int64} {sz : Int32} {ro co mi : Nat → Int64} {T : Nat → Nat → Int64} {B : Nat → Nat → Nat → Int32} {hd : Nat → Nat → Int32} {df : Nat → Int32} (h0 : ¬ detX 1 (lyT 1 (B 7) T) = 0) : ∃ (de2 : Int64) (co2 mi2 : Nat → Int64) (T2 : Nat → Nat → Int64), KX1_solve l D ca ad [.ref 1, .ref 16, .int 1, .ref 25] (XW n vs be de sz ro co mi T B hd df) (some (.int 1)) (XW n vs (absX (detX 1 (lyT 1 (B 7) T))) de2 1 (roX 1 (lyT 1 (B 7) T) (hd 2) ro) co2 mi2 T2 B hd df) := by
  by_cases hs : detX 1 (lyT 1 (B 7) T) < 0
  · obtain ⟨c2, m2, k⟩ := c_solve1_7_1_2n (rr := rdX 1 (lyT 1 (B 7) T) (hd 2)) rfl rfl h0 hs (fun i => if_pos hs)
    exact ⟨_, c2, m2, _, k⟩
  · obtain ⟨c2, m2, k⟩ := c_solve1_7_1_2p (rr := rdX 1 (lyT 1 (B 7) T) (hd 2)) rfl rfl h0 hs (fun i => if_neg hs)
    exact ⟨_, c2, m2, _, k⟩
theorem c_solve0_7_1_3 {n vs : Int32} {be de : Int64} {sz : Int32} {ro co mi : Nat → Int64} {T : Nat → Nat → Int64} {B : Nat → Nat → Nat → Int32} {hd : Nat → Nat → Int32} {df : Nat → Int32} (h0 : detX 1 (lyT 1 (B 7) T) = 0) : ∃ (de2 : Int64) (mi2 : Nat → Int64) (T2 : Nat → Nat → Int64), KX1_solve l D ca ad [.ref 1, .ref 16, .int 1, .ref 26] (XW n vs be de sz ro co mi T B hd df) (some (.int 0)) (XW n vs be de2 1 ro co mi2 T2 B hd df) := by
  obtain ⟨ly, ely⟩ : ∃ z, z = (lyT 1 (B 7) T) := ⟨_, rfl⟩
  rw [← ely] at h0
  obtain ⟨dt, edt⟩ : ∃ z, z = detX 1 ly := ⟨_, rfl⟩
  rw [← edt] at h0
  obtain ⟨m0, em0⟩ : ∃ z, z = miX 1 ly mi := ⟨_, rfl⟩
  refine ⟨dt, m0, ly, ?_⟩
  refine PX1_solve (Nat.le_of_ble_eq_true rfl) (Or.inl rfl) ?_
  intro G hT hC hR
  refine mB hT 3 rfl ?_
  refine hC.1 _ 1 [_, _] _ _ _ _ _ (show KX1_layTable l D ca ad _ _ none (XW n vs be dt 1 ro co m0 ly B hd df) from (by rw [em0, edt, ely]; exact c_lay_7_1)) rfl rfl (Nat.le_of_ble_eq_true rfl) rfl ?_
  refine mB hT 5 rfl ?_
  refine mIf (fun _ => ?_) (fun hn => absurd (lc_eq.mpr h0) hn)
  refine mB hT 1 rfl ?_
  exact hR _ (by decide) _ _ _ rfl rfl
set_option maxRecDepth 20000 in
theorem c_solve1_7_1_3p {n vs : Int32} {be de : Int64} {sz : Int32} {ro co mi : Nat → Int64} {T : Nat → Nat → Int64} {B : Nat → Nat → Nat → Int32} {hd : Nat → Nat → Int32} {df : Nat → Int32} {ly : Nat → Nat → Int64} {dt : Int64} {rr : Nat → Int64} (ely : ly = (lyT 1 (B 7) T)) (edt : dt = detX 1 ly) (h0 : ¬ dt = 0) (hs : ¬ dt < 0) (hrr : ∀ i : Nat, rr i = detX 1 (clT 1 ly i (hd 3))) : ∃ (co2 mi2 : Nat → Int64), KX1_solve l D ca ad [.ref 1, .ref 16, .int 1, .ref 26] (XW n vs be de sz ro co mi T B hd df) (some (.int 1)) (XW n vs (absX dt) dt 1 (roc 1 rr ro) co2 mi2 ly B hd df) := by
  obtain ⟨m0, em0⟩ : ∃ z, z = miX 1 ly mi := ⟨_, rfl⟩
  obtain ⟨c1, ec1⟩ : ∃ z, z = coT 1 ly 0 co := ⟨_, rfl⟩
  obtain ⟨m1, em1⟩ : ∃ z, z = miX 1 (clT 1 ly 0 (hd 3)) m0 := ⟨_, rfl⟩
  refine ⟨c1, m1, ?_⟩
  refine PX1_solve (Nat.le_of_ble_eq_true rfl) (Or.inr rfl) ?_
  intro G hT hC hR
  refine mB hT 3 rfl ?_
  refine hC.1 _ 1 [_, _] _ _ _ _ _ (show KX1_layTable l D ca ad _ _ none (XW n vs be dt 1 ro co m0 ly B hd df) from (by rw [em0, edt, ely]; exact c_lay_7_1)) rfl rfl (Nat.le_of_ble_eq_true rfl) rfl ?_
  refine mB hT 5 rfl ?_
  refine mIf (fun hp => absurd hp (fun q => h0 (lc_eq.mp q))) (fun _ => ?_)
  refine mB hT 3 rfl ?_
  refine hC.2.1 _ [_] _ _ _ _ (c_abs _) rfl (Nat.le_of_ble_eq_true rfl) rfl ?_
  refine mB hT 10 rfl ?_
  refine mWd (w2 := (XW n vs (absX dt) dt 1 ro co m0 ly B hd df)) rfl ?_
  refine hC.2.2 _ 1 [_, _] _ _ _ _ _ (show KX1_determinantWithColumn l D ca ad _ _ (some (.long (detX 1 (clT 1 ly 0 (hd 3))))) (XW n vs (absX dt) dt 1 ro c1 m1 ly B hd df) from (by rw [em1, ec1]; exact c_dwc_3_1_0)) rfl rfl (Nat.le_of_ble_eq_true rfl) rfl ?_
  refine mB hT 9 rfl ?_
  refine mIf (fun _ => ?_) (fun hn => absurd (lc_ge.mpr (Int64.not_lt.mp hs)) hn)
  refine mNf (lv2 := [(5, .long (detX 1 (clT 1 ly 0 (hd 3)))), (4, .int 0), (0, .ref 1), (1, .ref 16), (2, .int 1), (3, .ref 26)]) (st2 := [.int 0, .ref 2]) rfl rfl ?_
  refine mB hT 1 rfl ?_
  refine mNf (lv2 := [(5, .long (detX 1 (clT 1 ly 0 (hd 3)))), (4, .int 0), (0, .ref 1), (1, .ref 16), (2, .int 1), (3, .ref 26)]) (st2 := [.long (rr 0), .int 0, .ref 2]) rfl (by rw [hrr 0] <;> rfl) ?_
  refine mB hT 8 rfl ?_
  exact hR _ (by decide) _ _ _ rfl rfl
set_option maxRecDepth 20000 in
theorem c_solve1_7_1_3n {n vs : Int32} {be de : Int64} {sz : Int32} {ro co mi : Nat → Int64} {T : Nat → Nat → Int64} {B : Nat → Nat → Nat → Int32} {hd : Nat → Nat → Int32} {df : Nat → Int32} {ly : Nat → Nat → Int64} {dt : Int64} {rr : Nat → Int64} (ely : ly = (lyT 1 (B 7) T)) (edt : dt = detX 1 ly) (h0 : ¬ dt = 0) (hs : dt < 0) (hrr : ∀ i : Nat, rr i = -(detX 1 (clT 1 ly i (hd 3)))) : ∃ (co2 mi2 : Nat → Int64), KX1_solve l D ca ad [.ref 1, .ref 16, .int 1, .ref 26] (XW n vs be de sz ro co mi T B hd df) (some (.int 1)) (XW n vs (absX dt) dt 1 (roc 1 rr ro) co2 mi2 ly B hd df) := by
  obtain ⟨m0, em0⟩ : ∃ z, z = miX 1 ly mi := ⟨_, rfl⟩
  obtain ⟨c1, ec1⟩ : ∃ z, z = coT 1 ly 0 co := ⟨_, rfl⟩
  obtain ⟨m1, em1⟩ : ∃ z, z = miX 1 (clT 1 ly 0 (hd 3)) m0 := ⟨_, rfl⟩
  refine ⟨c1, m1, ?_⟩
  refine PX1_solve (Nat.le_of_ble_eq_true rfl) (Or.inr rfl) ?_
  intro G hT hC hR
  refine mB hT 3 rfl ?_
  refine hC.1 _ 1 [_, _] _ _ _ _ _ (show KX1_layTable l D ca ad _ _ none (XW n vs be dt 1 ro co m0 ly B hd df) from (by rw [em0, edt, ely]; exact c_lay_7_1)) rfl rfl (Nat.le_of_ble_eq_true rfl) rfl ?_
  refine mB hT 5 rfl ?_
  refine mIf (fun hp => absurd hp (fun q => h0 (lc_eq.mp q))) (fun _ => ?_)
  refine mB hT 3 rfl ?_
  refine hC.2.1 _ [_] _ _ _ _ (c_abs _) rfl (Nat.le_of_ble_eq_true rfl) rfl ?_
  refine mB hT 10 rfl ?_
  refine mWd (w2 := (XW n vs (absX dt) dt 1 ro co m0 ly B hd df)) rfl ?_
  refine hC.2.2 _ 1 [_, _] _ _ _ _ _ (show KX1_determinantWithColumn l D ca ad _ _ (some (.long (detX 1 (clT 1 ly 0 (hd 3))))) (XW n vs (absX dt) dt 1 ro c1 m1 ly B hd df) from (by rw [em1, ec1]; exact c_dwc_3_1_0)) rfl rfl (Nat.le_of_ble_eq_true rfl) rfl ?_
  refine mB hT 9 rfl ?_
  refine mIf (fun hp => absurd hp (fun q => Int64.not_lt.mpr (lc_ge.mp q) hs)) (fun _ => ?_)
  refine mNf (lv2 := [(5, .long (detX 1 (clT 1 ly 0 (hd 3)))), (4, .int 0), (0, .ref 1), (1, .ref 16), (2, .int 1), (3, .ref 26)]) (st2 := [.int 0, .ref 2]) rfl rfl ?_
  refine mB hT 3 rfl ?_
  refine mNf (lv2 := [(5, .long (detX 1 (clT 1 ly 0 (hd 3)))), (4, .int 0), (0, .ref 1), (1, .ref 16), (2, .int 1), (3, .ref 26)]) (st2 := [.long (rr 0), .int 0, .ref 2]) rfl (by rw [hrr 0] <;> rfl) ?_
  refine mB hT 8 rfl ?_
  exact hR _ (by decide) _ _ _ rfl rfl
theorem c_solve1_7_1_3 {n vs : Int32} {be de : Int64} {sz : Int32} {ro co mi : Nat → Int64} {T : Nat → Nat → Int64} {B : Nat → Nat → Nat → Int32} {hd : Nat → Nat → Int32} {df : Nat → Int32} (h0 : ¬ detX 1 (lyT 1 (B 7) T) = 0) : ∃ (de2 : Int64) (co2 mi2 : Nat → Int64) (T2 : Nat → Nat → Int64), KX1_solve l D ca ad [.ref 1, .ref 16, .int 1, .ref 26] (XW n vs be de sz ro co mi T B hd df) (some (.int 1)) (XW n vs (absX (detX 1 (lyT 1 (B 7) T))) de2 1 (roX 1 (lyT 1 (B 7) T) (hd 3) ro) co2 mi2 T2 B hd df) := by
  by_cases hs : detX 1 (lyT 1 (B 7) T) < 0
  · obtain ⟨c2, m2, k⟩ := c_solve1_7_1_3n (rr := rdX 1 (lyT 1 (B 7) T) (hd 3)) rfl rfl h0 hs (fun i => if_pos hs)
    exact ⟨_, c2, m2, _, k⟩
  · obtain ⟨c2, m2, k⟩ := c_solve1_7_1_3p (rr := rdX 1 (lyT 1 (B 7) T) (hd 3)) rfl rfl h0 hs (fun i => if_neg hs)
    exact ⟨_, c2, m2, _, k⟩
theorem c_solve0_7_1_4 {n vs : Int32} {be de : Int64} {sz : Int32} {ro co mi : Nat → Int64} {T : Nat → Nat → Int64} {B : Nat → Nat → Nat → Int32} {hd : Nat → Nat → Int32} {df : Nat → Int32} (h0 : detX 1 (lyT 1 (B 7) T) = 0) : ∃ (de2 : Int64) (mi2 : Nat → Int64) (T2 : Nat → Nat → Int64), KX1_solve l D ca ad [.ref 1, .ref 16, .int 1, .ref 27] (XW n vs be de sz ro co mi T B hd df) (some (.int 0)) (XW n vs be de2 1 ro co mi2 T2 B hd df) := by
  obtain ⟨ly, ely⟩ : ∃ z, z = (lyT 1 (B 7) T) := ⟨_, rfl⟩
  rw [← ely] at h0
  obtain ⟨dt, edt⟩ : ∃ z, z = detX 1 ly := ⟨_, rfl⟩
  rw [← edt] at h0
  obtain ⟨m0, em0⟩ : ∃ z, z = miX 1 ly mi := ⟨_, rfl⟩
  refine ⟨dt, m0, ly, ?_⟩
  refine PX1_solve (Nat.le_of_ble_eq_true rfl) (Or.inl rfl) ?_
  intro G hT hC hR
  refine mB hT 3 rfl ?_
  refine hC.1 _ 1 [_, _] _ _ _ _ _ (show KX1_layTable l D ca ad _ _ none (XW n vs be dt 1 ro co m0 ly B hd df) from (by rw [em0, edt, ely]; exact c_lay_7_1)) rfl rfl (Nat.le_of_ble_eq_true rfl) rfl ?_
  refine mB hT 5 rfl ?_
  refine mIf (fun _ => ?_) (fun hn => absurd (lc_eq.mpr h0) hn)
  refine mB hT 1 rfl ?_
  exact hR _ (by decide) _ _ _ rfl rfl
set_option maxRecDepth 20000 in
theorem c_solve1_7_1_4p {n vs : Int32} {be de : Int64} {sz : Int32} {ro co mi : Nat → Int64} {T : Nat → Nat → Int64} {B : Nat → Nat → Nat → Int32} {hd : Nat → Nat → Int32} {df : Nat → Int32} {ly : Nat → Nat → Int64} {dt : Int64} {rr : Nat → Int64} (ely : ly = (lyT 1 (B 7) T)) (edt : dt = detX 1 ly) (h0 : ¬ dt = 0) (hs : ¬ dt < 0) (hrr : ∀ i : Nat, rr i = detX 1 (clT 1 ly i df)) : ∃ (co2 mi2 : Nat → Int64), KX1_solve l D ca ad [.ref 1, .ref 16, .int 1, .ref 27] (XW n vs be de sz ro co mi T B hd df) (some (.int 1)) (XW n vs (absX dt) dt 1 (roc 1 rr ro) co2 mi2 ly B hd df) := by
  obtain ⟨m0, em0⟩ : ∃ z, z = miX 1 ly mi := ⟨_, rfl⟩
  obtain ⟨c1, ec1⟩ : ∃ z, z = coT 1 ly 0 co := ⟨_, rfl⟩
  obtain ⟨m1, em1⟩ : ∃ z, z = miX 1 (clT 1 ly 0 df) m0 := ⟨_, rfl⟩
  refine ⟨c1, m1, ?_⟩
  refine PX1_solve (Nat.le_of_ble_eq_true rfl) (Or.inr rfl) ?_
  intro G hT hC hR
  refine mB hT 3 rfl ?_
  refine hC.1 _ 1 [_, _] _ _ _ _ _ (show KX1_layTable l D ca ad _ _ none (XW n vs be dt 1 ro co m0 ly B hd df) from (by rw [em0, edt, ely]; exact c_lay_7_1)) rfl rfl (Nat.le_of_ble_eq_true rfl) rfl ?_
  refine mB hT 5 rfl ?_
  refine mIf (fun hp => absurd hp (fun q => h0 (lc_eq.mp q))) (fun _ => ?_)
  refine mB hT 3 rfl ?_
  refine hC.2.1 _ [_] _ _ _ _ (c_abs _) rfl (Nat.le_of_ble_eq_true rfl) rfl ?_
  refine mB hT 10 rfl ?_
  refine mWd (w2 := (XW n vs (absX dt) dt 1 ro co m0 ly B hd df)) rfl ?_
  refine hC.2.2 _ 1 [_, _] _ _ _ _ _ (show KX1_determinantWithColumn l D ca ad _ _ (some (.long (detX 1 (clT 1 ly 0 df)))) (XW n vs (absX dt) dt 1 ro c1 m1 ly B hd df) from (by rw [em1, ec1]; exact c_dwc_4_1_0)) rfl rfl (Nat.le_of_ble_eq_true rfl) rfl ?_
  refine mB hT 9 rfl ?_
  refine mIf (fun _ => ?_) (fun hn => absurd (lc_ge.mpr (Int64.not_lt.mp hs)) hn)
  refine mNf (lv2 := [(5, .long (detX 1 (clT 1 ly 0 df))), (4, .int 0), (0, .ref 1), (1, .ref 16), (2, .int 1), (3, .ref 27)]) (st2 := [.int 0, .ref 2]) rfl rfl ?_
  refine mB hT 1 rfl ?_
  refine mNf (lv2 := [(5, .long (detX 1 (clT 1 ly 0 df))), (4, .int 0), (0, .ref 1), (1, .ref 16), (2, .int 1), (3, .ref 27)]) (st2 := [.long (rr 0), .int 0, .ref 2]) rfl (by rw [hrr 0] <;> rfl) ?_
  refine mB hT 8 rfl ?_
  exact hR _ (by decide) _ _ _ rfl rfl
set_option maxRecDepth 20000 in
theorem c_solve1_7_1_4n {n vs : Int32} {be de : Int64} {sz : Int32} {ro co mi : Nat → Int64} {T : Nat → Nat → Int64} {B : Nat → Nat → Nat → Int32} {hd : Nat → Nat → Int32} {df : Nat → Int32} {ly : Nat → Nat → Int64} {dt : Int64} {rr : Nat → Int64} (ely : ly = (lyT 1 (B 7) T)) (edt : dt = detX 1 ly) (h0 : ¬ dt = 0) (hs : dt < 0) (hrr : ∀ i : Nat, rr i = -(detX 1 (clT 1 ly i df))) : ∃ (co2 mi2 : Nat → Int64), KX1_solve l D ca ad [.ref 1, .ref 16, .int 1, .ref 27] (XW n vs be de sz ro co mi T B hd df) (some (.int 1)) (XW n vs (absX dt) dt 1 (roc 1 rr ro) co2 mi2 ly B hd df) := by
  obtain ⟨m0, em0⟩ : ∃ z, z = miX 1 ly mi := ⟨_, rfl⟩
  obtain ⟨c1, ec1⟩ : ∃ z, z = coT 1 ly 0 co := ⟨_, rfl⟩
  obtain ⟨m1, em1⟩ : ∃ z, z = miX 1 (clT 1 ly 0 df) m0 := ⟨_, rfl⟩
  refine ⟨c1, m1, ?_⟩
  refine PX1_solve (Nat.le_of_ble_eq_true rfl) (Or.inr rfl) ?_
  intro G hT hC hR
  refine mB hT 3 rfl ?_
  refine hC.1 _ 1 [_, _] _ _ _ _ _ (show KX1_layTable l D ca ad _ _ none (XW n vs be dt 1 ro co m0 ly B hd df) from (by rw [em0, edt, ely]; exact c_lay_7_1)) rfl rfl (Nat.le_of_ble_eq_true rfl) rfl ?_
  refine mB hT 5 rfl ?_
  refine mIf (fun hp => absurd hp (fun q => h0 (lc_eq.mp q))) (fun _ => ?_)
  refine mB hT 3 rfl ?_
  refine hC.2.1 _ [_] _ _ _ _ (c_abs _) rfl (Nat.le_of_ble_eq_true rfl) rfl ?_
  refine mB hT 10 rfl ?_
  refine mWd (w2 := (XW n vs (absX dt) dt 1 ro co m0 ly B hd df)) rfl ?_
  refine hC.2.2 _ 1 [_, _] _ _ _ _ _ (show KX1_determinantWithColumn l D ca ad _ _ (some (.long (detX 1 (clT 1 ly 0 df)))) (XW n vs (absX dt) dt 1 ro c1 m1 ly B hd df) from (by rw [em1, ec1]; exact c_dwc_4_1_0)) rfl rfl (Nat.le_of_ble_eq_true rfl) rfl ?_
  refine mB hT 9 rfl ?_
  refine mIf (fun hp => absurd hp (fun q => Int64.not_lt.mpr (lc_ge.mp q) hs)) (fun _ => ?_)
  refine mNf (lv2 := [(5, .long (detX 1 (clT 1 ly 0 df))), (4, .int 0), (0, .ref 1), (1, .ref 16), (2, .int 1), (3, .ref 27)]) (st2 := [.int 0, .ref 2]) rfl rfl ?_
  refine mB hT 3 rfl ?_
  refine mNf (lv2 := [(5, .long (detX 1 (clT 1 ly 0 df))), (4, .int 0), (0, .ref 1), (1, .ref 16), (2, .int 1), (3, .ref 27)]) (st2 := [.long (rr 0), .int 0, .ref 2]) rfl (by rw [hrr 0] <;> rfl) ?_
  refine mB hT 8 rfl ?_
  exact hR _ (by decide) _ _ _ rfl rfl
theorem c_solve1_7_1_4 {n vs : Int32} {be de : Int64} {sz : Int32} {ro co mi : Nat → Int64} {T : Nat → Nat → Int64} {B : Nat → Nat → Nat → Int32} {hd : Nat → Nat → Int32} {df : Nat → Int32} (h0 : ¬ detX 1 (lyT 1 (B 7) T) = 0) : ∃ (de2 : Int64) (co2 mi2 : Nat → Int64) (T2 : Nat → Nat → Int64), KX1_solve l D ca ad [.ref 1, .ref 16, .int 1, .ref 27] (XW n vs be de sz ro co mi T B hd df) (some (.int 1)) (XW n vs (absX (detX 1 (lyT 1 (B 7) T))) de2 1 (roX 1 (lyT 1 (B 7) T) df ro) co2 mi2 T2 B hd df) := by
  by_cases hs : detX 1 (lyT 1 (B 7) T) < 0
  · obtain ⟨c2, m2, k⟩ := c_solve1_7_1_4n (rr := rdX 1 (lyT 1 (B 7) T) df) rfl rfl h0 hs (fun i => if_pos hs)
    exact ⟨_, c2, m2, _, k⟩
  · obtain ⟨c2, m2, k⟩ := c_solve1_7_1_4p (rr := rdX 1 (lyT 1 (B 7) T) df) rfl rfl h0 hs (fun i => if_neg hs)
    exact ⟨_, c2, m2, _, k⟩
theorem c_solve0_7_2_0 {n vs : Int32} {be de : Int64} {sz : Int32} {ro co mi : Nat → Int64} {T : Nat → Nat → Int64} {B : Nat → Nat → Nat → Int32} {hd : Nat → Nat → Int32} {df : Nat → Int32} (h0 : detX 2 (lyT 2 (B 7) T) = 0) : ∃ (de2 : Int64) (mi2 : Nat → Int64) (T2 : Nat → Nat → Int64), KX1_solve l D ca ad [.ref 1, .ref 16, .int 2, .ref 23] (XW n vs be de sz ro co mi T B hd df) (some (.int 0)) (XW n vs be de2 2 ro co mi2 T2 B hd df) := by
  obtain ⟨ly, ely⟩ : ∃ z, z = (lyT 2 (B 7) T) := ⟨_, rfl⟩
  rw [← ely] at h0
  obtain ⟨dt, edt⟩ : ∃ z, z = detX 2 ly := ⟨_, rfl⟩
  rw [← edt] at h0
  obtain ⟨m0, em0⟩ : ∃ z, z = miX 2 ly mi := ⟨_, rfl⟩
  refine ⟨dt, m0, ly, ?_⟩
  refine PX1_solve (Nat.le_of_ble_eq_true rfl) (Or.inl rfl) ?_
  intro G hT hC hR
  refine mB hT 3 rfl ?_
  refine hC.1 _ 1 [_, _] _ _ _ _ _ (show KX1_layTable l D ca ad _ _ none (XW n vs be dt 2 ro co m0 ly B hd df) from (by rw [em0, edt, ely]; exact c_lay_7_2)) rfl rfl (Nat.le_of_ble_eq_true rfl) rfl ?_
  refine mB hT 5 rfl ?_
  refine mIf (fun _ => ?_) (fun hn => absurd (lc_eq.mpr h0) hn)
  refine mB hT 1 rfl ?_
  exact hR _ (by decide) _ _ _ rfl rfl
set_option maxRecDepth 20000 in
theorem c_solve1_7_2_0p {n vs : Int32} {be de : Int64} {sz : Int32} {ro co mi : Nat → Int64} {T : Nat → Nat → Int64} {B : Nat → Nat → Nat → Int32} {hd : Nat → Nat → Int32} {df : Nat → Int32} {ly : Nat → Nat → Int64} {dt : Int64} {rr : Nat → Int64} (ely : ly = (lyT 2 (B 7) T)) (edt : dt = detX 2 ly) (h0 : ¬ dt = 0) (hs : ¬ dt < 0) (hrr : ∀ i : Nat, rr i = detX 2 (clT 2 ly i (hd 0))) : ∃ (co2 mi2 : Nat → Int64), KX1_solve l D ca ad [.ref 1, .ref 16, .int 2, .ref 23] (XW n vs be de sz ro co mi T B hd df) (some (.int 1)) (XW n vs (absX dt) dt 2 (roc 2 rr ro) co2 mi2 ly B hd df) := by
  obtain ⟨m0, em0⟩ : ∃ z, z = miX 2 ly mi := ⟨_, rfl⟩
  obtain ⟨c1, ec1⟩ : ∃ z, z = coT 2 ly 0 co := ⟨_, rfl⟩
  obtain ⟨m1, em1⟩ : ∃ z, z = miX 2 (clT 2 ly 0 (hd 0)) m0 := ⟨_, rfl⟩
  obtain ⟨c2, ec2⟩ : ∃ z, z = coT 2 ly 1 c1 := ⟨_, rfl⟩
  obtain ⟨m2, em2⟩ : ∃ z, z = miX 2 (clT 2 ly 1 (hd 0)) m1 := ⟨_, rfl⟩
  refine ⟨c2, m2, ?_⟩
  refine PX1_solve (Nat.le_of_ble_eq_true rfl) (Or.inr rfl) ?_
  intro G hT hC hR
  refine mB hT 3 rfl ?_
  refine hC.1 _ 1 [_, _] _ _ _ _ _ (show KX1_layTable l D ca ad _ _ none (XW n vs be dt 2 ro co m0 ly B hd df) from (by rw [em0, edt, ely]; exact c_lay_7_2)) rfl rfl (Nat.le_of_ble_eq_true rfl) rfl ?_
  refine mB hT 5 rfl ?_
  refine mIf (fun hp => absurd hp (fun q => h0 (lc_eq.mp q))) (fun _ => ?_)
  refine mB hT 3 rfl ?_
  refine hC.2.1 _ [_] _ _ _ _ (c_abs _) rfl (Nat.le_of_ble_eq_true rfl) rfl ?_
  refine mB hT 10 rfl ?_
  refine mWd (w2 := (XW n vs (absX dt) dt 2 ro co m0 ly B hd df)) rfl ?_
  refine hC.2.2 _ 1 [_, _] _ _ _ _ _ (show KX1_determinantWithColumn l D ca ad _ _ (some (.long (detX 2 (clT 2 ly 0 (hd 0))))) (XW n vs (absX dt) dt 2 ro c1 m1 ly B hd df) from (by rw [em1, ec1]; exact c_dwc_0_2_0)) rfl rfl (Nat.le_of_ble_eq_true rfl) rfl ?_
  refine mB hT 9 rfl ?_
  refine mIf (fun _ => ?_) (fun hn => absurd (lc_ge.mpr (Int64.not_lt.mp hs)) hn)
  refine mNf (lv2 := [(5, .long (detX 2 (clT 2 ly 0 (hd 0)))), (4, .int 0), (0, .ref 1), (1, .ref 16), (2, .int 2), (3, .ref 23)]) (st2 := [.int 0, .ref 2]) rfl rfl ?_
  refine mB hT 1 rfl ?_
  refine mNf (lv2 := [(5, .long (detX 2 (clT 2 ly 0 (hd 0)))), (4, .int 0), (0, .ref 1), (1, .ref 16), (2, .int 2), (3, .ref 23)]) (st2 := [.long (rr 0), .int 0, .ref 2]) rfl (by rw [hrr 0] <;> rfl) ?_
  refine mB hT 10 rfl ?_
  refine mWd (w2 := (XW n vs (absX dt) dt 2 (up ro 0 (rr 0)) c1 m1 ly B hd df)) rfl ?_
  refine hC.2.2 _ 1 [_, _] _ _ _ _ _ (show KX1_determinantWithColumn l D ca ad _ _ (some (.long (detX 2 (clT 2 ly 1 (hd 0))))) (XW n vs (absX dt) dt 2 (up ro 0 (rr 0)) c2 m2 ly B hd df) from (by rw [em2, ec2]; exact c_dwc_0_2_1)) rfl rfl (Nat.le_of_ble_eq_true rfl) rfl ?_
  refine mB hT 9 rfl ?_
  refine mIf (fun _ => ?_) (fun hn => absurd (lc_ge.mpr (Int64.not_lt.mp hs)) hn)
  refine mNf (lv2 := [(5, .long (detX 2 (clT 2 ly 1 (hd 0)))), (4, .int 1), (0, .ref 1), (1, .ref 16), (2, .int 2), (3, .ref 23)]) (st2 := [.int 1, .ref 2]) rfl rfl ?_
  refine mB hT 1 rfl ?_
  refine mNf (lv2 := [(5, .long (detX 2 (clT 2 ly 1 (hd 0)))), (4, .int 1), (0, .ref 1), (1, .ref 16), (2, .int 2), (3, .ref 23)]) (st2 := [.long (rr 1), .int 1, .ref 2]) rfl (by rw [hrr 1] <;> rfl) ?_
  refine mB hT 8 rfl ?_
  exact hR _ (by decide) _ _ _ rfl rfl
set_option maxRecDepth 20000 in
theorem c_solve1_7_2_0n {n vs : Int32} {be de : Int64} {sz : Int32} {ro co mi : Nat → Int64} {T : Nat → Nat → Int64} {B : Nat → Nat → Nat → Int32} {hd : Nat → Nat → Int32} {df : Nat → Int32} {ly : Nat → Nat → Int64} {dt : Int64} {rr : Nat → Int64} (ely : ly = (lyT 2 (B 7) T)) (edt : dt = detX 2 ly) (h0 : ¬ dt = 0) (hs : dt < 0) (hrr : ∀ i : Nat, rr i = -(detX 2 (clT 2 ly i (hd 0)))) : ∃ (co2 mi2 : Nat → Int64), KX1_solve l D ca ad [.ref 1, .ref 16, .int 2, .ref 23] (XW n vs be de sz ro co mi T B hd df) (some (.int 1)) (XW n vs (absX dt) dt 2 (roc 2 rr ro) co2 mi2 ly B hd df) := by
  obtain ⟨m0, em0⟩ : ∃ z, z = miX 2 ly mi := ⟨_, rfl⟩
  obtain ⟨c1, ec1⟩ : ∃ z, z = coT 2 ly 0 co := ⟨_, rfl⟩
  obtain ⟨m1, em1⟩ : ∃ z, z = miX 2 (clT 2 ly 0 (hd 0)) m0 := ⟨_, rfl⟩
  obtain ⟨c2, ec2⟩ : ∃ z, z = coT 2 ly 1 c1 := ⟨_, rfl⟩
  obtain ⟨m2, em2⟩ : ∃ z, z = miX 2 (clT 2 ly 1 (hd 0)) m1 := ⟨_, rfl⟩
  refine ⟨c2, m2, ?_⟩
  refine PX1_solve (Nat.le_of_ble_eq_true rfl) (Or.inr rfl) ?_
  intro G hT hC hR
  refine mB hT 3 rfl ?_
  refine hC.1 _ 1 [_, _] _ _ _ _ _ (show KX1_layTable l D ca ad _ _ none (XW n vs be dt 2 ro co m0 ly B hd df) from (by rw [em0, edt, ely]; exact c_lay_7_2)) rfl rfl (Nat.le_of_ble_eq_true rfl) rfl ?_
  refine mB hT 5 rfl ?_
  refine mIf (fun hp => absurd hp (fun q => h0 (lc_eq.mp q))) (fun _ => ?_)
  refine mB hT 3 rfl ?_
  refine hC.2.1 _ [_] _ _ _ _ (c_abs _) rfl (Nat.le_of_ble_eq_true rfl) rfl ?_
  refine mB hT 10 rfl ?_
  refine mWd (w2 := (XW n vs (absX dt) dt 2 ro co m0 ly B hd df)) rfl ?_
  refine hC.2.2 _ 1 [_, _] _ _ _ _ _ (show KX1_determinantWithColumn l D ca ad _ _ (some (.long (detX 2 (clT 2 ly 0 (hd 0))))) (XW n vs (absX dt) dt 2 ro c1 m1 ly B hd df) from (by rw [em1, ec1]; exact c_dwc_0_2_0)) rfl rfl (Nat.le_of_ble_eq_true rfl) rfl ?_
  refine mB hT 9 rfl ?_
  refine mIf (fun hp => absurd hp (fun q => Int64.not_lt.mpr (lc_ge.mp q) hs)) (fun _ => ?_)
  refine mNf (lv2 := [(5, .long (detX 2 (clT 2 ly 0 (hd 0)))), (4, .int 0), (0, .ref 1), (1, .ref 16), (2, .int 2), (3, .ref 23)]) (st2 := [.int 0, .ref 2]) rfl rfl ?_
  refine mB hT 3 rfl ?_
  refine mNf (lv2 := [(5, .long (detX 2 (clT 2 ly 0 (hd 0)))), (4, .int 0), (0, .ref 1), (1, .ref 16), (2, .int 2), (3, .ref 23)]) (st2 := [.long (rr 0), .int 0, .ref 2]) rfl (by rw [hrr 0] <;> rfl) ?_
  refine mB hT 10 rfl ?_
  refine mWd (w2 := (XW n vs (absX dt) dt 2 (up ro 0 (rr 0)) c1 m1 ly B hd df)) rfl ?_
  refine hC.2.2 _ 1 [_, _] _ _ _ _ _ (show KX1_determinantWithColumn l D ca ad _ _ (some (.long (detX 2 (clT 2 ly 1 (hd 0))))) (XW n vs (absX dt) dt 2 (up ro 0 (rr 0)) c2 m2 ly B hd df) from (by rw [em2, ec2]; exact c_dwc_0_2_1)) rfl rfl (Nat.le_of_ble_eq_true rfl) rfl ?_
  refine mB hT 9 rfl ?_
  refine mIf (fun hp => absurd hp (fun q => Int64.not_lt.mpr (lc_ge.mp q) hs)) (fun _ => ?_)
  refine mNf (lv2 := [(5, .long (detX 2 (clT 2 ly 1 (hd 0)))), (4, .int 1), (0, .ref 1), (1, .ref 16), (2, .int 2), (3, .ref 23)]) (st2 := [.int 1, .ref 2]) rfl rfl ?_
  refine mB hT 3 rfl ?_
  refine mNf (lv2 := [(5, .long (detX 2 (clT 2 ly 1 (hd 0)))), (4, .int 1), (0, .ref 1), (1, .ref 16), (2, .int 2), (3, .ref 23)]) (st2 := [.long (rr 1), .int 1, .ref 2]) rfl (by rw [hrr 1] <;> rfl) ?_
  refine mB hT 8 rfl ?_
  exact hR _ (by decide) _ _ _ rfl rfl
theorem c_solve1_7_2_0 {n vs : Int32} {be de : Int64} {sz : Int32} {ro co mi : Nat → Int64} {T : Nat → Nat → Int64} {B : Nat → Nat → Nat → Int32} {hd : Nat → Nat → Int32} {df : Nat → Int32} (h0 : ¬ detX 2 (lyT 2 (B 7) T) = 0) : ∃ (de2 : Int64) (co2 mi2 : Nat → Int64) (T2 : Nat → Nat → Int64), KX1_solve l D ca ad [.ref 1, .ref 16, .int 2, .ref 23] (XW n vs be de sz ro co mi T B hd df) (some (.int 1)) (XW n vs (absX (detX 2 (lyT 2 (B 7) T))) de2 2 (roX 2 (lyT 2 (B 7) T) (hd 0) ro) co2 mi2 T2 B hd df) := by
  by_cases hs : detX 2 (lyT 2 (B 7) T) < 0
  · obtain ⟨c2, m2, k⟩ := c_solve1_7_2_0n (rr := rdX 2 (lyT 2 (B 7) T) (hd 0)) rfl rfl h0 hs (fun i => if_pos hs)
    exact ⟨_, c2, m2, _, k⟩
  · obtain ⟨c2, m2, k⟩ := c_solve1_7_2_0p (rr := rdX 2 (lyT 2 (B 7) T) (hd 0)) rfl rfl h0 hs (fun i => if_neg hs)
    exact ⟨_, c2, m2, _, k⟩
theorem c_solve0_7_2_1 {n vs : Int32} {be de : Int64} {sz : Int32} {ro co mi : Nat → Int64} {T : Nat → Nat → Int64} {B : Nat → Nat → Nat → Int32} {hd : Nat → Nat → Int32} {df : Nat → Int32} (h0 : detX 2 (lyT 2 (B 7) T) = 0) : ∃ (de2 : Int64) (mi2 : Nat → Int64) (T2 : Nat → Nat → Int64), KX1_solve l D ca ad [.ref 1, .ref 16, .int 2, .ref 24] (XW n vs be de sz ro co mi T B hd df) (some (.int 0)) (XW n vs be de2 2 ro co mi2 T2 B hd df) := by
  obtain ⟨ly, ely⟩ : ∃ z, z = (lyT 2 (B 7) T) := ⟨_, rfl⟩
  rw [← ely] at h0
  obtain ⟨dt, edt⟩ : ∃ z, z = detX 2 ly := ⟨_, rfl⟩
  rw [← edt] at h0
  obtain ⟨m0, em0⟩ : ∃ z, z = miX 2 ly mi := ⟨_, rfl⟩
  refine ⟨dt, m0, ly, ?_⟩
  refine PX1_solve (Nat.le_of_ble_eq_true rfl) (Or.inl rfl) ?_
  intro G hT hC hR
  refine mB hT 3 rfl ?_
  refine hC.1 _ 1 [_, _] _ _ _ _ _ (show KX1_layTable l D ca ad _ _ none (XW n vs be dt 2 ro co m0 ly B hd df) from (by rw [em0, edt, ely]; exact c_lay_7_2)) rfl rfl (Nat.le_of_ble_eq_true rfl) rfl ?_
  refine mB hT 5 rfl ?_
  refine mIf (fun _ => ?_) (fun hn => absurd (lc_eq.mpr h0) hn)
  refine mB hT 1 rfl ?_
  exact hR _ (by decide) _ _ _ rfl rfl
set_option maxRecDepth 20000 in
theorem c_solve1_7_2_1p {n vs : Int32} {be de : Int64} {sz : Int32} {ro co mi : Nat → Int64} {T : Nat → Nat → Int64} {B : Nat → Nat → Nat → Int32} {hd : Nat → Nat → Int32} {df : Nat → Int32} {ly : Nat → Nat → Int64} {dt : Int64} {rr : Nat → Int64} (ely : ly = (lyT 2 (B 7) T)) (edt : dt = detX 2 ly) (h0 : ¬ dt = 0) (hs : ¬ dt < 0) (hrr : ∀ i : Nat, rr i = detX 2 (clT 2 ly i (hd 1))) : ∃ (co2 mi2 : Nat → Int64), KX1_solve l D ca ad [.ref 1, .ref 16, .int 2, .ref 24] (XW n vs be de sz ro co mi T B hd df) (some (.int 1)) (XW n vs (absX dt) dt 2 (roc 2 rr ro) co2 mi2 ly B hd df) := by
  obtain ⟨m0, em0⟩ : ∃ z, z = miX 2 ly mi := ⟨_, rfl⟩
  obtain ⟨c1, ec1⟩ : ∃ z, z = coT 2 ly 0 co := ⟨_, rfl⟩
  obtain ⟨m1, em1⟩ : ∃ z, z = miX 2 (clT 2 ly 0 (hd 1)) m0 := ⟨_, rfl⟩
  obtain ⟨c2, ec2⟩ : ∃ z, z = coT 2 ly 1 c1 := ⟨_, rfl⟩
  obtain ⟨m2, em2⟩ : ∃ z, z = miX 2 (clT 2 ly 1 (hd 1)) m1 := ⟨_, rfl⟩
  refine ⟨c2, m2, ?_⟩
  refine PX1_solve (Nat.le_of_ble_eq_true rfl) (Or.inr rfl) ?_
  intro G hT hC hR
  refine mB hT 3 rfl ?_
  refine hC.1 _ 1 [_, _] _ _ _ _ _ (show KX1_layTable l D ca ad _ _ none (XW n vs be dt 2 ro co m0 ly B hd df) from (by rw [em0, edt, ely]; exact c_lay_7_2)) rfl rfl (Nat.le_of_ble_eq_true rfl) rfl ?_
  refine mB hT 5 rfl ?_
  refine mIf (fun hp => absurd hp (fun q => h0 (lc_eq.mp q))) (fun _ => ?_)
  refine mB hT 3 rfl ?_
  refine hC.2.1 _ [_] _ _ _ _ (c_abs _) rfl (Nat.le_of_ble_eq_true rfl) rfl ?_
  refine mB hT 10 rfl ?_
  refine mWd (w2 := (XW n vs (absX dt) dt 2 ro co m0 ly B hd df)) rfl ?_
  refine hC.2.2 _ 1 [_, _] _ _ _ _ _ (show KX1_determinantWithColumn l D ca ad _ _ (some (.long (detX 2 (clT 2 ly 0 (hd 1))))) (XW n vs (absX dt) dt 2 ro c1 m1 ly B hd df) from (by rw [em1, ec1]; exact c_dwc_1_2_0)) rfl rfl (Nat.le_of_ble_eq_true rfl) rfl ?_
  refine mB hT 9 rfl ?_
  refine mIf (fun _ => ?_) (fun hn => absurd (lc_ge.mpr (Int64.not_lt.mp hs)) hn)
  refine mNf (lv2 := [(5, .long (detX 2 (clT 2 ly 0 (hd 1)))), (4, .int 0), (0, .ref 1), (1, .ref 16), (2, .int 2), (3, .ref 24)]) (st2 := [.int 0, .ref 2]) rfl rfl ?_
  refine mB hT 1 rfl ?_
  refine mNf (lv2 := [(5, .long (detX 2 (clT 2 ly 0 (hd 1)))), (4, .int 0), (0, .ref 1), (1, .ref 16), (2, .int 2), (3, .ref 24)]) (st2 := [.long (rr 0), .int 0, .ref 2]) rfl (by rw [hrr 0] <;> rfl) ?_
  refine mB hT 10 rfl ?_
  refine mWd (w2 := (XW n vs (absX dt) dt 2 (up ro 0 (rr 0)) c1 m1 ly B hd df)) rfl ?_
  refine hC.2.2 _ 1 [_, _] _ _ _ _ _ (show KX1_determinantWithColumn l D ca ad _ _ (some (.long (detX 2 (clT 2 ly 1 (hd 1))))) (XW n vs (absX dt) dt 2 (up ro 0 (rr 0)) c2 m2 ly B hd df) from (by rw [em2, ec2]; exact c_dwc_1_2_1)) rfl rfl (Nat.le_of_ble_eq_true rfl) rfl ?_
  refine mB hT 9 rfl ?_
  refine mIf (fun _ => ?_) (fun hn => absurd (lc_ge.mpr (Int64.not_lt.mp hs)) hn)
  refine mNf (lv2 := [(5, .long (detX 2 (clT 2 ly 1 (hd 1)))), (4, .int 1), (0, .ref 1), (1, .ref 16), (2, .int 2), (3, .ref 24)]) (st2 := [.int 1, .ref 2]) rfl rfl ?_
  refine mB hT 1 rfl ?_
  refine mNf (lv2 := [(5, .long (detX 2 (clT 2 ly 1 (hd 1)))), (4, .int 1), (0, .ref 1), (1, .ref 16), (2, .int 2), (3, .ref 24)]) (st2 := [.long (rr 1), .int 1, .ref 2]) rfl (by rw [hrr 1] <;> rfl) ?_
  refine mB hT 8 rfl ?_
  exact hR _ (by decide) _ _ _ rfl rfl
set_option maxRecDepth 20000 in
theorem c_solve1_7_2_1n {n vs : Int32} {be de : Int64} {sz : Int32} {ro co mi : Nat → Int64} {T : Nat → Nat → Int64} {B : Nat → Nat → Nat → Int32} {hd : Nat → Nat → Int32} {df : Nat → Int32} {ly : Nat → Nat → Int64} {dt : Int64} {rr : Nat → Int64} (ely : ly = (lyT 2 (B 7) T)) (edt : dt = detX 2 ly) (h0 : ¬ dt = 0) (hs : dt < 0) (hrr : ∀ i : Nat, rr i = -(detX 2 (clT 2 ly i (hd 1)))) : ∃ (co2 mi2 : Nat → Int64), KX1_solve l D ca ad [.ref 1, .ref 16, .int 2, .ref 24] (XW n vs be de sz ro co mi T B hd df) (some (.int 1)) (XW n vs (absX dt) dt 2 (roc 2 rr ro) co2 mi2 ly B hd df) := by
  obtain ⟨m0, em0⟩ : ∃ z, z = miX 2 ly mi := ⟨_, rfl⟩
  obtain ⟨c1, ec1⟩ : ∃ z, z = coT 2 ly 0 co := ⟨_, rfl⟩
  obtain ⟨m1, em1⟩ : ∃ z, z = miX 2 (clT 2 ly 0 (hd 1)) m0 := ⟨_, rfl⟩
  obtain ⟨c2, ec2⟩ : ∃ z, z = coT 2 ly 1 c1 := ⟨_, rfl⟩
  obtain ⟨m2, em2⟩ : ∃ z, z = miX 2 (clT 2 ly 1 (hd 1)) m1 := ⟨_, rfl⟩
  refine ⟨c2, m2, ?_⟩
  refine PX1_solve (Nat.le_of_ble_eq_true rfl) (Or.inr rfl) ?_
  intro G hT hC hR
  refine mB hT 3 rfl ?_
  refine hC.1 _ 1 [_, _] _ _ _ _ _ (show KX1_layTable l D ca ad _ _ none (XW n vs be dt 2 ro co m0 ly B hd df) from (by rw [em0, edt, ely]; exact c_lay_7_2)) rfl rfl (Nat.le_of_ble_eq_true rfl) rfl ?_
  refine mB hT 5 rfl ?_
  refine mIf (fun hp => absurd hp (fun q => h0 (lc_eq.mp q))) (fun _ => ?_)
  refine mB hT 3 rfl ?_
  refine hC.2.1 _ [_] _ _ _ _ (c_abs _) rfl (Nat.le_of_ble_eq_true rfl) rfl ?_
  refine mB hT 10 rfl ?_
  refine mWd (w2 := (XW n vs (absX dt) dt 2 ro co m0 ly B hd df)) rfl ?_
  refine hC.2.2 _ 1 [_, _] _ _ _ _ _ (show KX1_determinantWithColumn l D ca ad _ _ (some (.long (detX 2 (clT 2 ly 0 (hd 1))))) (XW n vs (absX dt) dt 2 ro c1 m1 ly B hd df) from (by rw [em1, ec1]; exact c_dwc_1_2_0)) rfl rfl (Nat.le_of_ble_eq_true rfl) rfl ?_
  refine mB hT 9 rfl ?_
  refine mIf (fun hp => absurd hp (fun q => Int64.not_lt.mpr (lc_ge.mp q) hs)) (fun _ => ?_)
  refine mNf (lv2 := [(5, .long (detX 2 (clT 2 ly 0 (hd 1)))), (4, .int 0), (0, .ref 1), (1, .ref 16), (2, .int 2), (3, .ref 24)]) (st2 := [.int 0, .ref 2]) rfl rfl ?_
  refine mB hT 3 rfl ?_
  refine mNf (lv2 := [(5, .long (detX 2 (clT 2 ly 0 (hd 1)))), (4, .int 0), (0, .ref 1), (1, .ref 16), (2, .int 2), (3, .ref 24)]) (st2 := [.long (rr 0), .int 0, .ref 2]) rfl (by rw [hrr 0] <;> rfl) ?_
  refine mB hT 10 rfl ?_
  refine mWd (w2 := (XW n vs (absX dt) dt 2 (up ro 0 (rr 0)) c1 m1 ly B hd df)) rfl ?_
  refine hC.2.2 _ 1 [_, _] _ _ _ _ _ (show KX1_determinantWithColumn l D ca ad _ _ (some (.long (detX 2 (clT 2 ly 1 (hd 1))))) (XW n vs (absX dt) dt 2 (up ro 0 (rr 0)) c2 m2 ly B hd df) from (by rw [em2, ec2]; exact c_dwc_1_2_1)) rfl rfl (Nat.le_of_ble_eq_true rfl) rfl ?_
  refine mB hT 9 rfl ?_
  refine mIf (fun hp => absurd hp (fun q => Int64.not_lt.mpr (lc_ge.mp q) hs)) (fun _ => ?_)
  refine mNf (lv2 := [(5, .long (detX 2 (clT 2 ly 1 (hd 1)))), (4, .int 1), (0, .ref 1), (1, .ref 16), (2, .int 2), (3, .ref 24)]) (st2 := [.int 1, .ref 2]) rfl rfl ?_
  refine mB hT 3 rfl ?_
  refine mNf (lv2 := [(5, .long (detX 2 (clT 2 ly 1 (hd 1)))), (4, .int 1), (0, .ref 1), (1, .ref 16), (2, .int 2), (3, .ref 24)]) (st2 := [.long (rr 1), .int 1, .ref 2]) rfl (by rw [hrr 1] <;> rfl) ?_
  refine mB hT 8 rfl ?_
  exact hR _ (by decide) _ _ _ rfl rfl
theorem c_solve1_7_2_1 {n vs : Int32} {be de : Int64} {sz : Int32} {ro co mi : Nat → Int64} {T : Nat → Nat → Int64} {B : Nat → Nat → Nat → Int32} {hd : Nat → Nat → Int32} {df : Nat → Int32} (h0 : ¬ detX 2 (lyT 2 (B 7) T) = 0) : ∃ (de2 : Int64) (co2 mi2 : Nat → Int64) (T2 : Nat → Nat → Int64), KX1_solve l D ca ad [.ref 1, .ref 16, .int 2, .ref 24] (XW n vs be de sz ro co mi T B hd df) (some (.int 1)) (XW n vs (absX (detX 2 (lyT 2 (B 7) T))) de2 2 (roX 2 (lyT 2 (B 7) T) (hd 1) ro) co2 mi2 T2 B hd df) := by
  by_cases hs : detX 2 (lyT 2 (B 7) T) < 0
  · obtain ⟨c2, m2, k⟩ := c_solve1_7_2_1n (rr := rdX 2 (lyT 2 (B 7) T) (hd 1)) rfl rfl h0 hs (fun i => if_pos hs)
    exact ⟨_, c2, m2, _, k⟩
  · obtain ⟨c2, m2, k⟩ := c_solve1_7_2_1p (rr := rdX 2 (lyT 2 (B 7) T) (hd 1)) rfl rfl h0 hs (fun i => if_neg hs)
    exact ⟨_, c2, m2, _, k⟩
theorem c_solve0_7_2_2 {n vs : Int32} {be de : Int64} {sz : Int32} {ro co mi : Nat → Int64} {T : Nat → Nat → Int64} {B : Nat → Nat → Nat → Int32} {hd : Nat → Nat → Int32} {df : Nat → Int32} (h0 : detX 2 (lyT 2 (B 7) T) = 0) : ∃ (de2 : Int64) (mi2 : Nat → Int64) (T2 : Nat → Nat → Int64), KX1_solve l D ca ad [.ref 1, .ref 16, .int 2, .ref 25] (XW n vs be de sz ro co mi T B hd df) (some (.int 0)) (XW n vs be de2 2 ro co mi2 T2 B hd df) := by
  obtain ⟨ly, ely⟩ : ∃ z, z = (lyT 2 (B 7) T) := ⟨_, rfl⟩
  rw [← ely] at h0
  obtain ⟨dt, edt⟩ : ∃ z, z = detX 2 ly := ⟨_, rfl⟩
  rw [← edt] at h0
  obtain ⟨m0, em0⟩ : ∃ z, z = miX 2 ly mi := ⟨_, rfl⟩
  refine ⟨dt, m0, ly, ?_⟩
  refine PX1_solve (Nat.le_of_ble_eq_true rfl) (Or.inl rfl) ?_
  intro G hT hC hR
  refine mB hT 3 rfl ?_
  refine hC.1 _ 1 [_, _] _ _ _ _ _ (show KX1_layTable l D ca ad _ _ none (XW n vs be dt 2 ro co m0 ly B hd df) from (by rw [em0, edt, ely]; exact c_lay_7_2)) rfl rfl (Nat.le_of_ble_eq_true rfl) rfl ?_
  refine mB hT 5 rfl ?_
  refine mIf (fun _ => ?_) (fun hn => absurd (lc_eq.mpr h0) hn)
  refine mB hT 1 rfl ?_
  exact hR _ (by decide) _ _ _ rfl rfl
set_option maxRecDepth 20000 in
theorem c_solve1_7_2_2p {n vs : Int32} {be de : Int64} {sz : Int32} {ro co mi : Nat → Int64} {T : Nat → Nat → Int64} {B : Nat → Nat → Nat → Int32} {hd : Nat → Nat → Int32} {df : Nat → Int32} {ly : Nat → Nat → Int64} {dt : Int64} {rr : Nat → Int64} (ely : ly = (lyT 2 (B 7) T)) (edt : dt = detX 2 ly) (h0 : ¬ dt = 0) (hs : ¬ dt < 0) (hrr : ∀ i : Nat, rr i = detX 2 (clT 2 ly i (hd 2))) : ∃ (co2 mi2 : Nat → Int64), KX1_solve l D ca ad [.ref 1, .ref 16, .int 2, .ref 25] (XW n vs be de sz ro co mi T B hd df) (some (.int 1)) (XW n vs (absX dt) dt 2 (roc 2 rr ro) co2 mi2 ly B hd df) := by
  obtain ⟨m0, em0⟩ : ∃ z, z = miX 2 ly mi := ⟨_, rfl⟩
  obtain ⟨c1, ec1⟩ : ∃ z, z = coT 2 ly 0 co := ⟨_, rfl⟩
  obtain ⟨m1, em1⟩ : ∃ z, z = miX 2 (clT 2 ly 0 (hd 2)) m0 := ⟨_, rfl⟩
  obtain ⟨c2, ec2⟩ : ∃ z, z = coT 2 ly 1 c1 := ⟨_, rfl⟩
  obtain ⟨m2, em2⟩ : ∃ z, z = miX 2 (clT 2 ly 1 (hd 2)) m1 := ⟨_, rfl⟩
  refine ⟨c2, m2, ?_⟩
  refine PX1_solve (Nat.le_of_ble_eq_true rfl) (Or.inr rfl) ?_
  intro G hT hC hR
  refine mB hT 3 rfl ?_
  refine hC.1 _ 1 [_, _] _ _ _ _ _ (show KX1_layTable l D ca ad _ _ none (XW n vs be dt 2 ro co m0 ly B hd df) from (by rw [em0, edt, ely]; exact c_lay_7_2)) rfl rfl (Nat.le_of_ble_eq_true rfl) rfl ?_
  refine mB hT 5 rfl ?_
  refine mIf (fun hp => absurd hp (fun q => h0 (lc_eq.mp q))) (fun _ => ?_)
  refine mB hT 3 rfl ?_
  refine hC.2.1 _ [_] _ _ _ _ (c_abs _) rfl (Nat.le_of_ble_eq_true rfl) rfl ?_
  refine mB hT 10 rfl ?_
  refine mWd (w2 := (XW n vs (absX dt) dt 2 ro co m0 ly B hd df)) rfl ?_
  refine hC.2.2 _ 1 [_, _] _ _ _ _ _ (show KX1_determinantWithColumn l D ca ad _ _ (some (.long (detX 2 (clT 2 ly 0 (hd 2))))) (XW n vs (absX dt) dt 2 ro c1 m1 ly B hd df) from (by rw [em1, ec1]; exact c_dwc_2_2_0)) rfl rfl (Nat.le_of_ble_eq_true rfl) rfl ?_
  refine mB hT 9 rfl ?_
  refine mIf (fun _ => ?_) (fun hn => absurd (lc_ge.mpr (Int64.not_lt.mp hs)) hn)
  refine mNf (lv2 := [(5, .long (detX 2 (clT 2 ly 0 (hd 2)))), (4, .int 0), (0, .ref 1), (1, .ref 16), (2, .int 2), (3, .ref 25)]) (st2 := [.int 0, .ref 2]) rfl rfl ?_
  refine mB hT 1 rfl ?_
  refine mNf (lv2 := [(5, .long (detX 2 (clT 2 ly 0 (hd 2)))), (4, .int 0), (0, .ref 1), (1, .ref 16), (2, .int 2), (3, .ref 25)]) (st2 := [.long (rr 0), .int 0, .ref 2]) rfl (by rw [hrr 0] <;> rfl) ?_
  refine mB hT 10 rfl ?_
  refine mWd (w2 := (XW n vs (absX dt) dt 2 (up ro 0 (rr 0)) c1 m1 ly B hd df)) rfl ?_
  refine hC.2.2 _ 1 [_, _] _ _ _ _ _ (show KX1_determinantWithColumn l D ca ad _ _ (some (.long (detX 2 (clT 2 ly 1 (hd 2))))) (XW n vs (absX dt) dt 2 (up ro 0 (rr 0)) c2 m2 ly B hd df) from (by rw [em2, ec2]; exact c_dwc_2_2_1)) rfl rfl (Nat.le_of_ble_eq_true rfl) rfl ?_
  refine mB hT 9 rfl ?_
  refine mIf (fun _ => ?_) (fun hn => absurd (lc_ge.mpr (Int64.not_lt.mp hs)) hn)
  refine mNf (lv2 := [(5, .long (detX 2 (clT 2 ly 1 (hd 2)))), (4, .int 1), (0, .ref 1), (1, .ref 16), (2, .int 2), (3, .ref 25)]) (st2 := [.int 1, .ref 2]) rfl rfl ?_
  refine mB hT 1 rfl ?_
  refine mNf (lv2 := [(5, .long (detX 2 (clT 2 ly 1 (hd 2)))), (4, .int 1), (0, .ref 1), (1, .ref 16), (2, .int 2), (3, .ref 25)]) (st2 := [.long (rr 1), .int 1, .ref 2]) rfl (by rw [hrr 1] <;> rfl) ?_
  refine mB hT 8 rfl ?_
  exact hR _ (by decide) _ _ _ rfl rfl
set_option maxRecDepth 20000 in
theorem c_solve1_7_2_2n {n vs : Int32} {be de : Int64} {sz : Int32} {ro co mi : Nat → Int64} {T : Nat → Nat → Int64} {B : Nat → Nat → Nat → Int32} {hd : Nat → Nat → Int32} {df : Nat → Int32} {ly : Nat → Nat → Int64} {dt : Int64} {rr : Nat → Int64} (ely : ly = (lyT 2 (B 7) T)) (edt : dt = detX 2 ly) (h0 : ¬ dt = 0) (hs : dt < 0) (hrr : ∀ i : Nat, rr i = -(detX 2 (clT 2 ly i (hd 2)))) : ∃ (co2 mi2 : Nat → Int64), KX1_solve l D ca ad [.ref 1, .ref 16, .int 2, .ref 25] (XW n vs be de sz ro co mi T B hd df) (some (.int 1)) (XW n vs (absX dt) dt 2 (roc 2 rr ro) co2 mi2 ly B hd df) := by
  obtain ⟨m0, em0⟩ : ∃ z, z = miX 2 ly mi := ⟨_, rfl⟩
  obtain ⟨c1, ec1⟩ : ∃ z, z = coT 2 ly 0 co := ⟨_, rfl⟩
  obtain ⟨m1, em1⟩ : ∃ z, z = miX 2 (clT 2 ly 0 (hd 2)) m0 := ⟨_, rfl⟩
  obtain ⟨c2, ec2⟩ : ∃ z, z = coT 2 ly 1 c1 := ⟨_, rfl⟩
  obtain ⟨m2, em2⟩ : ∃ z, z = miX 2 (clT 2 ly 1 (hd 2)) m1 := ⟨_, rfl⟩
  refine ⟨c2, m2, ?_⟩
  refine PX1_solve (Nat.le_of_ble_eq_true rfl) (Or.inr rfl) ?_
  intro G hT hC hR
  refine mB hT 3 rfl ?_
  refine hC.1 _ 1 [_, _] _ _ _ _ _ (show KX1_layTable l D ca ad _ _ none (XW n vs be dt 2 ro co m0 ly B hd df) from (by rw [em0, edt, ely]; exact c_lay_7_2)) rfl rfl (Nat.le_of_ble_eq_true rfl) rfl ?_
  refine mB hT 5 rfl ?_
  refine mIf (fun hp => absurd hp (fun q => h0 (lc_eq.mp q))) (fun _ => ?_)
  refine mB hT 3 rfl ?_
  refine hC.2.1 _ [_] _ _ _ _ (c_abs _) rfl (Nat.le_of_ble_eq_true rfl) rfl ?_
  refine mB hT 10 rfl ?_
  refine mWd (w2 := (XW n vs (absX dt) dt 2 ro co m0 ly B hd df)) rfl ?_
  refine hC.2.2 _ 1 [_, _] _ _ _ _ _ (show KX1_determinantWithColumn l D ca ad _ _ (some (.long (detX 2 (clT 2 ly 0 (hd 2))))) (XW n vs (absX dt) dt 2 ro c1 m1 ly B hd df) from (by rw [em1, ec1]; exact c_dwc_2_2_0)) rfl rfl (Nat.le_of_ble_eq_true rfl) rfl ?_
  refine mB hT 9 rfl ?_
  refine mIf (fun hp => absurd hp (fun q => Int64.not_lt.mpr (lc_ge.mp q) hs)) (fun _ => ?_)
  refine mNf (lv2 := [(5, .long (detX 2 (clT 2 ly 0 (hd 2)))), (4, .int 0), (0, .ref 1), (1, .ref 16), (2, .int 2), (3, .ref 25)]) (st2 := [.int 0, .ref 2]) rfl rfl ?_
  refine mB hT 3 rfl ?_
  refine mNf (lv2 := [(5, .long (detX 2 (clT 2 ly 0 (hd 2)))), (4, .int 0), (0, .ref 1), (1, .ref 16), (2, .int 2), (3, .ref 25)]) (st2 := [.long (rr 0), .int 0, .ref 2]) rfl (by rw [hrr 0] <;> rfl) ?_
  refine mB hT 10 rfl ?_
  refine mWd (w2 := (XW n vs (absX dt) dt 2 (up ro 0 (rr 0)) c1 m1 ly B hd df)) rfl ?_
  refine hC.2.2 _ 1 [_, _] _ _ _ _ _ (show KX1_determinantWithColumn l D ca ad _ _ (some (.long (detX 2 (clT 2 ly 1 (hd 2))))) (XW n vs (absX dt) dt 2 (up ro 0 (rr 0)) c2 m2 ly B hd df) from (by rw [em2, ec2]; exact c_dwc_2_2_1)) rfl rfl (Nat.le_of_ble_eq_true rfl) rfl ?_
  refine mB hT 9 rfl ?_
  refine mIf (fun hp => absurd hp (fun q => Int64.not_lt.mpr (lc_ge.mp q) hs)) (fun _ => ?_)
  refine mNf (lv2 := [(5, .long (detX 2 (clT 2 ly 1 (hd 2)))), (4, .int 1), (0, .ref 1), (1, .ref 16), (2, .int 2), (3, .ref 25)]) (st2 := [.int 1, .ref 2]) rfl rfl ?_
  refine mB hT 3 rfl ?_
  refine mNf (lv2 := [(5, .long (detX 2 (clT 2 ly 1 (hd 2)))), (4, .int 1), (0, .ref 1), (1, .ref 16), (2, .int 2), (3, .ref 25)]) (st2 := [.long (rr 1), .int 1, .ref 2]) rfl (by rw [hrr 1] <;> rfl) ?_
  refine mB hT 8 rfl ?_
  exact hR _ (by decide) _ _ _ rfl rfl
theorem c_solve1_7_2_2 {n vs : Int32} {be de : Int64} {sz : Int32} {ro co mi : Nat → Int64} {T : Nat → Nat → Int64} {B : Nat → Nat → Nat → Int32} {hd : Nat → Nat → Int32} {df : Nat → Int32} (h0 : ¬ detX 2 (lyT 2 (B 7) T) = 0) : ∃ (de2 : Int64) (co2 mi2 : Nat → Int64) (T2 : Nat → Nat → Int64), KX1_solve l D ca ad [.ref 1, .ref 16, .int 2, .ref 25] (XW n vs be de sz ro co mi T B hd df) (some (.int 1)) (XW n vs (absX (detX 2 (lyT 2 (B 7) T))) de2 2 (roX 2 (lyT 2 (B 7) T) (hd 2) ro) co2 mi2 T2 B hd df) := by
  by_cases hs : detX 2 (lyT 2 (B 7) T) < 0
  · obtain ⟨c2, m2, k⟩ := c_solve1_7_2_2n (rr := rdX 2 (lyT 2 (B 7) T) (hd 2)) rfl rfl h0 hs (fun i => if_pos hs)
    exact ⟨_, c2, m2, _, k⟩
  · obtain ⟨c2, m2, k⟩ := c_solve1_7_2_2p (rr := rdX 2 (lyT 2 (B 7) T) (hd 2)) rfl rfl h0 hs (fun i => if_neg hs)
    exact ⟨_, c2, m2, _, k⟩
theorem c_solve0_7_2_3 {n vs : Int32} {be de : Int64} {sz : Int32} {ro co mi : Nat → Int64} {T : Nat → Nat → Int64} {B : Nat → Nat → Nat → Int32} {hd : Nat → Nat → Int32} {df : Nat → Int32} (h0 : detX 2 (lyT 2 (B 7) T) = 0) : ∃ (de2 : Int64) (mi2 : Nat → Int64) (T2 : Nat → Nat → Int64), KX1_solve l D ca ad [.ref 1, .ref 16, .int 2, .ref 26] (XW n vs be de sz ro co mi T B hd df) (some (.int 0)) (XW n vs be de2 2 ro co mi2 T2 B hd df) := by
  obtain ⟨ly, ely⟩ : ∃ z, z = (lyT 2 (B 7) T) := ⟨_, rfl⟩
  rw [← ely] at h0
  obtain ⟨dt, edt⟩ : ∃ z, z = detX 2 ly := ⟨_, rfl⟩
  rw [← edt] at h0
  obtain ⟨m0, em0⟩ : ∃ z, z = miX 2 ly mi := ⟨_, rfl⟩
  refine ⟨dt, m0, ly, ?_⟩
  refine PX1_solve (Nat.le_of_ble_eq_true rfl) (Or.inl rfl) ?_
  intro G hT hC hR
  refine mB hT 3 rfl ?_
  refine hC.1 _ 1 [_, _] _ _ _ _ _ (show KX1_layTable l D ca ad _ _ none (XW n vs be dt 2 ro co m0 ly B hd df) from (by rw [em0, edt, ely]; exact c_lay_7_2)) rfl rfl (Nat.le_of_ble_eq_true rfl) rfl ?_
  refine mB hT 5 rfl ?_
  refine mIf (fun _ => ?_) (fun hn => absurd (lc_eq.mpr h0) hn)
  refine mB hT 1 rfl ?_
  exact hR _ (by decide) _ _ _ rfl rfl
set_option maxRecDepth 20000 in
theorem c_solve1_7_2_3p {n vs : Int32} {be de : Int64} {sz : Int32} {ro co mi : Nat → Int64} {T : Nat → Nat → Int64} {B : Nat → Nat → Nat → Int32} {hd : Nat → Nat → Int32} {df : Nat → Int32} {ly : Nat → Nat → Int64} {dt : Int64} {rr : Nat → Int64} (ely : ly = (lyT 2 (B 7) T)) (edt : dt = detX 2 ly) (h0 : ¬ dt = 0) (hs : ¬ dt < 0) (hrr : ∀ i : Nat, rr i = detX 2 (clT 2 ly i (hd 3))) : ∃ (co2 mi2 : Nat → Int64), KX1_solve l D ca ad [.ref 1, .ref 16, .int 2, .ref 26] (XW n vs be de sz ro co mi T B hd df) (some (.int 1)) (XW n vs (absX dt) dt 2 (roc 2 rr ro) co2 mi2 ly B hd df) := by
  obtain ⟨m0, em0⟩ : ∃ z, z = miX 2 ly mi := ⟨_, rfl⟩
  obtain ⟨c1, ec1⟩ : ∃ z, z = coT 2 ly 0 co := ⟨_, rfl⟩
  obtain ⟨m1, em1⟩ : ∃ z, z = miX 2 (clT 2 ly 0 (hd 3)) m0 := ⟨_, rfl⟩
  obtain ⟨c2, ec2⟩ : ∃ z, z = coT 2 ly 1 c1 := ⟨_, rfl⟩
  obtain ⟨m2, em2⟩ : ∃ z, z = miX 2 (clT 2 ly 1 (hd 3)) m1 := ⟨_, rfl⟩
  refine ⟨c2, m2, ?_⟩
  refine PX1_solve (Nat.le_of_ble_eq_true rfl) (Or.inr rfl) ?_
  intro G hT hC hR
  refine mB hT 3 rfl ?_
  refine hC.1 _ 1 [_, _] _ _ _ _ _ (show KX1_layTable l D ca ad _ _ none (XW n vs be dt 2 ro co m0 ly B hd df) from (by rw [em0, edt, ely]; exact c_lay_7_2)) rfl rfl (Nat.le_of_ble_eq_true rfl) rfl ?_
  refine mB hT 5 rfl ?_
  refine mIf (fun hp => absurd hp (fun q => h0 (lc_eq.mp q))) (fun _ => ?_)
  refine mB hT 3 rfl ?_
  refine hC.2.1 _ [_] _ _ _ _ (c_abs _) rfl (Nat.le_of_ble_eq_true rfl) rfl ?_
  refine mB hT 10 rfl ?_
  refine mWd (w2 := (XW n vs (absX dt) dt 2 ro co m0 ly B hd df)) rfl ?_
  refine hC.2.2 _ 1 [_, _] _ _ _ _ _ (show KX1_determinantWithColumn l D ca ad _ _ (some (.long (detX 2 (clT 2 ly 0 (hd 3))))) (XW n vs (absX dt) dt 2 ro c1 m1 ly B hd df) from (by rw [em1, ec1]; exact c_dwc_3_2_0)) rfl rfl (Nat.le_of_ble_eq_true rfl) rfl ?_
  refine mB hT 9 rfl ?_
  refine mIf (fun _ => ?_) (fun hn => absurd (lc_ge.mpr (Int64.not_lt.mp hs)) hn)
  refine mNf (lv2 := [(5, .long (detX 2 (clT 2 ly 0 (hd 3)))), (4, .int 0), (0, .ref 1), (1, .ref 16), (2, .int 2), (3, .ref 26)]) (st2 := [.int 0, .ref 2]) rfl rfl ?_
  refine mB hT 1 rfl ?_
  refine mNf (lv2 := [(5, .long (detX 2 (clT 2 ly 0 (hd 3)))), (4, .int 0), (0, .ref 1), (1, .ref 16), (2, .int 2), (3, .ref 26)]) (st2 := [.long (rr 0), .int 0, .ref 2]) rfl (by rw [hrr 0] <;> rfl) ?_
  refine mB hT 10 rfl ?_
  refine mWd (w2 := (XW n vs (absX dt) dt 2 (up ro 0 (rr 0)) c1 m1 ly B hd df)) rfl ?_
  refine hC.2.2 _ 1 [_, _] _ _ _ _ _ (show KX1_determinantWithColumn l D ca ad _ _ (some (.long (detX 2 (clT 2 ly 1 (hd 3))))) (XW n vs (absX dt) dt 2 (up ro 0 (rr 0)) c2 m2 ly B hd df) from (by rw [em2, ec2]; exact c_dwc_3_2_1)) rfl rfl (Nat.le_of_ble_eq_true rfl) rfl ?_
  refine mB hT 9 rfl ?_
  refine mIf (fun _ => ?_) (fun hn => absurd (lc_ge.mpr (Int64.not_lt.mp hs)) hn)
  refine mNf (lv2 := [(5, .long (detX 2 (clT 2 ly 1 (hd 3)))), (4, .int 1), (0, .ref 1), (1, .ref 16), (2, .int 2), (3, .ref 26)]) (st2 := [.int 1, .ref 2]) rfl rfl ?_
  refine mB hT 1 rfl ?_
  refine mNf (lv2 := [(5, .long (detX 2 (clT 2 ly 1 (hd 3)))), (4, .int 1), (0, .ref 1), (1, .ref 16), (2, .int 2), (3, .ref 26)]) (st2 := [.long (rr 1), .int 1, .ref 2]) rfl (by rw [hrr 1] <;> rfl) ?_
  refine mB hT 8 rfl ?_
  exact hR _ (by decide) _ _ _ rfl rfl
set_option maxRecDepth 20000 in
theorem c_solve1_7_2_3n {n vs : Int32} {be de : Int64} {sz : Int32} {ro co mi : Nat → Int64} {T : Nat → Nat → Int64} {B : Nat → Nat → Nat → Int32} {hd : Nat → Nat → Int32} {df : Nat → Int32} {ly : Nat → Nat → Int64} {dt : Int64} {rr : Nat → Int64} (ely : ly = (lyT 2 (B 7) T)) (edt : dt = detX 2 ly) (h0 : ¬ dt = 0) (hs : dt < 0) (hrr : ∀ i : Nat, rr i = -(detX 2 (clT 2 ly i (hd 3)))) : ∃ (co2 mi2 : Nat → Int64), KX1_solve l D ca ad [.ref 1, .ref 16, .int 2, .ref 26] (XW n vs be de sz ro co mi T B hd df) (some (.int 1)) (XW n vs (absX dt) dt 2 (roc 2 rr ro) co2 mi2 ly B hd df) := by
  obtain ⟨m0, em0⟩ : ∃ z, z = miX 2 ly mi := ⟨_, rfl⟩
  obtain ⟨c1, ec1⟩ : ∃ z, z = coT 2 ly 0 co := ⟨_, rfl⟩
  obtain ⟨m1, em1⟩ : ∃ z, z = miX 2 (clT 2 ly 0 (hd 3)) m0 := ⟨_, rfl⟩
  obtain ⟨c2, ec2⟩ : ∃ z, z = coT 2 ly 1 c1 := ⟨_, rfl⟩
  obtain ⟨m2, em2⟩ : ∃ z, z = miX 2 (clT 2 ly 1 (hd 3)) m1 := ⟨_, rfl⟩
  refine ⟨c2, m2, ?_⟩
  refine PX1_solve (Nat.le_of_ble_eq_true rfl) (Or.inr rfl) ?_
  intro G hT hC hR
  refine mB hT 3 rfl ?_
  refine hC.1 _ 1 [_, _] _ _ _ _ _ (show KX1_layTable l D ca ad _ _ none (XW n vs be dt 2 ro co m0 ly B hd df) from (by rw [em0, edt, ely]; exact c_lay_7_2)) rfl rfl (Nat.le_of_ble_eq_true rfl) rfl ?_
  refine mB hT 5 rfl ?_
  refine mIf (fun hp => absurd hp (fun q => h0 (lc_eq.mp q))) (fun _ => ?_)
  refine mB hT 3 rfl ?_
  refine hC.2.1 _ [_] _ _ _ _ (c_abs _) rfl (Nat.le_of_ble_eq_true rfl) rfl ?_
  refine mB hT 10 rfl ?_
  refine mWd (w2 := (XW n vs (absX dt) dt 2 ro co m0 ly B hd df)) rfl ?_
  refine hC.2.2 _ 1 [_, _] _ _ _ _ _ (show KX1_determinantWithColumn l D ca ad _ _ (some (.long (detX 2 (clT 2 ly 0 (hd 3))))) (XW n vs (absX dt) dt 2 ro c1 m1 ly B hd df) from (by rw [em1, ec1]; exact c_dwc_3_2_0)) rfl rfl (Nat.le_of_ble_eq_true rfl) rfl ?_
  refine mB hT 9 rfl ?_
  refine mIf (fun hp => absurd hp (fun q => Int64.not_lt.mpr (lc_ge.mp q) hs)) (fun _ => ?_)
  refine mNf (lv2 := [(5, .long (detX 2 (clT 2 ly 0 (hd 3)))), (4, .int 0), (0, .ref 1), (1, .ref 16), (2, .int 2), (3, .ref 26)]) (st2 := [.int 0, .ref 2]) rfl rfl ?_
  refine mB hT 3 rfl ?_
  refine mNf (lv2 := [(5, .long (detX 2 (clT 2 ly 0 (hd 3)))), (4, .int 0), (0, .ref 1), (1, .ref 16), (2, .int 2), (3, .ref 26)]) (st2 := [.long (rr 0), .int 0, .ref 2]) rfl (by rw [hrr 0] <;> rfl) ?_
  refine mB hT 10 rfl ?_
  refine mWd (w2 := (XW n vs (absX dt) dt 2 (up ro 0 (rr 0)) c1 m1 ly B hd df)) rfl ?_
  refine hC.2.2 _ 1 [_, _] _ _ _ _ _ (show KX1_determinantWithColumn l D ca ad _ _ (some (.long (detX 2 (clT 2 ly 1 (hd 3))))) (XW n vs (absX dt) dt 2 (up ro 0 (rr 0)) c2 m2 ly B hd df) from (by rw [em2, ec2]; exact c_dwc_3_2_1)) rfl rfl (Nat.le_of_ble_eq_true rfl) rfl ?_
  refine mB hT 9 rfl ?_
  refine mIf (fun hp => absurd hp (fun q => Int64.not_lt.mpr (lc_ge.mp q) hs)) (fun _ => ?_)
  refine mNf (lv2 := [(5, .long (detX 2 (clT 2 ly 1 (hd 3)))), (4, .int 1), (0, .ref 1), (1, .ref 16), (2, .int 2), (3, .ref 26)]) (st2 := [.int 1, .ref 2]) rfl rfl ?_
  refine mB hT 3 rfl ?_
  refine mNf (lv2 := [(5, .long (detX 2 (clT 2 ly 1 (hd 3)))), (4, .int 1), (0, .ref 1), (1, .ref 16), (2, .int 2), (3, .ref 26)]) (st2 := [.long (rr 1), .int 1, .ref 2]) rfl (by rw [hrr 1] <;> rfl) ?_
  refine mB hT 8 rfl ?_
  exact hR _ (by decide) _ _ _ rfl rfl
theorem c_solve1_7_2_3 {n vs : Int32} {be de : Int64} {sz : Int32} {ro co mi : Nat → Int64} {T : Nat → Nat → Int64} {B : Nat → Nat → Nat → Int32} {hd : Nat → Nat → Int32} {df : Nat → Int32} (h0 : ¬ detX 2 (lyT 2 (B 7) T) = 0) : ∃ (de2 : Int64) (co2 mi2 : Nat → Int64) (T2 : Nat → Nat → Int64), KX1_solve l D ca ad [.ref 1, .ref 16, .int 2, .ref 26] (XW n vs be de sz ro co mi T B hd df) (some (.int 1)) (XW n vs (absX (detX 2 (lyT 2 (B 7) T))) de2 2 (roX 2 (lyT 2 (B 7) T) (hd 3) ro) co2 mi2 T2 B hd df) := by
  by_cases hs : detX 2 (lyT 2 (B 7) T) < 0
  · obtain ⟨c2, m2, k⟩ := c_solve1_7_2_3n (rr := rdX 2 (lyT 2 (B 7) T) (hd 3)) rfl rfl h0 hs (fun i => if_pos hs)
    exact ⟨_, c2, m2, _, k⟩
  · obtain ⟨c2, m2, k⟩ := c_solve1_7_2_3p (rr := rdX 2 (lyT 2 (B 7) T) (hd 3)) rfl rfl h0 hs (fun i => if_neg hs)
    exact ⟨_, c2, m2, _, k⟩
theorem c_solve0_7_2_4 {n vs : Int32} {be de : Int64} {sz : Int32} {ro co mi : Nat → Int64} {T : Nat → Nat → Int64} {B : Nat → Nat → Nat → Int32} {hd : Nat → Nat → Int32} {df : Nat → Int32} (h0 : detX 2 (lyT 2 (B 7) T) = 0) : ∃ (de2 : Int64) (mi2 : Nat → Int64) (T2 : Nat → Nat → Int64), KX1_solve l D ca ad [.ref 1, .ref 16, .int 2, .ref 27] (XW n vs be de sz ro co mi T B hd df) (some (.int 0)) (XW n vs be de2 2 ro co mi2 T2 B hd df) := by
  obtain ⟨ly, ely⟩ : ∃ z, z = (lyT 2 (B 7) T) := ⟨_, rfl⟩
  rw [← ely] at h0
  obtain ⟨dt, edt⟩ : ∃ z, z = detX 2 ly := ⟨_, rfl⟩
  rw [← edt] at h0
  obtain ⟨m0, em0⟩ : ∃ z, z = miX 2 ly mi := ⟨_, rfl⟩
  refine ⟨dt, m0, ly, ?_⟩
  refine PX1_solve (Nat.le_of_ble_eq_true rfl) (Or.inl rfl) ?_
  intro G hT hC hR
  refine mB hT 3 rfl ?_
  refine hC.1 _ 1 [_, _] _ _ _ _ _ (show KX1_layTable l D ca ad _ _ none (XW n vs be dt 2 ro co m0 ly B hd df) from (by rw [em0, edt, ely]; exact c_lay_7_2)) rfl rfl (Nat.le_of_ble_eq_true rfl) rfl ?_
  refine mB hT 5 rfl ?_
  refine mIf (fun _ => ?_) (fun hn => absurd (lc_eq.mpr h0) hn)
  refine mB hT 1 rfl ?_
  exact hR _ (by decide) _ _ _ rfl rfl
set_option maxRecDepth 20000 in
theorem c_solve1_7_2_4p {n vs : Int32} {be de : Int64} {sz : Int32} {ro co mi : Nat → Int64} {T : Nat → Nat → Int64} {B : Nat → Nat → Nat → Int32} {hd : Nat → Nat → Int32} {df : Nat → Int32} {ly : Nat → Nat → Int64} {dt : Int64} {rr : Nat → Int64} (ely : ly = (lyT 2 (B 7) T)) (edt : dt = detX 2 ly) (h0 : ¬ dt = 0) (hs : ¬ dt < 0) (hrr : ∀ i : Nat, rr i = detX 2 (clT 2 ly i df)) : ∃ (co2 mi2 : Nat → Int64), KX1_solve l D ca ad [.ref 1, .ref 16, .int 2, .ref 27] (XW n vs be de sz ro co mi T B hd df) (some (.int 1)) (XW n vs (absX dt) dt 2 (roc 2 rr ro) co2 mi2 ly B hd df) := by
  obtain ⟨m0, em0⟩ : ∃ z, z = miX 2 ly mi := ⟨_, rfl⟩
  obtain ⟨c1, ec1⟩ : ∃ z, z = coT 2 ly 0 co := ⟨_, rfl⟩
  obtain ⟨m1, em1⟩ : ∃ z, z = miX 2 (clT 2 ly 0 df) m0 := ⟨_, rfl⟩
  obtain ⟨c2, ec2⟩ : ∃ z, z = coT 2 ly 1 c1 := ⟨_, rfl⟩
  obtain ⟨m2, em2⟩ : ∃ z, z = miX 2 (clT 2 ly 1 df) m1 := ⟨_, rfl⟩
  refine ⟨c2, m2, ?_⟩
  refine PX1_solve (Nat.le_of_ble_eq_true rfl) (Or.inr rfl) ?_
  intro G hT hC hR
  refine mB hT 3 rfl ?_
  refine hC.1 _ 1 [_, _] _ _ _ _ _ (show KX1_layTable l D ca ad _ _ none (XW n vs be dt 2 ro co m0 ly B hd df) from (by rw [em0, edt, ely]; exact c_lay_7_2)) rfl rfl (Nat.le_of_ble_eq_true rfl) rfl ?_
  refine mB hT 5 rfl ?_
  refine mIf (fun hp => absurd hp (fun q => h0 (lc_eq.mp q))) (fun _ => ?_)
  refine mB hT 3 rfl ?_
  refine hC.2.1 _ [_] _ _ _ _ (c_abs _) rfl (Nat.le_of_ble_eq_true rfl) rfl ?_
  refine mB hT 10 rfl ?_
  refine mWd (w2 := (XW n vs (absX dt) dt 2 ro co m0 ly B hd df)) rfl ?_
  refine hC.2.2 _ 1 [_, _] _ _ _ _ _ (show KX1_determinantWithColumn l D ca ad _ _ (some (.long (detX 2 (clT 2 ly 0 df)))) (XW n vs (absX dt) dt 2 ro c1 m1 ly B hd df) from (by rw [em1, ec1]; exact c_dwc_4_2_0)) rfl rfl (Nat.le_of_ble_eq_true rfl) rfl ?_
  refine mB hT 9 rfl ?_
  refine mIf (fun _ => ?_) (fun hn => absurd (lc_ge.mpr (Int64.not_lt.mp hs)) hn)
  refine mNf (lv2 := [(5, .long (detX 2 (clT 2 ly 0 df))), (4, .int 0), (0, .ref 1), (1, .ref 16), (2, .int 2), (3, .ref 27)]) (st2 := [.int 0, .ref 2]) rfl rfl ?_
  refine mB hT 1 rfl ?_
  refine mNf (lv2 := [(5, .long (detX 2 (clT 2 ly 0 df))), (4, .int 0), (0, .ref 1), (1, .ref 16), (2, .int 2), (3, .ref 27)]) (st2 := [.long (rr 0), .int 0, .ref 2]) rfl (by rw [hrr 0] <;> rfl) ?_
  refine mB hT 10 rfl ?_
  refine mWd (w2 := (XW n vs (absX dt) dt 2 (up ro 0 (rr 0)) c1 m1 ly B hd df)) rfl ?_
  refine hC.2.2 _ 1 [_, _] _ _ _ _ _ (show KX1_determinantWithColumn l D ca ad _ _ (some (.long (detX 2 (clT 2 ly 1 df)))) (XW n vs (absX dt) dt 2 (up ro 0 (rr 0)) c2 m2 ly B hd df) from (by rw [em2, ec2]; exact c_dwc_4_2_1)) rfl rfl (Nat.le_of_ble_eq_true rfl) rfl ?_
  refine mB hT 9 rfl ?_
  refine mIf (fun _ => ?_) (fun hn => absurd (lc_ge.mpr (Int64.not_lt.mp hs)) hn)
  refine mNf (lv2 := [(5, .long (detX 2 (clT 2 ly 1 df))), (4, .int 1), (0, .ref 1), (1, .ref 16), (2, .int 2), (3, .ref 27)]) (st2 := [.int 1, .ref 2]) rfl rfl ?_
  refine mB hT 1 rfl ?_
  refine mNf (lv2 := [(5, .long (detX 2 (clT 2 ly 1 df))), (4, .int 1), (0, .ref 1), (1, .ref 16), (2, .int 2), (3, .ref 27)]) (st2 := [.long (rr 1), .int 1, .ref 2]) rfl (by rw [hrr 1] <;> rfl) ?_
  refine mB hT 8 rfl ?_
  exact hR _ (by decide) _ _ _ rfl rfl
set_option maxRecDepth 20000 in
theorem c_solve1_7_2_4n {n vs : Int32} {be de : Int64} {sz : Int32} {ro co mi : Nat → Int64} {T : Nat → Nat → Int64} {B : Nat → Nat → Nat → Int32} {hd : Nat → Nat → Int32} {df : Nat → Int32} {ly : Nat → Nat → Int64} {dt : Int64} {rr : Nat → Int64} (ely : ly = (lyT 2 (B 7) T)) (edt : dt = detX 2 ly) (h0 : ¬ dt = 0) (hs : dt < 0) (hrr : ∀ i : Nat, rr i = -(detX 2 (clT 2 ly i df))) : ∃ (co2 mi2 : Nat → Int64), KX1_solve l D ca ad [.ref 1, .ref 16, .int 2, .ref 27] (XW n vs be de sz ro co mi T B hd df) (some (.int 1)) (XW n vs (absX dt) dt 2 (roc 2 rr ro) co2 mi2 ly B hd df) := by
  obtain ⟨m0, em0⟩ : ∃ z, z = miX 2 ly mi := ⟨_, rfl⟩
  obtain ⟨c1, ec1⟩ : ∃ z, z = coT 2 ly 0 co := ⟨_, rfl⟩
  obtain ⟨m1, em1⟩ : ∃ z, z = miX 2 (clT 2 ly 0 df) m0 := ⟨_, rfl⟩
  obtain ⟨c2, ec2⟩ : ∃ z, z = coT 2 ly 1 c1 := ⟨_, rfl⟩
  obtain ⟨m2, em2⟩ : ∃ z, z = miX 2 (clT 2 ly 1 df) m1 := ⟨_, rfl⟩
  refine ⟨c2, m2, ?_⟩
  refine PX1_solve (Nat.le_of_ble_eq_true rfl) (Or.inr rfl) ?_
  intro G hT hC hR
  refine mB hT 3 rfl ?_
  refine hC.1 _ 1 [_, _] _ _ _ _ _ (show KX1_layTable l D ca ad _ _ none (XW n vs be dt 2 ro co m0 ly B hd df) from (by rw [em0, edt, ely]; exact c_lay_7_2)) rfl rfl (Nat.le_of_ble_eq_true rfl) rfl ?_
  refine mB hT 5 rfl ?_
  refine mIf (fun hp => absurd hp (fun q => h0 (lc_eq.mp q))) (fun _ => ?_)
  refine mB hT 3 rfl ?_
  refine hC.2.1 _ [_] _ _ _ _ (c_abs _) rfl (Nat.le_of_ble_eq_true rfl) rfl ?_
  refine mB hT 10 rfl ?_
  refine mWd (w2 := (XW n vs (absX dt) dt 2 ro co m0 ly B hd df)) rfl ?_
  refine hC.2.2 _ 1 [_, _] _ _ _ _ _ (show KX1_determinantWithColumn l D ca ad _ _ (some (.long (detX 2 (clT 2 ly 0 df)))) (XW n vs (absX dt) dt 2 ro c1 m1 ly B hd df) from (by rw [em1, ec1]; exact c_dwc_4_2_0)) rfl rfl (Nat.le_of_ble_eq_true rfl) rfl ?_
  refine mB hT 9 rfl ?_
  refine mIf (fun hp => absurd hp (fun q => Int64.not_lt.mpr (lc_ge.mp q) hs)) (fun _ => ?_)
  refine mNf (lv2 := [(5, .long (detX 2 (clT 2 ly 0 df))), (4, .int 0), (0, .ref 1), (1, .ref 16), (2, .int 2), (3, .ref 27)]) (st2 := [.int 0, .ref 2]) rfl rfl ?_
  refine mB hT 3 rfl ?_
  refine mNf (lv2 := [(5, .long (detX 2 (clT 2 ly 0 df))), (4, .int 0), (0, .ref 1), (1, .ref 16), (2, .int 2), (3, .ref 27)]) (st2 := [.long (rr 0), .int 0, .ref 2]) rfl (by rw [hrr 0] <;> rfl) ?_
  refine mB hT 10 rfl ?_
  refine mWd (w2 := (XW n vs (absX dt) dt 2 (up ro 0 (rr 0)) c1 m1 ly B hd df)) rfl ?_
  refine hC.2.2 _ 1 [_, _] _ _ _ _ _ (show KX1_determinantWithColumn l D ca ad _ _ (some (.long (detX 2 (clT 2 ly 1 df)))) (XW n vs (absX dt) dt 2 (up ro 0 (rr 0)) c2 m2 ly B hd df) from (by rw [em2, ec2]; exact c_dwc_4_2_1)) rfl rfl (Nat.le_of_ble_eq_true rfl) rfl ?_
  refine mB hT 9 rfl ?_
  refine mIf (fun hp => absurd hp (fun q => Int64.not_lt.mpr (lc_ge.mp q) hs)) (fun _ => ?_)
  refine mNf (lv2 := [(5, .long (detX 2 (clT 2 ly 1 df))), (4, .int 1), (0, .ref 1), (1, .ref 16), (2, .int 2), (3, .ref 27)]) (st2 := [.int 1, .ref 2]) rfl rfl ?_
  refine mB hT 3 rfl ?_
  refine mNf (lv2 := [(5, .long (detX 2 (clT 2 ly 1 df))), (4, .int 1), (0, .ref 1), (1, .ref 16), (2, .int 2), (3, .ref 27)]) (st2 := [.long (rr 1), .int 1, .ref 2]) rfl (by rw [hrr 1] <;> rfl) ?_
  refine mB hT 8 rfl ?_
  exact hR _ (by decide) _ _ _ rfl rfl
theorem c_solve1_7_2_4 {n vs : Int32} {be de : Int64} {sz : Int32} {ro co mi : Nat → Int64} {T : Nat → Nat → Int64} {B : Nat → Nat → Nat → Int32} {hd : Nat → Nat → Int32} {df : Nat → Int32} (h0 : ¬ detX 2 (lyT 2 (B 7) T) = 0) : ∃ (de2 : Int64) (co2 mi2 : Nat → Int64) (T2 : Nat → Nat → Int64), KX1_solve l D ca ad [.ref 1, .ref 16, .int 2, .ref 27] (XW n vs be de sz ro co mi T B hd df) (some (.int 1)) (XW n vs (absX (detX 2 (lyT 2 (B 7) T))) de2 2 (roX 2 (lyT 2 (B 7) T) df ro) co2 mi2 T2 B hd df) := by
  by_cases hs : detX 2 (lyT 2 (B 7) T) < 0
  · obtain ⟨c2, m2, k⟩ := c_solve1_7_2_4n (rr := rdX 2 (lyT 2 (B 7) T) df) rfl rfl h0 hs (fun i => if_pos hs)
    exact ⟨_, c2, m2, _, k⟩
  · obtain ⟨c2, m2, k⟩ := c_solve1_7_2_4p (rr := rdX 2 (lyT 2 (B 7) T) df) rfl rfl h0 hs (fun i => if_neg hs)
    exact ⟨_, c2, m2, _, k⟩
theorem c_solve0_7_3_0 {n vs : Int32} {be de : Int64} {sz : Int32} {ro co mi : Nat → Int64} {T : Nat → Nat → Int64} {B : Nat → Nat → Nat → Int32} {hd : Nat → Nat → Int32} {df : Nat → Int32} (h0 : detX 3 (lyT 3 (B 7) T) = 0) : ∃ (de2 : Int64) (mi2 : Nat → Int64) (T2 : Nat → Nat → Int64), KX1_solve l D ca ad [.ref 1, .ref 16, .int 3, .ref 23] (XW n vs be de sz ro co mi T B hd df) (some (.int 0)) (XW n vs be de2 3 ro co mi2 T2 B hd df) := by
  obtain ⟨ly, ely⟩ : ∃ z, z = (lyT 3 (B 7) T) := ⟨_, rfl⟩
  rw [← ely] at h0
  obtain ⟨dt, edt⟩ : ∃ z, z = detX 3 ly := ⟨_, rfl⟩
  rw [← edt] at h0
  obtain ⟨m0, em0⟩ : ∃ z, z = miX 3 ly mi := ⟨_, rfl⟩
  refine ⟨dt, m0, ly, ?_⟩
  refine PX1_solve (Nat.le_of_ble_eq_true rfl) (Or.inl rfl) ?_
  intro G hT hC hR
  refine mB hT 3 rfl ?_
  refine hC.1 _ 1 [_, _] _ _ _ _ _ (show KX1_layTable l D ca ad _ _ none (XW n vs be dt 3 ro co m0 ly B hd df) from (by rw [em0, edt, ely]; exact c_lay_7_3)) rfl rfl (Nat.le_of_ble_eq_true rfl) rfl ?_
  refine mB hT 5 rfl ?_
  refine mIf (fun _ => ?_) (fun hn => absurd (lc_eq.mpr h0) hn)
  refine mB hT 1 rfl ?_
  exact hR _ (by decide) _ _ _ rfl rfl
set_option maxRecDepth 20000 in
theorem c_solve1_7_3_0p {n vs : Int32} {be de : Int64} {sz : Int32} {ro co mi : Nat → Int64} {T : Nat → Nat → Int64} {B : Nat → Nat → Nat → Int32} {hd : Nat → Nat → Int32} {df : Nat → Int32} {ly : Nat → Nat → Int64} {dt : Int64} {rr : Nat → Int64} (ely : ly = (lyT 3 (B 7) T)) (edt : dt = detX 3 ly) (h0 : ¬ dt = 0) (hs : ¬ dt < 0) (hrr : ∀ i : Nat, rr i = detX 3 (clT 3 ly i (hd 0))) : ∃ (co2 mi2 : Nat → Int64), KX1_solve l D ca ad [.ref 1, .ref 16, .int 3, .ref 23] (XW n vs be de sz ro co mi T B hd df) (some (.int 1)) (XW n vs (absX dt) dt 3 (roc 3 rr ro) co2 mi2 ly B hd df) := by
  obtain ⟨m0, em0⟩ : ∃ z, z = miX 3 ly mi := ⟨_, rfl⟩
  obtain ⟨c1, ec1⟩ : ∃ z, z = coT 3 ly 0 co := ⟨_, rfl⟩
  obtain ⟨m1, em1⟩ : ∃ z, z = miX 3 (clT 3 ly 0 (hd 0)) m0 := ⟨_, rfl⟩
  obtain ⟨c2, ec2⟩ : ∃ z, z = coT 3 ly 1 c1 := ⟨_, rfl⟩
  obtain ⟨m2, em2⟩ : ∃ z, z = miX 3 (clT 3 ly 1 (hd 0)) m1 := ⟨_, rfl⟩
  obtain ⟨c3, ec3⟩ : ∃ z, z = coT 3 ly 2 c2 := ⟨_, rfl⟩
  obtain ⟨m3, em3⟩ : ∃ z, z = miX 3 (clT 3 ly 2 (hd 0)) m2 := ⟨_, rfl⟩
  refine ⟨c3, m3, ?_⟩
  refine PX1_solve (Nat.le_of_ble_eq_true rfl) (Or.inr rfl) ?_
  intro G hT hC hR
  refine mB hT 3 rfl ?_
  refine hC.1 _ 1 [_, _] _ _ _ _ _ (show KX1_layTable l D ca ad _ _ none (XW n vs be dt 3 ro co m0 ly B hd df) from (by rw [em0, edt, ely]; exact c_lay_7_3)) rfl rfl (Nat.le_of_ble_eq_true rfl) rfl ?_
  refine mB hT 5 rfl ?_
  refine mIf (fun hp => absurd hp (fun q => h0 (lc_eq.mp q))) (fun _ => ?_)
  refine mB hT 3 rfl ?_
  refine hC.2.1 _ [_] _ _ _ _ (c_abs _) rfl (Nat.le_of_ble_eq_true rfl) rfl ?_
  refine mB hT 10 rfl ?_
  refine mWd (w2 := (XW n vs (absX dt) dt 3 ro co m0 ly B hd df)) rfl ?_
  refine hC.2.2 _ 1 [_, _] _ _ _ _ _ (show KX1_determinantWithColumn l D ca ad _ _ (some (.long (detX 3 (clT 3 ly 0 (hd 0))))) (XW n vs (absX dt) dt 3 ro c1 m1 ly B hd df) from (by rw [em1, ec1]; exact c_dwc_0_3_0)) rfl rfl (Nat.le_of_ble_eq_true rfl) rfl ?_
  refine mB hT 9 rfl ?_
  refine mIf (fun _ => ?_) (fun hn => absurd (lc_ge.mpr (Int64.not_lt.mp hs)) hn)
  refine mNf (lv2 := [(5, .long (detX 3 (clT 3 ly 0 (hd 0)))), (4, .int 0), (0, .ref 1), (1, .ref 16), (2, .int 3), (3, .ref 23)]) (st2 := [.int 0, .ref 2]) rfl rfl ?_
  refine mB hT 1 rfl ?_
  refine mNf (lv2 := [(5, .long (detX 3 (clT 3 ly 0 (hd 0)))), (4, .int 0), (0, .ref 1), (1, .ref 16), (2, .int 3), (3, .ref 23)]) (st2 := [.long (rr 0), .int 0, .ref 2]) rfl (by rw [hrr 0] <;> rfl) ?_
  refine mB hT 10 rfl ?_
  refine mWd (w2 := (XW n vs (absX dt) dt 3 (up ro 0 (rr 0)) c1 m1 ly B hd df)) rfl ?_
  refine hC.2.2 _ 1 [_, _] _ _ _ _ _ (show KX1_determinantWithColumn l D ca ad _ _ (some (.long (detX 3 (clT 3 ly 1 (hd 0))))) (XW n vs (absX dt) dt 3 (up ro 0 (rr 0)) c2 m2 ly B hd df) from (by rw [em2, ec2]; exact c_dwc_0_3_1)) rfl rfl (Nat.le_of_ble_eq_true rfl) rfl ?_
  refine mB hT 9 rfl ?_
  refine mIf (fun _ => ?_) (fun hn => absurd (lc_ge.mpr (Int64.not_lt.mp hs)) hn)
  refine mNf (lv2 := [(5, .long (detX 3 (clT 3 ly 1 (hd 0)))), (4, .int 1), (0, .ref 1), (1, .ref 16), (2, .int 3), (3, .ref 23)]) (st2 := [.int 1, .ref 2]) rfl rfl ?_
  refine mB hT 1 rfl ?_
  refine mNf (lv2 := [(5, .long (detX 3 (clT 3 ly 1 (hd 0)))), (4, .int 1), (0, .ref 1), (1, .ref 16), (2, .int 3), (3, .ref 23)]) (st2 := [.long (rr 1), .int 1, .ref 2]) rfl (by rw [hrr 1] <;> rfl) ?_
  refine mB hT 10 rfl ?_
  refine mWd (w2 := (XW n vs (absX dt) dt 3 (up (up ro 0 (rr 0)) 1 (rr 1)) c2 m2 ly B hd df)) rfl ?_
  refine hC.2.2 _ 1 [_, _] _ _ _ _ _ (show KX1_determinantWithColumn l D ca ad _ _ (some (.long (detX 3 (clT 3 ly 2 (hd 0))))) (XW n vs (absX dt) dt 3 (up (up ro 0 (rr 0)) 1 (rr 1)) c3 m3 ly B hd df) from (by rw [em3, ec3]; exact c_dwc_0_3_2)) rfl rfl (Nat.le_of_ble_eq_true rfl) rfl ?_
  refine mB hT 9 rfl ?_
  refine mIf (fun _ => ?_) (fun hn => absurd (lc_ge.mpr (Int64.not_lt.mp hs)) hn)
  refine mNf (lv2 := [(5, .long (detX 3 (clT 3 ly 2 (hd 0)))), (4, .int 2), (0, .ref 1), (1, .ref 16), (2, .int 3), (3, .ref 23)]) (st2 := [.int 2, .ref 2]) rfl rfl ?_
  refine mB hT 1 rfl ?_
  refine mNf (lv2 := [(5, .long (detX 3 (clT 3 ly 2 (hd 0)))), (4, .int 2), (0, .ref 1), (1, .ref 16), (2, .int 3), (3, .ref 23)]) (st2 := [.long (rr 2), .int 2, .ref 2]) rfl (by rw [hrr 2] <;> rfl) ?_
  refine mB hT 8 rfl ?_
  exact hR _ (by decide) _ _ _ rfl rfl
set_option maxRecDepth 20000 in
theorem c_solve1_7_3_0n {n vs : Int32} {be de : Int64} {sz : Int32} {ro co mi : Nat → Int64} {T : Nat → Nat → Int64} {B : Nat → Nat → Nat → Int32} {hd : Nat → Nat → Int32} {df : Nat → Int32} {ly : Nat → Nat → Int64} {dt : Int64} {rr : Nat → Int64} (ely : ly = (lyT 3 (B 7) T)) (edt : dt = detX 3 ly) (h0 : ¬ dt = 0) (hs : dt < 0) (hrr : ∀ i : Nat, rr i = -(detX 3 (clT 3 ly i (hd 0)))) : ∃ (co2 mi2 : Nat → Int64), KX1_solve l D ca ad [.ref 1, .ref 16, .int 3, .ref 23] (XW n vs be de sz ro co mi T B hd df) (some (.int 1)) (XW n vs (absX dt) dt 3 (roc 3 rr ro) co2 mi2 ly B hd df) := by
  obtain ⟨m0, em0⟩ : ∃ z, z = miX 3 ly mi := ⟨_, rfl⟩
  obtain ⟨c1, ec1⟩ : ∃ z, z = coT 3 ly 0 co := ⟨_, rfl⟩
  obtain ⟨m1, em1⟩ : ∃ z, z = miX 3 (clT 3 ly 0 (hd 0)) m0 := ⟨_, rfl⟩
  obtain ⟨c2, ec2⟩ : ∃ z, z = coT 3 ly 1 c1 := ⟨_, rfl⟩
  obtain ⟨m2, em2⟩ : ∃ z, z = miX 3 (clT 3 ly 1 (hd 0)) m1 := ⟨_, rfl⟩
  obtain ⟨c3, ec3⟩ : ∃ z, z = coT 3 ly 2 c2 := ⟨_, rfl⟩
  obtain ⟨m3, em3⟩ : ∃ z, z = miX 3 (clT 3 ly 2 (hd 0)) m2 := ⟨_, rfl⟩
  refine ⟨c3, m3, ?_⟩
  refine PX1_solve (Nat.le_of_ble_eq_true rfl) (Or.inr rfl) ?_
  intro G hT hC hR
  refine mB hT 3 rfl ?_
  refine hC.1 _ 1 [_, _] _ _ _ _ _ (show KX1_layTable l D ca ad _ _ none (XW n vs be dt 3 ro co m0 ly B hd df) from (by rw [em0, edt, ely]; exact c_lay_7_3)) rfl rfl (Nat.le_of_ble_eq_true rfl) rfl ?_
  refine mB hT 5 rfl ?_
  refine mIf (fun hp => absurd hp (fun q => h0 (lc_eq.mp q))) (fun _ => ?_)
  refine mB hT 3 rfl ?_
  refine hC.2.1 _ [_] _ _ _ _ (c_abs _) rfl (Nat.le_of_ble_eq_true rfl) rfl ?_
  refine mB hT 10 rfl ?_
  refine mWd (w2 := (XW n vs (absX dt) dt 3 ro co m0 ly B hd df)) rfl ?_
  refine hC.2.2 _ 1 [_, _] _ _ _ _ _ (show KX1_determinantWithColumn l D ca ad _ _ (some (.long (detX 3 (clT 3 ly 0 (hd 0))))) (XW n vs (absX dt) dt 3 ro c1 m1 ly B hd df) from (by rw [em1, ec1]; exact c_dwc_0_3_0)) rfl rfl (Nat.le_of_ble_eq_true rfl) rfl ?_
  refine mB hT 9 rfl ?_
  refine mIf (fun hp => absurd hp (fun q => Int64.not_lt.mpr (lc_ge.mp q) hs)) (fun _ => ?_)
  refine mNf (lv2 := [(5, .long (detX 3 (clT 3 ly 0 (hd 0)))), (4, .int 0), (0, .ref 1), (1, .ref 16), (2, .int 3), (3, .ref 23)]) (st2 := [.int 0, .ref 2]) rfl rfl ?_
  refine mB hT 3 rfl ?_
  refine mNf (lv2 := [(5, .long (detX 3 (clT 3 ly 0 (hd 0)))), (4, .int 0), (0, .ref 1), (1, .ref 16), (2, .int 3), (3, .ref 23)]) (st2 := [.long (rr 0), .int 0, .ref 2]) rfl (by rw [hrr 0] <;> rfl) ?_
  refine mB hT 10 rfl ?_
  refine mWd (w2 := (XW n vs (absX dt) dt 3 (up ro 0 (rr 0)) c1 m1 ly B hd df)) rfl ?_
  refine hC.2.2 _ 1 [_, _] _ _ _ _ _ (show KX1_determinantWithColumn l D ca ad _ _ (some (.long (detX 3 (clT 3 ly 1 (hd 0))))) (XW n vs (absX dt) dt 3 (up ro 0 (rr 0)) c2 m2 ly B hd df) from (by rw [em2, ec2]; exact c_dwc_0_3_1)) rfl rfl (Nat.le_of_ble_eq_true rfl) rfl ?_
  refine mB hT 9 rfl ?_
  refine mIf (fun hp => absurd hp (fun q => Int64.not_lt.mpr (lc_ge.mp q) hs)) (fun _ => ?_)
  refine mNf (lv2 := [(5, .long (detX 3 (clT 3 ly 1 (hd 0)))), (4, .int 1), (0, .ref 1), (1, .ref 16), (2, .int 3), (3, .ref 23)]) (st2 := [.int 1, .ref 2]) rfl rfl ?_
  refine mB hT 3 rfl ?_
  refine mNf (lv2 := [(5, .long (detX 3 (clT 3 ly 1 (hd 0)))), (4, .int 1), (0, .ref 1), (1, .ref 16), (2, .int 3), (3, .ref 23)]) (st2 := [.long (rr 1), .int 1, .ref 2]) rfl (by rw [hrr 1] <;> rfl) ?_
  refine mB hT 10 rfl ?_
  refine mWd (w2 := (XW n vs (absX dt) dt 3 (up (up ro 0 (rr 0)) 1 (rr 1)) c2 m2 ly B hd df)) rfl ?_
  refine hC.2.2 _ 1 [_, _] _ _ _ _ _ (show KX1_determinantWithColumn l D ca ad _ _ (some (.long (detX 3 (clT 3 ly 2 (hd 0))))) (XW n vs (absX dt) dt 3 (up (up ro 0 (rr 0)) 1 (rr 1)) c3 m3 ly B hd df) from (by rw [em3, ec3]; exact c_dwc_0_3_2)) rfl rfl (Nat.le_of_ble_eq_true rfl) rfl ?_
  refine mB hT 9 rfl ?_
  refine mIf (fun hp => absurd hp (fun q => Int64.not_lt.mpr (lc_ge.mp q) hs)) (fun _ => ?_)
  refine mNf (lv2 := [(5, .long (detX 3 (clT 3 ly 2 (hd 0)))), (4, .int 2), (0, .ref 1), (1, .ref 16), (2, .int 3), (3, .ref 23)]) (st2 := [.int 2, .ref 2]) rfl rfl ?_
  refine mB hT 3 rfl ?_
  refine mNf (lv2 := [(5, .long (detX 3 (clT 3 ly 2 (hd 0)))), (4, .int 2), (0, .ref 1), (1, .ref 16), (2, .int 3), (3, .ref 23)]) (st2 := [.long (rr 2), .int 2, .ref 2]) rfl (by rw [hrr 2] <;> rfl) ?_
  refine mB hT 8 rfl ?_
  exact hR _ (by decide) _ _ _ rfl rfl
theorem c_solve1_7_3_0 {n vs : Int32} {be de : Int64} {sz : Int32} {ro co mi : Nat → Int64} {T : Nat → Nat → Int64} {B : Nat → Nat → Nat → Int32} {hd : Nat → Nat → Int32} {df : Nat → Int32} (h0 : ¬ detX 3 (lyT 3 (B 7) T) = 0) : ∃ (de2 : Int64) (co2 mi2 : Nat → Int64) (T2 : Nat → Nat → Int64), KX1_solve l D ca ad [.ref 1, .ref 16, .int 3, .ref 23] (XW n vs be de sz ro co mi T B hd df) (some (.int 1)) (XW n vs (absX (detX 3 (lyT 3 (B 7) T))) de2 3 (roX 3 (lyT 3 (B 7) T) (hd 0) ro) co2 mi2 T2 B hd df) := by
  by_cases hs : detX 3 (lyT 3 (B 7) T) < 0
  · obtain ⟨c2, m2, k⟩ := c_solve1_7_3_0n (rr := rdX 3 (lyT 3 (B 7) T) (hd 0)) rfl rfl h0 hs (fun i => if_pos hs)
    exact ⟨_, c2, m2, _, k⟩
  · obtain ⟨c2, m2, k⟩ := c_solve1_7_3_0p (rr := rdX 3 (lyT 3 (B 7) T) (hd 0)) rfl rfl h0 hs (fun i => if_neg hs)
    exact ⟨_, c2, m2, _, k⟩
theorem c_solve0_7_3_1 {n vs : Int32} {be de : Int64} {sz : Int32} {ro co mi : Nat → Int64} {T : Nat → Nat → Int64} {B : Nat → Nat → Nat → Int32} {hd : Nat → Nat → Int32} {df : Nat → Int32} (h0 : detX 3 (lyT 3 (B 7) T) = 0) : ∃ (de2 : Int64) (mi2 : Nat → Int64) (T2 : Nat → Nat → Int64), KX1_solve l D ca ad [.ref 1, .ref 16, .int 3, .ref 24] (XW n vs be de sz ro co mi T B hd df) (some (.int 0)) (XW n vs be de2 3 ro co mi2 T2 B hd df) := by
  obtain ⟨ly, ely⟩ : ∃ z, z = (lyT 3 (B 7) T) := ⟨_, rfl⟩
  rw [← ely] at h0
  obtain ⟨dt, edt⟩ : ∃ z, z = detX 3 ly := ⟨_, rfl⟩
  rw [← edt] at h0
  obtain ⟨m0, em0⟩ : ∃ z, z = miX 3 ly mi := ⟨_, rfl⟩
  refine ⟨dt, m0, ly, ?_⟩
  refine PX1_solve (Nat.le_of_ble_eq_true rfl) (Or.inl rfl) ?_
  intro G hT hC hR
  refine mB hT 3 rfl ?_
  refine hC.1 _ 1 [_, _] _ _ _ _ _ (show KX1_layTable l D ca ad _ _ none (XW n vs be dt 3 ro co m0 ly B hd df) from (by rw [em0, edt, ely]; exact c_lay_7_3)) rfl rfl (Nat.le_of_ble_eq_true rfl) rfl ?_
  refine mB hT 5 rfl ?_
  refine mIf (fun _ => ?_) (fun hn => absurd (lc_eq.mpr h0) hn)
  refine mB hT 1 rfl ?_
  exact hR _ (by decide) _ _ _ rfl rfl
set_option maxRecDepth 20000 in
theorem c_solve1_7_3_1p {n vs : Int32} {be de : Int64} {sz : Int32} {ro co mi : Nat → Int64} {T : Nat → Nat → Int64} {B : Nat → Nat → Nat → Int32} {hd : Nat → Nat → Int32} {df : Nat → Int32} {ly : Nat → Nat → Int64} {dt : Int64} {rr : Nat → Int64} (ely : ly = (lyT 3 (B 7) T)) (edt : dt = detX 3 ly) (h0 : ¬ dt = 0) (hs : ¬ dt < 0) (hrr : ∀ i : Nat, rr i = detX 3 (clT 3 ly i (hd 1))) : ∃ (co2 mi2 : Nat → Int64), KX1_solve l D ca ad [.ref 1, .ref 16, .int 3, .ref 24] (XW n vs be de sz ro co mi T B hd df) (some (.int 1)) (XW n vs (absX dt) dt 3 (roc 3 rr ro) co2 mi2 ly B hd df) := by
  obtain ⟨m0, em0⟩ : ∃ z, z = miX 3 ly mi := ⟨_, rfl⟩
  obtain ⟨c1, ec1⟩ : ∃ z, z = coT 3 ly 0 co := ⟨_, rfl⟩
  obtain ⟨m1, em1⟩ : ∃ z, z = miX 3 (clT 3 ly 0 (hd 1)) m0 := ⟨_, rfl⟩
  obtain ⟨c2, ec2⟩ : ∃ z, z = coT 3 ly 1 c1 := ⟨_, rfl⟩
  obtain ⟨m2, em2⟩ : ∃ z, z = miX 3 (clT 3 ly 1 (hd 1)) m1 := ⟨_, rfl⟩
  obtain ⟨c3, ec3⟩ : ∃ z, z = coT 3 ly 2 c2 := ⟨_, rfl⟩
  obtain ⟨m3, em3⟩ : ∃ z, z = miX 3 (clT 3 ly 2 (hd 1)) m2 := ⟨_, rfl⟩
  refine ⟨c3, m3, ?_⟩
  refine PX1_solve (Nat.le_of_ble_eq_true rfl) (Or.inr rfl) ?_
  intro G hT hC hR
  refine mB hT 3 rfl ?_
  refine hC.1 _ 1 [_, _] _ _ _ _ _ (show KX1_layTable l D ca ad _ _ none (XW n vs be dt 3 ro co m0 ly B hd df) from (by rw [em0, edt, ely]; exact c_lay_7_3)) rfl rfl (Nat.le_of_ble_eq_true rfl) rfl ?_
  refine mB hT 5 rfl ?_
  refine mIf (fun hp => absurd hp (fun q => h0 (lc_eq.mp q))) (fun _ => ?_)
  refine mB hT 3 rfl ?_
  refine hC.2.1 _ [_] _ _ _ _ (c_abs _) rfl (Nat.le_of_ble_eq_true rfl) rfl ?_
  refine mB hT 10 rfl ?_
  refine mWd (w2 := (XW n vs (absX dt) dt 3 ro co m0 ly B hd df)) rfl ?_
  refine hC.2.2 _ 1 [_, _] _ _ _ _ _ (show KX1_determinantWithColumn l D ca ad _ _ (some (.long (detX 3 (clT 3 ly 0 (hd 1))))) (XW n vs (absX dt) dt 3 ro c1 m1 ly B hd df) from (by rw [em1, ec1]; exact c_dwc_1_3_0)) rfl rfl (Nat.le_of_ble_eq_true rfl) rfl ?_
  refine mB hT 9 rfl ?_
  refine mIf (fun _ => ?_) (fun hn => absurd (lc_ge.mpr (Int64.not_lt.mp hs)) hn)
  refine mNf (lv2 := [(5, .long (detX 3 (clT 3 ly 0 (hd 1)))), (4, .int 0), (0, .ref 1), (1, .ref 16), (2, .int 3), (3, .ref 24)]) (st2 := [.int 0, .ref 2]) rfl rfl ?_
  refine mB hT 1 rfl ?_
  refine mNf (lv2 := [(5, .long (detX 3 (clT 3 ly 0 (hd 1)))), (4, .int 0), (0, .ref 1), (1, .ref 16), (2, .int 3), (3, .ref 24)]) (st2 := [.long (rr 0), .int 0, .ref 2]) rfl (by rw [hrr 0] <;> rfl) ?_
  refine mB hT 10 rfl ?_
  refine mWd (w2 := (XW n vs (absX dt) dt 3 (up ro 0 (rr 0)) c1 m1 ly B hd df)) rfl ?_
  refine hC.2.2 _ 1 [_, _] _ _ _ _ _ (show KX1_determinantWithColumn l D ca ad _ _ (some (.long (detX 3 (clT 3 ly 1 (hd 1))))) (XW n vs (absX dt) dt 3 (up ro 0 (rr 0)) c2 m2 ly B hd df) from (by rw [em2, ec2]; exact c_dwc_1_3_1)) rfl rfl (Nat.le_of_ble_eq_true rfl) rfl ?_
  refine mB hT 9 rfl ?_
  refine mIf (fun _ => ?_) (fun hn => absurd (lc_ge.mpr (Int64.not_lt.mp hs)) hn)
  refine mNf (lv2 := [(5, .long (detX 3 (clT 3 ly 1 (hd 1)))), (4, .int 1), (0, .ref 1), (1, .ref 16), (2, .int 3), (3, .ref 24)]) (st2 := [.int 1, .ref 2]) rfl rfl ?_
  refine mB hT 1 rfl ?_
  refine mNf (lv2 := [(5, .long (detX 3 (clT 3 ly 1 (hd 1)))), (4, .int 1), (0, .ref 1), (1, .ref 16), (2, .int 3), (3, .ref 24)]) (st2 := [.long (rr 1), .int 1, .ref 2]) rfl (by rw [hrr 1] <;> rfl) ?_
  refine mB hT 10 rfl ?_
  refine mWd (w2 := (XW n vs (absX dt) dt 3 (up (up ro 0 (rr 0)) 1 (rr 1)) c2 m2 ly B hd df)) rfl ?_
  refine hC.2.2 _ 1 [_, _] _ _ _ _ _ (show KX1_determinantWithColumn l D ca ad _ _ (some (.long (detX 3 (clT 3 ly 2 (hd 1))))) (XW n vs (absX dt) dt 3 (up (up ro 0 (rr 0)) 1 (rr 1)) c3 m3 ly B hd df) from (by rw [em3, ec3]; exact c_dwc_1_3_2)) rfl rfl (Nat.le_of_ble_eq_true rfl) rfl ?_
  refine mB hT 9 rfl ?_
  refine mIf (fun _ => ?_) (fun hn => absurd (lc_ge.mpr (Int64.not_lt.mp hs)) hn)
  refine mNf (lv2 := [(5, .long (detX 3 (clT 3 ly 2 (hd 1)))), (4, .int 2), (0, .ref 1), (1, .ref 16), (2, .int 3), (3, .ref 24)]) (st2 := [.int 2, .ref 2]) rfl rfl ?_
  refine mB hT 1 rfl ?_
  refine mNf (lv2 := [(5, .long (detX 3 (clT 3 ly 2 (hd 1)))), (4, .int 2), (0, .ref 1), (1, .ref 16), (2, .int 3), (3, .ref 24)]) (st2 := [.long (rr 2), .int 2, .ref 2]) rfl (by rw [hrr 2] <;> rfl) ?_
  refine mB hT 8 rfl ?_
  exact hR _ (by decide) _ _ _ rfl rfl
set_option maxRecDepth 20000 in
theorem c_solve1_7_3_1n {n vs : Int32} {be de : Int64} {sz : Int32} {ro co mi : Nat → Int64} {T : Nat → Nat → Int64} {B : Nat → Nat → Nat → Int32} {hd : Nat → Nat → Int32} {df : Nat → Int32} {ly : Nat → Nat → Int64} {dt : Int64} {rr : Nat → Int64} (ely : ly = (lyT 3 (B 7) T)) (edt : dt = detX 3 ly) (h0 : ¬ dt = 0) (hs : dt < 0) (hrr : ∀ i : Nat, rr i = -(detX 3 (clT 3 ly i (hd 1)))) : ∃ (co2 mi2 : Nat → Int64), KX1_solve l D ca ad [.ref 1, .ref 16, .int 3, .ref 24] (XW n vs be de sz ro co mi T B hd df) (some (.int 1)) (XW n vs (absX dt) dt 3 (roc 3 rr ro) co2 mi2 ly B hd df) := by
  obtain ⟨m0, em0⟩ : ∃ z, z = miX 3 ly mi := ⟨_, rfl⟩
  obtain ⟨c1, ec1⟩ : ∃ z, z = coT 3 ly 0 co := ⟨_, rfl⟩
  obtain ⟨m1, em1⟩ : ∃ z, z = miX 3 (clT 3 ly 0 (hd 1)) m0 := ⟨_, rfl⟩
  obtain ⟨c2, ec2⟩ : ∃ z, z = coT 3 ly 1 c1 := ⟨_, rfl⟩
  obtain ⟨m2, em2⟩ : ∃ z, z = miX 3 (clT 3 ly 1 (hd 1)) m1 := ⟨_, rfl⟩
  obtain ⟨c3, ec3⟩ : ∃ z, z = coT 3 ly 2 c2 := ⟨_, rfl⟩
  obtain ⟨m3, em3⟩ : ∃ z, z = miX 3 (clT 3 ly 2 (hd 1)) m2 := ⟨_, rfl⟩
  refine ⟨c3, m3, ?_⟩
  refine PX1_solve (Nat.le_of_ble_eq_true rfl) (Or.inr rfl) ?_
  intro G hT hC hR
  refine mB hT 3 rfl ?_
  refine hC.1 _ 1 [_, _] _ _ _ _ _ (show KX1_layTable l D ca ad _ _ none (XW n vs be dt 3 ro co m0 ly B hd df) from (by rw [em0, edt, ely]; exact c_lay_7_3)) rfl rfl (Nat.le_of_ble_eq_true rfl) rfl ?_
  refine mB hT 5 rfl ?_
  refine mIf (fun hp => absurd hp (fun q => h0 (lc_eq.mp q))) (fun _ => ?_)
  refine mB hT 3 rfl ?_
  refine hC.2.1 _ [_] _ _ _ _ (c_abs _) rfl (Nat.le_of_ble_eq_true rfl) rfl ?_
  refine mB hT 10 rfl ?_
  refine mWd (w2 := (XW n vs (absX dt) dt 3 ro co m0 ly B hd df)) rfl ?_
  refine hC.2.2 _ 1 [_, _] _ _ _ _ _ (show KX1_determinantWithColumn l D ca ad _ _ (some (.long (detX 3 (clT 3 ly 0 (hd 1))))) (XW n vs (absX dt) dt 3 ro c1 m1 ly B hd df) from (by rw [em1, ec1]; exact c_dwc_1_3_0)) rfl rfl (Nat.le_of_ble_eq_true rfl) rfl ?_
  refine mB hT 9 rfl ?_
  refine mIf (fun hp => absurd hp (fun q => Int64.not_lt.mpr (lc_ge.mp q) hs)) (fun _ => ?_)
  refine mNf (lv2 := [(5, .long (detX 3 (clT 3 ly 0 (hd 1)))), (4, .int 0), (0, .ref 1), (1, .ref 16), (2, .int 3), (3, .ref 24)]) (st2 := [.int 0, .ref 2]) rfl rfl ?_
  refine mB hT 3 rfl ?_
  refine mNf (lv2 := [(5, .long (detX 3 (clT 3 ly 0 (hd 1)))), (4, .int 0), (0, .ref 1), (1, .ref 16), (2, .int 3), (3, .ref 24)]) (st2 := [.long (rr 0), .int 0, .ref 2]) rfl (by rw [hrr 0] <;> rfl) ?_
  refine mB hT 10 rfl ?_
  refine mWd (w2 := (XW n vs (absX dt) dt 3 (up ro 0 (rr 0)) c1 m1 ly B hd df)) rfl ?_
  refine hC.2.2 _ 1 [_, _] _ _ _ _ _ (show KX1_determinantWithColumn l D ca ad _ _ (some (.long (detX 3 (clT 3 ly 1 (hd 1))))) (XW n vs (absX dt) dt 3 (up ro 0 (rr 0)) c2 m2 ly B hd df) from (by rw [em2, ec2]; exact c_dwc_1_3_1)) rfl rfl (Nat.le_of_ble_eq_true rfl) rfl ?_
  refine mB hT 9 rfl ?_
  refine mIf (fun hp => absurd hp (fun q => Int64.not_lt.mpr (lc_ge.mp q) hs)) (fun _ => ?_)
  refine mNf (lv2 := [(5, .long (detX 3 (clT 3 ly 1 (hd 1)))), (4, .int 1), (0, .ref 1), (1, .ref 16), (2, .int 3), (3, .ref 24)]) (st2 := [.int 1, .ref 2]) rfl rfl ?_
  refine mB hT 3 rfl ?_
  refine mNf (lv2 := [(5, .long (detX 3 (clT 3 ly 1 (hd 1)))), (4, .int 1), (0, .ref 1), (1, .ref 16), (2, .int 3), (3, .ref 24)]) (st2 := [.long (rr 1), .int 1, .ref 2]) rfl (by rw [hrr 1] <;> rfl) ?_
  refine mB hT 10 rfl ?_
  refine mWd (w2 := (XW n vs (absX dt) dt 3 (up (up ro 0 (rr 0)) 1 (rr 1)) c2 m2 ly B hd df)) rfl ?_
  refine hC.2.2 _ 1 [_, _] _ _ _ _ _ (show KX1_determinantWithColumn l D ca ad _ _ (some (.long (detX 3 (clT 3 ly 2 (hd 1))))) (XW n vs (absX dt) dt 3 (up (up ro 0 (rr 0)) 1 (rr 1)) c3 m3 ly B hd df) from (by rw [em3, ec3]; exact c_dwc_1_3_2)) rfl rfl (Nat.le_of_ble_eq_true rfl) rfl ?_
  refine mB hT 9 rfl ?_
  refine mIf (fun hp => absurd hp (fun q => Int64.not_lt.mpr (lc_ge.mp q) hs)) (fun _ => ?_)
  refine mNf (lv2 := [(5, .long (detX 3 (clT 3 ly 2 (hd 1)))), (4, .int 2), (0, .ref 1), (1, .ref 16), (2, .int 3), (3, .ref 24)]) (st2 := [.int 2, .ref 2]) rfl rfl ?_
  refine mB hT 3 rfl ?_
  refine mNf (lv2 := [(5, .long (detX 3 (clT 3 ly 2 (hd 1)))), (4, .int 2), (0, .ref 1), (1, .ref 16), (2, .int 3), (3, .ref 24)]) (st2 := [.long (rr 2), .int 2, .ref 2]) rfl (by rw [hrr 2] <;> rfl) ?_
  refine mB hT 8 rfl ?_
  exact hR _ (by decide) _ _ _ rfl rfl
theorem c_solve1_7_3_1 {n vs : Int32} {be de : Int64} {sz : Int32} {ro co mi : Nat → Int64} {T : Nat → Nat → Int64} {B : Nat → Nat → Nat → Int32} {hd : Nat → Nat → Int32} {df : Nat → Int32} (h0 : ¬ detX 3 (lyT 3 (B 7) T) = 0) : ∃ (de2 : Int64) (co2 mi2 : Nat → Int64) (T2 : Nat → Nat → Int64), KX1_solve l D ca ad [.ref 1, .ref 16, .int 3, .ref 24] (XW n vs be de sz ro co mi T B hd df) (some (.int 1)) (XW n vs (absX (detX 3 (lyT 3 (B 7) T))) de2 3 (roX 3 (lyT 3 (B 7) T) (hd 1) ro) co2 mi2 T2 B hd df) := by
  by_cases hs : detX 3 (lyT 3 (B 7) T) < 0
  · obtain ⟨c2, m2, k⟩ := c_solve1_7_3_1n (rr := rdX 3 (lyT 3 (B 7) T) (hd 1)) rfl rfl h0 hs (fun i => if_pos hs)
    exact ⟨_, c2, m2, _, k⟩
  · obtain ⟨c2, m2, k⟩ := c_solve1_7_3_1p (rr := rdX 3 (lyT 3 (B 7) T) (hd 1)) rfl rfl h0 hs (fun i => if_neg hs)
    exact ⟨_, c2, m2, _, k⟩
theorem c_solve0_7_3_2 {n vs : Int32} {be de : Int64} {sz : Int32} {ro co mi : Nat → Int64} {T : Nat → Nat → Int64} {B : Nat → Nat → Nat → Int32} {hd : Nat → Nat → Int32} {df : Nat → Int32} (h0 : detX 3 (lyT 3 (B 7) T) = 0) : ∃ (de2 : Int64) (mi2 : Nat → Int64) (T2 : Nat → Nat → Int64), KX1_solve l D ca ad [.ref 1, .ref 16, .int 3, .ref 25] (XW n vs be de sz ro co mi T B hd df) (some (.int 0)) (XW n vs be de2 3 ro co mi2 T2 B hd df) := by
  obtain ⟨ly, ely⟩ : ∃ z, z = (lyT 3 (B 7) T) := ⟨_, rfl⟩
  rw [← ely] at h0
  obtain ⟨dt, edt⟩ : ∃ z, z = detX 3 ly := ⟨_, rfl⟩
  rw [← edt] at h0
  obtain ⟨m0, em0⟩ : ∃ z, z = miX 3 ly mi := ⟨_, rfl⟩
  refine ⟨dt, m0, ly, ?_⟩
  refine PX1_solve (Nat.le_of_ble_eq_true rfl) (Or.inl rfl) ?_
  intro G hT hC hR
  refine mB hT 3 rfl ?_
  refine hC.1 _ 1 [_, _] _ _ _ _ _ (show KX1_layTable l D ca ad _ _ none (XW n vs be dt 3 ro co m0 ly B hd df) from (by rw [em0, edt, ely]; exact c_lay_7_3)) rfl rfl (Nat.le_of_ble_eq_true rfl) rfl ?_
  refine mB hT 5 rfl ?_
  refine mIf (fun _ => ?_) (fun hn => absurd (lc_eq.mpr h0) hn)
  refine mB hT 1 rfl ?_
  exact hR _ (by decide) _ _ _ rfl rfl
set_option maxRecDepth 20000 in
theorem c_solve1_7_3_2p {n vs : Int32} {be de : Int64} {sz : Int32} {ro co mi : Nat → Int64} {T : Nat → Nat → Int64} {B : Nat → Nat → Nat → Int32} {hd : Nat → Nat → Int32} {df : Nat → Int32} {ly : Nat → Nat → Int64} {dt : Int64} {rr : Nat → Int64} (ely : ly = (lyT 3 (B 7) T)) (edt : dt = detX 3 ly) (h0 : ¬ dt = 0) (hs : ¬ dt < 0) (hrr : ∀ i : Nat, rr i = detX 3 (clT 3 ly i (hd 2))) : ∃ (co2 mi2 : Nat → Int64), KX1_solve l D ca ad [.ref 1, .ref 16, .int 3, .ref 25] (XW n vs be de sz ro co mi T B hd df) (some (.int 1)) (XW n vs (absX dt) dt 3 (roc 3 rr ro) co2 mi2 ly B hd df) := by
  obtain ⟨m0, em0⟩ : ∃ z, z = miX 3 ly mi := ⟨_, rfl⟩
  obtain ⟨c1, ec1⟩ : ∃ z, z = coT 3 ly 0 co := ⟨_, rfl⟩
  obtain ⟨m1, em1⟩ : ∃ z, z = miX 3 (clT 3 ly 0 (hd 2)) m0 := ⟨_, rfl⟩
  obtain ⟨c2, ec2⟩ : ∃ z, z = coT 3 ly 1 c1 := ⟨_, rfl⟩
  obtain ⟨m2, em2⟩ : ∃ z, z = miX 3 (clT 3 ly 1 (hd 2)) m1 := ⟨_, rfl⟩
  obtain ⟨c3, ec3⟩ : ∃ z, z = coT 3 ly 2 c2 := ⟨_, rfl⟩
  obtain ⟨m3, em3⟩ : ∃ z, z = miX 3 (clT 3 ly 2 (hd 2)) m2 := ⟨_, rfl⟩
  refine ⟨c3, m3, ?_⟩
  refine PX1_solve (Nat.le_of_ble_eq_true rfl) (Or.inr rfl) ?_
  intro G hT hC hR
  refine mB hT 3 rfl ?_
  refine hC.1 _ 1 [_, _] _ _ _ _ _ (show KX1_layTable l D ca ad _ _ none (XW n vs be dt 3 ro co m0 ly B hd df) from (by rw [em0, edt, ely]; exact c_lay_7_3)) rfl rfl (Nat.le_of_ble_eq_true rfl) rfl ?_
  refine mB hT 5 rfl ?_
  refine mIf (fun hp => absurd hp (fun q => h0 (lc_eq.mp q))) (fun _ => ?_)
  refine mB hT 3 rfl ?_
  refine hC.2.1 _ [_] _ _ _ _ (c_abs _) rfl (Nat.le_of_ble_eq_true rfl) rfl ?_
  refine mB hT 10 rfl ?_
  refine mWd (w2 := (XW n vs (absX dt) dt 3 ro co m0 ly B hd df)) rfl ?_
  refine hC.2.2 _ 1 [_, _] _ _ _ _ _ (show KX1_determinantWithColumn l D ca ad _ _ (some (.long (detX 3 (clT 3 ly 0 (hd 2))))) (XW n vs (absX dt) dt 3 ro c1 m1 ly B hd df) from (by rw [em1, ec1]; exact c_dwc_2_3_0)) rfl rfl (Nat.le_of_ble_eq_true rfl) rfl ?_
  refine mB hT 9 rfl ?_
  refine mIf (fun _ => ?_) (fun hn => absurd (lc_ge.mpr (Int64.not_lt.mp hs)) hn)
  refine mNf (lv2 := [(5, .long (detX 3 (clT 3 ly 0 (hd 2)))), (4, .int 0), (0, .ref 1), (1, .ref 16), (2, .int 3), (3, .ref 25)]) (st2 := [.int 0, .ref 2]) rfl rfl ?_
  refine mB hT 1 rfl ?_
  refine mNf (lv2 := [(5, .long (detX 3 (clT 3 ly 0 (hd 2)))), (4, .int 0), (0, .ref 1), (1, .ref 16), (2, .int 3), (3, .ref 25)]) (st2 := [.long (rr 0), .int 0, .ref 2]) rfl (by rw [hrr 0] <;> rfl) ?_
  refine mB hT 10 rfl ?_
  refine mWd (w2 := (XW n vs (absX dt) dt 3 (up ro 0 (rr 0)) c1 m1 ly B hd df)) rfl ?_
  refine hC.2.2 _ 1 [_, _] _ _ _ _ _ (show KX1_determinantWithColumn l D ca ad _ _ (some (.long (detX 3 (clT 3 ly 1 (hd 2))))) (XW n vs (absX dt) dt 3 (up ro 0 (rr 0)) c2 m2 ly B hd df) from (by rw [em2, ec2]; exact c_dwc_2_3_1)) rfl rfl (Nat.le_of_ble_eq_true rfl) rfl ?_
  refine mB hT 9 rfl ?_
  refine mIf (fun _ => ?_) (fun hn => absurd (lc_ge.mpr (Int64.not_lt.mp hs)) hn)
  refine mNf (lv2 := [(5, .long (detX 3 (clT 3 ly 1 (hd 2)))), (4, .int 1), (0, .ref 1), (1, .ref 16), (2, .int 3), (3, .ref 25)]) (st2 := [.int 1, .ref 2]) rfl rfl ?_
  refine mB hT 1 rfl ?_
  refine mNf (lv2 := [(5, .long (detX 3 (clT 3 ly 1 (hd 2)))), (4, .int 1), (0, .ref 1), (1, .ref 16), (2, .int 3), (3, .ref 25)]) (st2 := [.long (rr 1), .int 1, .ref 2]) rfl (by rw [hrr 1] <;> rfl) ?_
  refine mB hT 10 rfl ?_
  refine mWd (w2 := (XW n vs (absX dt) dt 3 (up (up ro 0 (rr 0)) 1 (rr 1)) c2 m2 ly B hd df)) rfl ?_
  refine hC.2.2 _ 1 [_, _] _ _ _ _ _ (show KX1_determinantWithColumn l D ca ad _ _ (some (.long (detX 3 (clT 3 ly 2 (hd 2))))) (XW n vs (absX dt) dt 3 (up (up ro 0 (rr 0)) 1 (rr 1)) c3 m3 ly B hd df) from (by rw [em3, ec3]; exact c_dwc_2_3_2)) rfl rfl (Nat.le_of_ble_eq_true rfl) rfl ?_
  refine mB hT 9 rfl ?_
  refine mIf (fun _ => ?_) (fun hn => absurd (lc_ge.mpr (Int64.not_lt.mp hs)) hn)
  refine mNf (lv2 := [(5, .long (detX 3 (clT 3 ly 2 (hd 2)))), (4, .int 2), (0, .ref 1), (1, .ref 16), (2, .int 3), (3, .ref 25)]) (st2 := [.int 2, .ref 2]) rfl rfl ?_
  refine mB hT 1 rfl ?_
  refine mNf (lv2 := [(5, .long (detX 3 (clT 3 ly 2 (hd 2)))), (4, .int 2), (0, .ref 1), (1, .ref 16), (2, .int 3), (3, .ref 25)]) (st2 := [.long (rr 2), .int 2, .ref 2]) rfl (by rw [hrr 2] <;> rfl) ?_
  refine mB hT 8 rfl ?_
  exact hR _ (by decide) _ _ _ rfl rfl
set_option maxRecDepth 20000 in
theorem c_solve1_7_3_2n {n vs : Int32} {be de : Int64} {sz : Int32} {ro co mi : Nat → Int64} {T : Nat → Nat → Int64} {B : Nat → Nat → Nat → Int32} {hd : Nat → Nat → Int32} {df : Nat → Int32} {ly : Nat → Nat → Int64} {dt : Int64} {rr : Nat → Int64} (ely : ly = (lyT 3 (B 7) T)) (edt : dt = detX 3 ly) (h0 : ¬ dt = 0) (hs : dt < 0) (hrr : ∀ i : Nat, rr i = -(detX 3 (clT 3 ly i (hd 2)))) : ∃ (co2 mi2 : Nat → Int64), KX1_solve l D ca ad [.ref 1, .ref 16, .int 3, .ref 25] (XW n vs be de sz ro co mi T B hd df) (some (.int 1)) (XW n vs (absX dt) dt 3 (roc 3 rr ro) co2 mi2 ly B hd df) := by
  obtain ⟨m0, em0⟩ : ∃ z, z = miX 3 ly mi := ⟨_, rfl⟩
  obtain ⟨c1, ec1⟩ : ∃ z, z = coT 3 ly 0 co := ⟨_, rfl⟩
  obtain ⟨m1, em1⟩ : ∃ z, z = miX 3 (clT 3 ly 0 (hd 2)) m0 := ⟨_, rfl⟩
  obtain ⟨c2, ec2⟩ : ∃ z, z = coT 3 ly 1 c1 := ⟨_, rfl⟩
  obtain ⟨m2, em2⟩ : ∃ z, z = miX 3 (clT 3 ly 1 (hd 2)) m1 := ⟨_, rfl⟩
  obtain ⟨c3, ec3⟩ : ∃ z, z = coT 3 ly 2 c2 := ⟨_, rfl⟩
  obtain ⟨m3, em3⟩ : ∃ z, z = miX 3 (clT 3 ly 2 (hd 2)) m2 := ⟨_, rfl⟩
  refine ⟨c3, m3, ?_⟩
  refine PX1_solve (Nat.le_of_ble_eq_true rfl) (Or.inr rfl) ?_
  intro G hT hC hR
  refine mB hT 3 rfl ?_
  refine hC.1 _ 1 [_, _] _ _ _ _ _ (show KX1_layTable l D ca ad _ _ none (XW n vs be dt 3 ro co m0 ly B hd df) from (by rw [em0, edt, ely]; exact c_lay_7_3)) rfl rfl (Nat.le_of_ble_eq_true rfl) rfl ?_
  refine mB hT 5 rfl ?_
  refine mIf (fun hp => absurd hp (fun q => h0 (lc_eq.mp q))) (fun _ => ?_)
  refine mB hT 3 rfl ?_
  refine hC.2.1 _ [_] _ _ _ _ (c_abs _) rfl (Nat.le_of_ble_eq_true rfl) rfl ?_
  refine mB hT 10 rfl ?_
  refine mWd (w2 := (XW n vs (absX dt) dt 3 ro co m0 ly B hd df)) rfl ?_
  refine hC.2.2 _ 1 [_, _] _ _ _ _ _ (show KX1_determinantWithColumn l D ca ad _ _ (some (.long (detX 3 (clT 3 ly 0 (hd 2))))) (XW n vs (absX dt) dt 3 ro c1 m1 ly B hd df) from (by rw [em1, ec1]; exact c_dwc_2_3_0)) rfl rfl (Nat.le_of_ble_eq_true rfl) rfl ?_
  refine mB hT 9 rfl ?_
  refine mIf (fun hp => absurd hp (fun q => Int64.not_lt.mpr (lc_ge.mp q) hs)) (fun _ => ?_)
  refine mNf (lv2 := [(5, .long (detX 3 (clT 3 ly 0 (hd 2)))), (4, .int 0), (0, .ref 1), (1, .ref 16), (2, .int 3), (3, .ref 25)]) (st2 := [.int 0, .ref 2]) rfl rfl ?_
  refine mB hT 3 rfl ?_
  refine mNf (lv2 := [(5, .long (detX 3 (clT 3 ly 0 (hd 2)))), (4, .int 0), (0, .ref 1), (1, .ref 16), (2, .int 3), (3, .ref 25)]) (st2 := [.long (rr 0), .int 0, .ref 2]) rfl (by rw [hrr 0] <;> rfl) ?_
  refine mB hT 10 rfl ?_
  refine mWd (w2 := (XW n vs (absX dt) dt 3 (up ro 0 (rr 0)) c1 m1 ly B hd df)) rfl ?_
  refine hC.2.2 _ 1 [_, _] _ _ _ _ _ (show KX1_determinantWithColumn l D ca ad _ _ (some (.long (detX 3 (clT 3 ly 1 (hd 2))))) (XW n vs (absX dt) dt 3 (up ro 0 (rr 0)) c2 m2 ly B hd df) from (by rw [em2, ec2]; exact c_dwc_2_3_1)) rfl rfl (Nat.le_of_ble_eq_true rfl) rfl ?_
  refine mB hT 9 rfl ?_
  refine mIf (fun hp => absurd hp (fun q => Int64.not_lt.mpr (lc_ge.mp q) hs)) (fun _ => ?_)
  refine mNf (lv2 := [(5, .long (detX 3 (clT 3 ly 1 (hd 2)))), (4, .int 1), (0, .ref 1), (1, .ref 16), (2, .int 3), (3, .ref 25)]) (st2 := [.int 1, .ref 2]) rfl rfl ?_
  refine mB hT 3 rfl ?_
  refine mNf (lv2 := [(5, .long (detX 3 (clT 3 ly 1 (hd 2)))), (4, .int 1), (0, .ref 1), (1, .ref 16), (2, .int 3), (3, .ref 25)]) (st2 := [.long (rr 1), .int 1, .ref 2]) rfl (by rw [hrr 1] <;> rfl) ?_
  refine mB hT 10 rfl ?_
  refine mWd (w2 := (XW n vs (absX dt) dt 3 (up (up ro 0 (rr 0)) 1 (rr 1)) c2 m2 ly B hd df)) rfl ?_
  refine hC.2.2 _ 1 [_, _] _ _ _ _ _ (show KX1_determinantWithColumn l D ca ad _ _ (some (.long (detX 3 (clT 3 ly 2 (hd 2))))) (XW n vs (absX dt) dt 3 (up (up ro 0 (rr 0)) 1 (rr 1)) c3 m3 ly B hd df) from (by rw [em3, ec3]; exact c_dwc_2_3_2)) rfl rfl (Nat.le_of_ble_eq_true rfl) rfl ?_
  refine mB hT 9 rfl ?_
  refine mIf (fun hp => absurd hp (fun q => Int64.not_lt.mpr (lc_ge.mp q) hs)) (fun _ => ?_)
  refine mNf (lv2 := [(5, .long (detX 3 (clT 3 ly 2 (hd 2)))), (4, .int 2), (0, .ref 1), (1, .ref 16), (2, .int 3), (3, .ref 25)]) (st2 := [.int 2, .ref 2]) rfl rfl ?_
  refine mB hT 3 rfl ?_
  refine mNf (lv2 := [(5, .long (detX 3 (clT 3 ly 2 (hd 2)))), (4, .int 2), (0, .ref 1), (1, .ref 16), (2, .int 3), (3, .ref 25)]) (st2 := [.long (rr 2), .int 2, .ref 2]) rfl (by rw [hrr 2] <;> rfl) ?_
  refine mB hT 8 rfl ?_
  exact hR _ (by decide) _ _ _ rfl rfl
theorem c_solve1_7_3_2 {n vs : Int32} {be de : Int64} {sz : Int32} {ro co mi : Nat → Int64} {T : Nat → Nat → Int64} {B : Nat → Nat → Nat → Int32} {hd : Nat → Nat → Int32} {df : Nat → Int32} (h0 : ¬ detX 3 (lyT 3 (B 7) T) = 0) : ∃ (de2 : Int64) (co2 mi2 : Nat → Int64) (T2 : Nat → Nat → Int64), KX1_solve l D ca ad [.ref 1, .ref 16, .int 3, .ref 25] (XW n vs be de sz ro co mi T B hd df) (some (.int 1)) (XW n vs (absX (detX 3 (lyT 3 (B 7) T))) de2 3 (roX 3 (lyT 3 (B 7) T) (hd 2) ro) co2 mi2 T2 B hd df) := by
  by_cases hs : detX 3 (lyT 3 (B 7) T) < 0
  · obtain ⟨c2, m2, k⟩ := c_solve1_7_3_2n (rr := rdX 3 (lyT 3 (B 7) T) (hd 2)) rfl rfl h0 hs (fun i => if_pos hs)
    exact ⟨_, c2, m2, _, k⟩
  · obtain ⟨c2, m2, k⟩ := c_solve1_7_3_2p (rr := rdX 3 (lyT 3 (B 7) T) (hd 2)) rfl rfl h0 hs (fun i => if_neg hs)
    exact ⟨_, c2, m2, _, k⟩
theorem c_solve0_7_3_3 {n vs : Int32} {be de : Int64} {sz : Int32} {ro co mi : Nat → Int64} {T : Nat → Nat → Int64} {B : Nat → Nat → Nat → Int32} {hd : Nat → Nat → Int32} {df : Nat → Int32} (h0 : detX 3 (lyT 3 (B 7) T) = 0) : ∃ (de2 : Int64) (mi2 : Nat → Int64) (T2 : Nat → Nat → Int64), KX1_solve l D ca ad [.ref 1, .ref 16, .int 3, .ref 26] (XW n vs be de sz ro co mi T B hd df) (some (.int 0)) (XW n vs be de2 3 ro co mi2 T2 B hd df) := by
  obtain ⟨ly, ely⟩ : ∃ z, z = (lyT 3 (B 7) T) := ⟨_, rfl⟩
  rw [← ely] at h0
  obtain ⟨dt, edt⟩ : ∃ z, z = detX 3 ly := ⟨_, rfl⟩
  rw [← edt] at h0
  obtain ⟨m0, em0⟩ : ∃ z, z = miX 3 ly mi := ⟨_, rfl⟩
  refine ⟨dt, m0, ly, ?_⟩
  refine PX1_solve (Nat.le_of_ble_eq_true rfl) (Or.inl rfl) ?_
  intro G hT hC hR
  refine mB hT 3 rfl ?_
  refine hC.1 _ 1 [_, _] _ _ _ _ _ (show KX1_layTable l D ca ad _ _ none (XW n vs be dt 3 ro co m0 ly B hd df) from (by rw [em0, edt, ely]; exact c_lay_7_3)) rfl rfl (Nat.le_of_ble_eq_true rfl) rfl ?_
  refine mB hT 5 rfl ?_
  refine mIf (fun _ => ?_) (fun hn => absurd (lc_eq.mpr h0) hn)
  refine mB hT 1 rfl ?_
  exact hR _ (by decide) _ _ _ rfl rfl
set_option maxRecDepth 20000 in
theorem c_solve1_7_3_3p {n vs : Int32} {be de : Int64} {sz : Int32} {ro co mi : Nat → Int64} {T : Nat → Nat → Int64} {B : Nat → Nat → Nat → Int32} {hd : Nat → Nat → Int32} {df : Nat → Int32} {ly : Nat → Nat → Int64} {dt : Int64} {rr : Nat → Int64} (ely : ly = (lyT 3 (B 7) T)) (edt : dt = detX 3 ly) (h0 : ¬ dt = 0) (hs : ¬ dt < 0) (hrr : ∀ i : Nat, rr i = detX 3 (clT 3 ly i (hd 3))) : ∃ (co2 mi2 : Nat → Int64), KX1_solve l D ca ad [.ref 1, .ref 16, .int 3, .ref 26] (XW n vs be de sz ro co mi T B hd df) (some (.int 1)) (XW n vs (absX dt) dt 3 (roc 3 rr ro) co2 mi2 ly B hd df) := by
  obtain ⟨m0, em0⟩ : ∃ z, z = miX 3 ly mi := ⟨_, rfl⟩
  obtain ⟨c1, ec1⟩ : ∃ z, z = coT 3 ly 0 co := ⟨_, rfl⟩
  obtain ⟨m1, em1⟩ : ∃ z, z = miX 3 (clT 3 ly 0 (hd 3)) m0 := ⟨_, rfl⟩
  obtain ⟨c2, ec2⟩ : ∃ z, z = coT 3 ly 1 c1 := ⟨_, rfl⟩
  obtain ⟨m2, em2⟩ : ∃ z, z = miX 3 (clT 3 ly 1 (hd 3)) m1 := ⟨_, rfl⟩
  obtain ⟨c3, ec3⟩ : ∃ z, z = coT 3 ly 2 c2 := ⟨_, rfl⟩
  obtain ⟨m3, em3⟩ : ∃ z, z = miX 3 (clT 3 ly 2 (hd 3)) m2 := ⟨_, rfl⟩
  refine ⟨c3, m3, ?_⟩
  refine PX1_solve (Nat.le_of_ble_eq_true rfl) (Or.inr rfl) ?_
  intro G hT hC hR
  refine mB hT 3 rfl ?_
  refine hC.1 _ 1 [_, _] _ _ _ _ _ (show KX1_layTable l D ca ad _ _ none (XW n vs be dt 3 ro co m0 ly B hd df) from (by rw [em0, edt, ely]; exact c_lay_7_3)) rfl rfl (Nat.le_of_ble_eq_true rfl) rfl ?_
  refine mB hT 5 rfl ?_
  refine mIf (fun hp => absurd hp (fun q => h0 (lc_eq.mp q))) (fun _ => ?_)
  refine mB hT 3 rfl ?_
  refine hC.2.1 _ [_] _ _ _ _ (c_abs _) rfl (Nat.le_of_ble_eq_true rfl) rfl ?_
  refine mB hT 10 rfl ?_
  refine mWd (w2 := (XW n vs (absX dt) dt 3 ro co m0 ly B hd df)) rfl ?_
  refine hC.2.2 _ 1 [_, _] _ _ _ _ _ (show KX1_determinantWithColumn l D ca ad _ _ (some (.long (detX 3 (clT 3 ly 0 (hd 3))))) (XW n vs (absX dt) dt 3 ro c1 m1 ly B hd df) from (by rw [em1, ec1]; exact c_dwc_3_3_0)) rfl rfl (Nat.le_of_ble_eq_true rfl) rfl ?_
  refine mB hT 9 rfl ?_
  refine mIf (fun _ => ?_) (fun hn => absurd (lc_ge.mpr (Int64.not_lt.mp hs)) hn)
  refine mNf (lv2 := [(5, .long (detX 3 (clT 3 ly 0 (hd 3)))), (4, .int 0), (0, .ref 1), (1, .ref 16), (2, .int 3), (3, .ref 26)]) (st2 := [.int 0, .ref 2]) rfl rfl ?_
  refine mB hT 1 rfl ?_
  refine mNf (lv2 := [(5, .long (detX 3 (clT 3 ly 0 (hd 3)))), (4, .int 0), (0, .ref 1), (1, .ref 16), (2, .int 3), (3, .ref 26)]) (st2 := [.long (rr 0), .int 0, .ref 2]) rfl (by rw [hrr 0] <;> rfl) ?_
  refine mB hT 10 rfl ?_
  refine mWd (w2 := (XW n vs (absX dt) dt 3 (up ro 0 (rr 0)) c1 m1 ly B hd df)) rfl ?_
  refine hC.2.2 _ 1 [_, _] _ _ _ _ _ (show KX1_determinantWithColumn l D ca ad _ _ (some (.long (detX 3 (clT 3 ly 1 (hd 3))))) (XW n vs (absX dt) dt 3 (up ro 0 (rr 0)) c2 m2 ly B hd df) from (by rw [em2, ec2]; exact c_dwc_3_3_1)) rfl rfl (Nat.le_of_ble_eq_true rfl) rfl ?_
  refine mB hT 9 rfl ?_
  refine mIf (fun _ => ?_) (fun hn => absurd (lc_ge.mpr (Int64.not_lt.mp hs)) hn)
  refine mNf (lv2 := [(5, .long (detX 3 (clT 3 ly 1 (hd 3)))), (4, .int 1), (0, .ref 1), (1, .ref 16), (2, .int 3), (3, .ref 26)]) (st2 := [.int 1, .ref 2]) rfl rfl ?_
  refine mB hT 1 rfl ?_
  refine mNf (lv2 := [(5, .long (detX 3 (clT 3 ly 1 (hd 3)))), (4, .int 1), (0, .ref 1), (1, .ref 16), (2, .int 3), (3, .ref 26)]) (st2 := [.long (rr 1), .int 1, .ref 2]) rfl (by rw [hrr 1] <;> rfl) ?_
  refine mB hT 10 rfl ?_
  refine mWd (w2 := (XW n vs (absX dt) dt 3 (up (up ro 0 (rr 0)) 1 (rr 1)) c2 m2 ly B hd df)) rfl ?_
  refine hC.2.2 _ 1 [_, _] _ _ _ _ _ (show KX1_determinantWithColumn l D ca ad _ _ (some (.long (detX 3 (clT 3 ly 2 (hd 3))))) (XW n vs (absX dt) dt 3 (up (up ro 0 (rr 0)) 1 (rr 1)) c3 m3 ly B hd df) from (by rw [em3, ec3]; exact c_dwc_3_3_2)) rfl rfl (Nat.le_of_ble_eq_true rfl) rfl ?_
  refine mB hT 9 rfl ?_
  refine mIf (fun _ => ?_) (fun hn => absurd (lc_ge.mpr (Int64.not_lt.mp hs)) hn)
  refine mNf (lv2 := [(5, .long (detX 3 (clT 3 ly 2 (hd 3)))), (4, .int 2), (0, .ref 1), (1, .ref 16), (2, .int 3), (3, .ref 26)]) (st2 := [.int 2, .ref 2]) rfl rfl ?_
  refine mB hT 1 rfl ?_
  refine mNf (lv2 := [(5, .long (detX 3 (clT 3 ly 2 (hd 3)))), (4, .int 2), (0, .ref 1), (1, .ref 16), (2, .int 3), (3, .ref 26)]) (st2 := [.long (rr 2), .int 2, .ref 2]) rfl (by rw [hrr 2] <;> rfl) ?_
  refine mB hT 8 rfl ?_
  exact hR _ (by decide) _ _ _ rfl rfl
set_option maxRecDepth 20000 in
theorem c_solve1_7_3_3n {n vs : Int32} {be de : Int64} {sz : Int32} {ro co mi : Nat → Int64} {T : Nat → Nat → Int64} {B : Nat → Nat → Nat → Int32} {hd : Nat → Nat → Int32} {df : Nat → Int32} {ly : Nat → Nat → Int64} {dt : Int64} {rr : Nat → Int64} (ely : ly = (lyT 3 (B 7) T)) (edt : dt = detX 3 ly) (h0 : ¬ dt = 0) (hs : dt < 0) (hrr : ∀ i : Nat, rr i = -(detX 3 (clT 3 ly i (hd 3)))) : ∃ (co2 mi2 : Nat → Int64), KX1_solve l D ca ad [.ref 1, .ref 16, .int 3, .ref 26] (XW n vs be de sz ro co mi T B hd df) (some (.int 1)) (XW n vs (absX dt) dt 3 (roc 3 rr ro) co2 mi2 ly B hd df) := by
  obtain ⟨m0, em0⟩ : ∃ z, z = miX 3 ly mi := ⟨_, rfl⟩
  obtain ⟨c1, ec1⟩ : ∃ z, z = coT 3 ly 0 co := ⟨_, rfl⟩
  obtain ⟨m1, em1⟩ : ∃ z, z = miX 3 (clT 3 ly 0 (hd 3)) m0 := ⟨_, rfl⟩
  obtain ⟨c2, ec2⟩ : ∃ z, z = coT 3 ly 1 c1 := ⟨_, rfl⟩
  obtain ⟨m2, em2⟩ : ∃ z, z = miX 3 (clT 3 ly 1 (hd 3)) m1 := ⟨_, rfl⟩
  obtain ⟨c3, ec3⟩ : ∃ z, z = coT 3 ly 2 c2 := ⟨_, rfl⟩
  obtain ⟨m3, em3⟩ : ∃ z, z = miX 3 (clT 3 ly 2 (hd 3)) m2 := ⟨_, rfl⟩
  refine ⟨c3, m3, ?_⟩
  refine PX1_solve (Nat.le_of_ble_eq_true rfl) (Or.inr rfl) ?_
  intro G hT hC hR
  refine mB hT 3 rfl ?_
  refine hC.1 _ 1 [_, _] _ _ _ _ _ (show KX1_layTable l D ca ad _ _ none (XW n vs be dt 3 ro co m0 ly B hd df) from (by rw [em0, edt, ely]; exact c_lay_7_3)) rfl rfl (Nat.le_of_ble_eq_true rfl) rfl ?_
  refine mB hT 5 rfl ?_
  refine mIf (fun hp => absurd hp (fun q => h0 (lc_eq.mp q))) (fun _ => ?_)
  refine mB hT 3 rfl ?_
  refine hC.2.1 _ [_] _ _ _ _ (c_abs _) rfl (Nat.le_of_ble_eq_true rfl) rfl ?_
  refine mB hT 10 rfl ?_
  refine mWd (w2 := (XW n vs (absX dt) dt 3 ro co m0 ly B hd df)) rfl ?_
  refine hC.2.2 _ 1 [_, _] _ _ _ _ _ (show KX1_determinantWithColumn l D ca ad _ _ (some (.long (detX 3 (clT 3 ly 0 (hd 3))))) (XW n vs (absX dt) dt 3 ro c1 m1 ly B hd df) from (by rw [em1, ec1]; exact c_dwc_3_3_0)) rfl rfl (Nat.le_of_ble_eq_true rfl) rfl ?_
  refine mB hT 9 rfl ?_
  refine mIf (fun hp => absurd hp (fun q => Int64.not_lt.mpr (lc_ge.mp q) hs)) (fun _ => ?_)
  refine mNf (lv2 := [(5, .long (detX 3 (clT 3 ly 0 (hd 3)))), (4, .int 0), (0, .ref 1), (1, .ref 16), (2, .int 3), (3, .ref 26)]) (st2 := [.int 0, .ref 2]) rfl rfl ?_
  refine mB hT 3 rfl ?_
  refine mNf (lv2 := [(5, .long (detX 3 (clT 3 ly 0 (hd 3)))), (4, .int 0), (0, .ref 1), (1, .ref 16), (2, .int 3), (3, .ref 26)]) (st2 := [.long (rr 0), .int 0, .ref 2]) rfl (by rw [hrr 0] <;> rfl) ?_
  refine mB hT 10 rfl ?_
  refine mWd (w2 := (XW n vs (absX dt) dt 3 (up ro 0 (rr 0)) c1 m1 ly B hd df)) rfl ?_
  refine hC.2.2 _ 1 [_, _] _ _ _ _ _ (show KX1_determinantWithColumn l D ca ad _ _ (some (.long (detX 3 (clT 3 ly 1 (hd 3))))) (XW n vs (absX dt) dt 3 (up ro 0 (rr 0)) c2 m2 ly B hd df) from (by rw [em2, ec2]; exact c_dwc_3_3_1)) rfl rfl (Nat.le_of_ble_eq_true rfl) rfl ?_
  refine mB hT 9 rfl ?_
  refine mIf (fun hp => absurd hp (fun q => Int64.not_lt.mpr (lc_ge.mp q) hs)) (fun _ => ?_)
  refine mNf (lv2 := [(5, .long (detX 3 (clT 3 ly 1 (hd 3)))), (4, .int 1), (0, .ref 1), (1, .ref 16), (2, .int 3), (3, .ref 26)]) (st2 := [.int 1, .ref 2]) rfl rfl ?_
  refine mB hT 3 rfl ?_
  refine mNf (lv2 := [(5, .long (detX 3 (clT 3 ly 1 (hd 3)))), (4, .int 1), (0, .ref 1), (1, .ref 16), (2, .int 3), (3, .ref 26)]) (st2 := [.long (rr 1), .int 1, .ref 2]) rfl (by rw [hrr 1] <;> rfl) ?_
  refine mB hT 10 rfl ?_
  refine mWd (w2 := (XW n vs (absX dt) dt 3 (up (up ro 0 (rr 0)) 1 (rr 1)) c2 m2 ly B hd df)) rfl ?_
  refine hC.2.2 _ 1 [_, _] _ _ _ _ _ (show KX1_determinantWithColumn l D ca ad _ _ (some (.long (detX 3 (clT 3 ly 2 (hd 3))))) (XW n vs (absX dt) dt 3 (up (up ro 0 (rr 0)) 1 (rr 1)) c3 m3 ly B hd df) from (by rw [em3, ec3]; exact c_dwc_3_3_2)) rfl rfl (Nat.le_of_ble_eq_true rfl) rfl ?_
  refine mB hT 9 rfl ?_
  refine mIf (fun hp => absurd hp (fun q => Int64.not_lt.mpr (lc_ge.mp q) hs)) (fun _ => ?_)
  refine mNf (lv2 := [(5, .long (detX 3 (clT 3 ly 2 (hd 3)))), (4, .int 2), (0, .ref 1), (1, .ref 16), (2, .int 3), (3, .ref 26)]) (st2 := [.int 2, .ref 2]) rfl rfl ?_
  refine mB hT 3 rfl ?_
  refine mNf (lv2 := [(5, .long (detX 3 (clT 3 ly 2 (hd 3)))), (4, .int 2), (0, .ref 1), (1, .ref 16), (2, .int 3), (3, .ref 26)]) (st2 := [.long (rr 2), .int 2, .ref 2]) rfl (by rw [hrr 2] <;> rfl) ?_
  refine mB hT 8 rfl ?_
  exact hR _ (by decide) _ _ _ rfl rfl
theorem c_solve1_7_3_3 {n vs : Int32} {be de : Int64} {sz : Int32} {ro co mi : Nat → Int64} {T : Nat → Nat → Int64} {B : Nat → Nat → Nat → Int32} {hd : Nat → Nat → Int32} {df : Nat → Int32} (h0 : ¬ detX 3 (lyT 3 (B 7) T) = 0) : ∃ (de2 : Int64) (co2 mi2 : Nat → Int64) (T2 : Nat → Nat → Int64), KX1_solve l D ca ad [.ref 1, .ref 16, .int 3, .ref 26] (XW n vs be de sz ro co mi T B hd df) (some (.int 1)) (XW n vs (absX (detX 3 (lyT 3 (B 7) T))) de2 3 (roX 3 (lyT 3 (B 7) T) (hd 3) ro) co2 mi2 T2 B hd df) := by
  by_cases hs : detX 3 (lyT 3 (B 7) T) < 0
  · obtain ⟨c2, m2, k⟩ := c_solve1_7_3_3n (rr := rdX 3 (lyT 3 (B 7) T) (hd 3)) rfl rfl h0 hs (fun i => if_pos hs)
    exact ⟨_, c2, m2, _, k⟩
  · obtain ⟨c2, m2, k⟩ := c_solve1_7_3_3p (rr := rdX 3 (lyT 3 (B 7) T) (hd 3)) rfl rfl h0 hs (fun i => if_neg hs)
    exact ⟨_, c2, m2, _, k⟩
theorem c_solve0_7_3_4 {n vs : Int32} {be de : Int64} {sz : Int32} {ro co mi : Nat → Int64} {T : Nat → Nat → Int64} {B : Nat → Nat → Nat → Int32} {hd : Nat → Nat → Int32} {df : Nat → Int32} (h0 : detX 3 (lyT 3 (B 7) T) = 0) : ∃ (de2 : Int64) (mi2 : Nat → Int64) (T2 : Nat → Nat → Int64), KX1_solve l D ca ad [.ref 1, .ref 16, .int 3, .ref 27] (XW n vs be de sz ro co mi T B hd df) (some (.int 0)) (XW n vs be de2 3 ro co mi2 T2 B hd df) := by
  obtain ⟨ly, ely⟩ : ∃ z, z = (lyT 3 (B 7) T) := ⟨_, rfl⟩
  rw [← ely] at h0
  obtain ⟨dt, edt⟩ : ∃ z, z = detX 3 ly := ⟨_, rfl⟩
  rw [← edt] at h0
  obtain ⟨m0, em0⟩ : ∃ z, z = miX 3 ly mi := ⟨_, rfl⟩
  refine ⟨dt, m0, ly, ?_⟩
  refine PX1_solve (Nat.le_of_ble_eq_true rfl) (Or.inl rfl) ?_
  intro G hT hC hR
  refine mB hT 3 rfl ?_
  refine hC.1 _ 1 [_, _] _ _ _ _ _ (show KX1_layTable l D ca ad _ _ none (XW n vs be dt 3 ro co m0 ly B hd df) from (by rw [em0, edt, ely]; exact c_lay_7_3)) rfl rfl (Nat.le_of_ble_eq_true rfl) rfl ?_
  refine mB hT 5 rfl ?_
  refine mIf (fun _ => ?_) (fun hn => absurd (lc_eq.mpr h0) hn)
  refine mB hT 1 rfl ?_
  exact hR _ (by decide) _ _ _ rfl rfl
set_option maxRecDepth 20000 in
theorem c_solve1_7_3_4p {n vs : Int32} {be de : Int64} {sz : Int32} {ro co mi : Nat → Int64} {T : Nat → Nat → Int64} {B : Nat → Nat → Nat → Int32} {hd : Nat → Nat → Int32} {df : Nat → Int32} {ly : Nat → Nat → Int64} {dt : Int64} {rr : Nat → Int64} (ely : ly = (lyT 3 (B 7) T)) (edt : dt = detX 3 ly) (h0 : ¬ dt = 0) (hs : ¬ dt < 0) (hrr : ∀ i : Nat, rr i = detX 3 (clT 3 ly i df)) : ∃ (co2 mi2 : Nat → Int64), KX1_solve l D ca ad [.ref 1, .ref 16, .int 3, .ref 27] (XW n vs be de sz ro co mi T B hd df) (some (.int 1)) (XW n vs (absX dt) dt 3 (roc 3 rr ro) co2 mi2 ly B hd df) := by
  obtain ⟨m0, em0⟩ : ∃ z, z = miX 3 ly mi := ⟨_, rfl⟩
  obtain ⟨c1, ec1⟩ : ∃ z, z = coT 3 ly 0 co := ⟨_, rfl⟩
  obtain ⟨m1, em1⟩ : ∃ z, z = miX 3 (clT 3 ly 0 df) m0 := ⟨_, rfl⟩
  obtain ⟨c2, ec2⟩ : ∃ z, z = coT 3 ly 1 c1 := ⟨_, rfl⟩
  obtain ⟨m2, em2⟩ : ∃ z, z = miX 3 (clT 3 ly 1 df) m1 := ⟨_, rfl⟩
  obtain ⟨c3, ec3⟩ : ∃ z, z = coT 3 ly 2 c2 := ⟨_, rfl⟩
  obtain ⟨m3, em3⟩ : ∃ z, z = miX 3 (clT 3 ly 2 df) m2 := ⟨_, rfl⟩
  refine ⟨c3, m3, ?_⟩
  refine PX1_solve (Nat.le_of_ble_eq_true rfl) (Or.inr rfl) ?_
  intro G hT hC hR
  refine mB hT 3 rfl ?_
  refine hC.1 _ 1 [_, _] _ _ _ _ _ (show KX1_layTable l D ca ad _ _ none (XW n vs be dt 3 ro co m0 ly B hd df) from (by rw [em0, edt, ely]; exact c_lay_7_3)) rfl rfl (Nat.le_of_ble_eq_true rfl) rfl ?_
  refine mB hT 5 rfl ?_
  refine mIf (fun hp => absurd hp (fun q => h0 (lc_eq.mp q))) (fun _ => ?_)
  refine mB hT 3 rfl ?_
  refine hC.2.1 _ [_] _ _ _ _ (c_abs _) rfl (Nat.le_of_ble_eq_true rfl) rfl ?_
  refine mB hT 10 rfl ?_
  refine mWd (w2 := (XW n vs (absX dt) dt 3 ro co m0 ly B hd df)) rfl ?_
  refine hC.2.2 _ 1 [_, _] _ _ _ _ _ (show KX1_determinantWithColumn l D ca ad _ _ (some (.long (detX 3 (clT 3 ly 0 df)))) (XW n vs (absX dt) dt 3 ro c1 m1 ly B hd df) from (by rw [em1, ec1]; exact c_dwc_4_3_0)) rfl rfl (Nat.le_of_ble_eq_true rfl) rfl ?_
  refine mB hT 9 rfl ?_
  refine mIf (fun _ => ?_) (fun hn => absurd (lc_ge.mpr (Int64.not_lt.mp hs)) hn)
  refine mNf (lv2 := [(5, .long (detX 3 (clT 3 ly 0 df))), (4, .int 0), (0, .ref 1), (1, .ref 16), (2, .int 3), (3, .ref 27)]) (st2 := [.int 0, .ref 2]) rfl rfl ?_
  refine mB hT 1 rfl ?_
  refine mNf (lv2 := [(5, .long (detX 3 (clT 3 ly 0 df))), (4, .int 0), (0, .ref 1), (1, .ref 16), (2, .int 3), (3, .ref 27)]) (st2 := [.long (rr 0), .int 0, .ref 2]) rfl (by rw [hrr 0] <;> rfl) ?_
  refine mB hT 10 rfl ?_
  refine mWd (w2 := (XW n vs (absX dt) dt 3 (up ro 0 (rr 0)) c1 m1 ly B hd df)) rfl ?_
  refine hC.2.2 _ 1 [_, _] _ _ _ _ _ (show KX1_determinantWithColumn l D ca ad _ _ (some (.long (detX 3 (clT 3 ly 1 df)))) (XW n vs (absX dt) dt 3 (up ro 0 (rr 0)) c2 m2 ly B hd df) from (by rw [em2, ec2]; exact c_dwc_4_3_1)) rfl rfl (Nat.le_of_ble_eq_true rfl) rfl ?_
  refine mB hT 9 rfl ?_
  refine mIf (fun _ => ?_) (fun hn => absurd (lc_ge.mpr (Int64.not_lt.mp hs)) hn)
  refine mNf (lv2 := [(5, .long (detX 3 (clT 3 ly 1 df))), (4, .int 1), (0, .ref 1), (1, .ref 16), (2, .int 3), (3, .ref 27)]) (st2 := [.int 1, .ref 2]) rfl rfl ?_
  refine mB hT 1 rfl ?_
  refine mNf (lv2 := [(5, .long (detX 3 (clT 3 ly 1 df))), (4, .int 1), (0, .ref 1), (1, .ref 16), (2, .int 3), (3, .ref 27)]) (st2 := [.long (rr 1), .int 1, .ref 2]) rfl (by rw [hrr 1] <;> rfl) ?_
  refine mB hT 10 rfl ?_
  refine mWd (w2 := (XW n vs (absX dt) dt 3 (up (up ro 0 (rr 0)) 1 (rr 1)) c2 m2 ly B hd df)) rfl ?_
  refine hC.2.2 _ 1 [_, _] _ _ _ _ _ (show KX1_determinantWithColumn l D ca ad _ _ (some (.long (detX 3 (clT 3 ly 2 df)))) (XW n vs (absX dt) dt 3 (up (up ro 0 (rr 0)) 1 (rr 1)) c3 m3 ly B hd df) from (by rw [em3, ec3]; exact c_dwc_4_3_2)) rfl rfl (Nat.le_of_ble_eq_true rfl) rfl ?_
  refine mB hT 9 rfl ?_
  refine mIf (fun _ => ?_) (fun hn => absurd (lc_ge.mpr (Int64.not_lt.mp hs)) hn)
  refine mNf (lv2 := [(5, .long (detX 3 (clT 3 ly 2 df))), (4, .int 2), (0, .ref 1), (1, .ref 16), (2, .int 3), (3, .ref 27)]) (st2 := [.int 2, .ref 2]) rfl rfl ?_
  refine mB hT 1 rfl ?_
  refine mNf (lv2 := [(5, .long (detX 3 (clT 3 ly 2 df))), (4, .int 2), (0, .ref 1), (1, .ref 16), (2, .int 3), (3, .ref 27)]) (st2 := [.long (rr 2), .int 2, .ref 2]) rfl (by rw [hrr 2] <;> rfl) ?_
  refine mB hT 8 rfl ?_
  exact hR _ (by decide) _ _ _ rfl rfl
set_option maxRecDepth 20000 in
theorem c_solve1_7_3_4n {n vs : Int32} {be de : Int64} {sz : Int32} {ro co mi : Nat → Int64} {T : Nat → Nat → Int64} {B : Nat → Nat → Nat → Int32} {hd : Nat → Nat → Int32} {df : Nat → Int32} {ly : Nat → Nat → Int64} {dt : Int64} {rr : Nat → Int64} (ely : ly = (lyT 3 (B 7) T)) (edt : dt = detX 3 ly) (h0 : ¬ dt = 0) (hs : dt < 0) (hrr : ∀ i : Nat, rr i = -(detX 3 (clT 3 ly i df))) : ∃ (co2 mi2 : Nat → Int64), KX1_solve l D ca ad [.ref 1, .ref 16, .int 3, .ref 27] (XW n vs be de sz ro co mi T B hd df) (some (.int 1)) (XW n vs (absX dt) dt 3 (roc 3 rr ro) co2 mi2 ly B hd df) := by
  obtain ⟨m0, em0⟩ : ∃ z, z = miX 3 ly mi := ⟨_, rfl⟩
  obtain ⟨c1, ec1⟩ : ∃ z, z = coT 3 ly 0 co := ⟨_, rfl⟩
  obtain ⟨m1, em1⟩ : ∃ z, z = miX 3 (clT 3 ly 0 df) m0 := ⟨_, rfl⟩
  obtain ⟨c2, ec2⟩ : ∃ z, z = coT 3 ly 1 c1 := ⟨_, rfl⟩
  obtain ⟨m2, em2⟩ : ∃ z, z = miX 3 (clT 3 ly 1 df) m1 := ⟨_, rfl⟩
  obtain ⟨c3, ec3⟩ : ∃ z, z = coT 3 ly 2 c2 := ⟨_, rfl⟩
  obtain ⟨m3, em3⟩ : ∃ z, z = miX 3 (clT 3 ly 2 df) m2 := ⟨_, rfl⟩
  refine ⟨c3, m3, ?_⟩
  refine PX1_solve (Nat.le_of_ble_eq_true rfl) (Or.inr rfl) ?_
  intro G hT hC hR
  refine mB hT 3 rfl ?_
  refine hC.1 _ 1 [_, _] _ _ _ _ _ (show KX1_layTable l D ca ad _ _ none (XW n vs be dt 3 ro co m0 ly B hd df) from (by rw [em0, edt, ely]; exact c_lay_7_3)) rfl rfl (Nat.le_of_ble_eq_true rfl) rfl ?_
  refine mB hT 5 rfl ?_
  refine mIf (fun hp => absurd hp (fun q => h0 (lc_eq.mp q))) (fun _ => ?_)
  refine mB hT 3 rfl ?_
  refine hC.2.1 _ [_] _ _ _ _ (c_abs _) rfl (Nat.le_of_ble_eq_true rfl) rfl ?_
  refine mB hT 10 rfl ?_
  refine mWd (w2 := (XW n vs (absX dt) dt 3 ro co m0 ly B hd df)) rfl ?_
  refine hC.2.2 _ 1 [_, _] _ _ _ _ _ (show KX1_determinantWithColumn l D ca ad _ _ (some (.long (detX 3 (clT 3 ly 0 df)))) (XW n vs (absX dt) dt 3 ro c1 m1 ly B hd df) from (by rw [em1, ec1]; exact c_dwc_4_3_0)) rfl rfl (Nat.le_of_ble_eq_true rfl) rfl ?_
  refine mB hT 9 rfl ?_
  refine mIf (fun hp => absurd hp (fun q => Int64.not_lt.mpr (lc_ge.mp q) hs)) (fun _ => ?_)
  refine mNf (lv2 := [(5, .long (detX 3 (clT 3 ly 0 df))), (4, .int 0), (0, .ref 1), (1, .ref 16), (2, .int 3), (3, .ref 27)]) (st2 := [.int 0, .ref 2]) rfl rfl ?_
  refine mB hT 3 rfl ?_
  refine mNf (lv2 := [(5, .long (detX 3 (clT 3 ly 0 df))), (4, .int 0), (0, .ref 1), (1, .ref 16), (2, .int 3), (3, .ref 27)]) (st2 := [.long (rr 0), .int 0, .ref 2]) rfl (by rw [hrr 0] <;> rfl) ?_
  refine mB hT 10 rfl ?_
  refine mWd (w2 := (XW n vs (absX dt) dt 3 (up ro 0 (rr 0)) c1 m1 ly B hd df)) rfl ?_
  refine hC.2.2 _ 1 [_, _] _ _ _ _ _ (show KX1_determinantWithColumn l D ca ad _ _ (some (.long (detX 3 (clT 3 ly 1 df)))) (XW n vs (absX dt) dt 3 (up ro 0 (rr 0)) c2 m2 ly B hd df) from (by rw [em2, ec2]; exact c_dwc_4_3_1)) rfl rfl (Nat.le_of_ble_eq_true rfl) rfl ?_
  refine mB hT 9 rfl ?_
  refine mIf (fun hp => absurd hp (fun q => Int64.not_lt.mpr (lc_ge.mp q) hs)) (fun _ => ?_)
  refine mNf (lv2 := [(5, .long (detX 3 (clT 3 ly 1 df))), (4, .int 1), (0, .ref 1), (1, .ref 16), (2, .int 3), (3, .ref 27)]) (st2 := [.int 1, .ref 2]) rfl rfl ?_
  refine mB hT 3 rfl ?_
  refine mNf (lv2 := [(5, .long (detX 3 (clT 3 ly 1 df))), (4, .int 1), (0, .ref 1), (1, .ref 16), (2, .int 3), (3, .ref 27)]) (st2 := [.long (rr 1), .int 1, .ref 2]) rfl (by rw [hrr 1] <;> rfl) ?_
  refine mB hT 10 rfl ?_
  refine mWd (w2 := (XW n vs (absX dt) dt 3 (up (up ro 0 (rr 0)) 1 (rr 1)) c2 m2 ly B hd df)) rfl ?_
  refine hC.2.2 _ 1 [_, _] _ _ _ _ _ (show KX1_determinantWithColumn l D ca ad _ _ (some (.long (detX 3 (clT 3 ly 2 df)))) (XW n vs (absX dt) dt 3 (up (up ro 0 (rr 0)) 1 (rr 1)) c3 m3 ly B hd df) from (by rw [em3, ec3]; exact c_dwc_4_3_2)) rfl rfl (Nat.le_of_ble_eq_true rfl) rfl ?_
  refine mB hT 9 rfl ?_
  refine mIf (fun hp => absurd hp (fun q => Int64.not_lt.mpr (lc_ge.mp q) hs)) (fun _ => ?_)
  refine mNf (lv2 := [(5, .long (detX 3 (clT 3 ly 2 df))), (4, .int 2), (0, .ref 1), (1, .ref 16), (2, .int 3), (3, .ref 27)]) (st2 := [.int 2, .ref 2]) rfl rfl ?_
  refine mB hT 3 rfl ?_
  refine mNf (lv2 := [(5, .long (detX 3 (clT 3 ly 2 df))), (4, .int 2), (0, .ref 1), (1, .ref 16), (2, .int 3), (3, .ref 27)]) (st2 := [.long (rr 2), .int 2, .ref 2]) rfl (by rw [hrr 2] <;> rfl) ?_
  refine mB hT 8 rfl ?_
  exact hR _ (by decide) _ _ _ rfl rfl
theorem c_solve1_7_3_4 {n vs : Int32} {be de : Int64} {sz : Int32} {ro co mi : Nat → Int64} {T : Nat → Nat → Int64} {B : Nat → Nat → Nat → Int32} {hd : Nat → Nat → Int32} {df : Nat → Int32} (h0 : ¬ detX 3 (lyT 3 (B 7) T) = 0) : ∃ (de2 : Int64) (co2 mi2 : Nat → Int64) (T2 : Nat → Nat → Int64), KX1_solve l D ca ad [.ref 1, .ref 16, .int 3, .ref 27] (XW n vs be de sz ro co mi T B hd df) (some (.int 1)) (XW n vs (absX (detX 3 (lyT 3 (B 7) T))) de2 3 (roX 3 (lyT 3 (B 7) T) df ro) co2 mi2 T2 B hd df) := by
  by_cases hs : detX 3 (lyT 3 (B 7) T) < 0
  · obtain ⟨c2, m2, k⟩ := c_solve1_7_3_4n (rr := rdX 3 (lyT 3 (B 7) T) df) rfl rfl h0 hs (fun i => if_pos hs)
    exact ⟨_, c2, m2, _, k⟩
  · obtain ⟨c2, m2, k⟩ := c_solve1_7_3_4p (rr := rdX 3 (lyT 3 (B 7) T) df) rfl rfl h0 hs (fun i => if_neg hs)
    exact ⟨_, c2, m2, _, k⟩
theorem c_solve0_7_4_0 {n vs : Int32} {be de : Int64} {sz : Int32} {ro co mi : Nat → Int64} {T : Nat → Nat → Int64} {B : Nat → Nat → Nat → Int32} {hd : Nat → Nat → Int32} {df : Nat → Int32} (h0 : detX 4 (lyT 4 (B 7) T) = 0) : ∃ (de2 : Int64) (mi2 : Nat → Int64) (T2 : Nat → Nat → Int64), KX1_solve l D ca ad [.ref 1, .ref 16, .int 4, .ref 23] (XW n vs be de sz ro co mi T B hd df) (some (.int 0)) (XW n vs be de2 4 ro co mi2 T2 B hd df) := by
  obtain ⟨ly, ely⟩ : ∃ z, z = (lyT 4 (B 7) T) := ⟨_, rfl⟩
  rw [← ely] at h0
  obtain ⟨dt, edt⟩ : ∃ z, z = detX 4 ly := ⟨_, rfl⟩
  rw [← edt] at h0
  obtain ⟨m0, em0⟩ : ∃ z, z = miX 4 ly mi := ⟨_, rfl⟩
  refine ⟨dt, m0, ly, ?_⟩
  refine PX1_solve (Nat.le_of_ble_eq_true rfl) (Or.inl rfl) ?_
  intro G hT hC hR
  refine mB hT 3 rfl ?_
  refine hC.1 _ 1 [_, _] _ _ _ _ _ (show KX1_layTable l D ca ad _ _ none (XW n vs be dt 4 ro co m0 ly B hd df) from (by rw [em0, edt, ely]; exact c_lay_7_4)) rfl rfl (Nat.le_of_ble_eq_true rfl) rfl ?_
  refine mB hT 5 rfl ?_
  refine mIf (fun _ => ?_) (fun hn => absurd (lc_eq.mpr h0) hn)
  refine mB hT 1 rfl ?_
  exact hR _ (by decide) _ _ _ rfl rfl
set_option maxRecDepth 20000 in
theorem c_solve1_7_4_0p {n vs : Int32} {be de : Int64} {sz : Int32} {ro co mi : Nat → Int64} {T : Nat → Nat → Int64} {B : Nat → Nat → Nat → Int32} {hd : Nat → Nat → Int32} {df : Nat → Int32} {ly : Nat → Nat → Int64} {dt : Int64} {rr : Nat → Int64} (ely : ly = (lyT 4 (B 7) T)) (edt : dt = detX 4 ly) (h0 : ¬ dt = 0) (hs : ¬ dt < 0) (hrr : ∀ i : Nat, rr i = detX 4 (clT 4 ly i (hd 0))) : ∃ (co2 mi2 : Nat → Int64), KX1_solve l D ca ad [.ref 1, .ref 16, .int 4, .ref 23] (XW n vs be de sz ro co mi T B hd df) (some (.int 1)) (XW n vs (absX dt) dt 4 (roc 4 rr ro) co2 mi2 ly B hd df) := by
  obtain ⟨m0, em0⟩ : ∃ z, z = miX 4 ly mi := ⟨_, rfl⟩
  obtain ⟨c1, ec1⟩ : ∃ z, z = coT 4 ly 0 co := ⟨_, rfl⟩
  obtain ⟨m1, em1⟩ : ∃ z, z = miX 4 (clT 4 ly 0 (hd 0)) m0 := ⟨_, rfl⟩
  obtain ⟨c2, ec2⟩ : ∃ z, z = coT 4 ly 1 c1 := ⟨_, rfl⟩
  obtain ⟨m2, em2⟩ : ∃ z, z = miX 4 (clT 4 ly 1 (hd 0)) m1 := ⟨_, rfl⟩
  obtain ⟨c3, ec3⟩ : ∃ z, z = coT 4 ly 2 c2 := ⟨_, rfl⟩
  obtain ⟨m3, em3⟩ : ∃ z, z = miX 4 (clT 4 ly 2 (hd 0)) m2 := ⟨_, rfl⟩
  obtain ⟨c4, ec4⟩ : ∃ z, z = coT 4 ly 3 c3 := ⟨_, rfl⟩
  obtain ⟨m4, em4⟩ : ∃ z, z = miX 4 (clT 4 ly 3 (hd 0)) m3 := ⟨_, rfl⟩
  refine ⟨c4, m4, ?_⟩
  refine PX1_solve (Nat.le_of_ble_eq_true rfl) (Or.inr rfl) ?_
  intro G hT hC hR
  refine mB hT 3 rfl ?_
  refine hC.1 _ 1 [_, _] _ _ _ _ _ (show KX1_layTable l D ca ad _ _ none (XW n vs be dt 4 ro co m0 ly B hd df) from (by rw [em0, edt, ely]; exact c_lay_7_4)) rfl rfl (Nat.le_of_ble_eq_true rfl) rfl ?_
  refine mB hT 5 rfl ?_
  refine mIf (fun hp => absurd hp (fun q => h0 (lc_eq.mp q))) (fun _ => ?_)
  refine mB hT 3 rfl ?_
  refine hC.2.1 _ [_] _ _ _ _ (c_abs _) rfl (Nat.le_of_ble_eq_true rfl) rfl ?_
  refine mB hT 10 rfl ?_
  refine mWd (w2 := (XW n vs (absX dt) dt 4 ro co m0 ly B hd df)) rfl ?_
  refine hC.2.2 _ 1 [_, _] _ _ _ _ _ (show KX1_determinantWithColumn l D ca ad _ _ (some (.long (detX 4 (clT 4 ly 0 (hd 0))))) (XW n vs (absX dt) dt 4 ro c1 m1 ly B hd df) from (by rw [em1, ec1]; exact c_dwc_0_4_0)) rfl rfl (Nat.le_of_ble_eq_true rfl) rfl ?_
  refine mB hT 9 rfl ?_
  refine mIf (fun _ => ?_) (fun hn => absurd (lc_ge.mpr (Int64.not_lt.mp hs)) hn)
  refine mNf (lv2 := [(5, .long (detX 4 (clT 4 ly 0 (hd 0)))), (4, .int 0), (0, .ref 1), (1, .ref 16), (2, .int 4), (3, .ref 23)]) (st2 := [.int 0, .ref 2]) rfl rfl ?_
  refine mB hT 1 rfl ?_
  refine mNf (lv2 := [(5, .long (detX 4 (clT 4 ly 0 (hd 0)))), (4, .int 0), (0, .ref 1), (1, .ref 16), (2, .int 4), (3, .ref 23)]) (st2 := [.long (rr 0), .int 0, .ref 2]) rfl (by rw [hrr 0] <;> rfl) ?_
  refine mB hT 10 rfl ?_
  refine mWd (w2 := (XW n vs (absX dt) dt 4 (up ro 0 (rr 0)) c1 m1 ly B hd df)) rfl ?_
  refine hC.2.2 _ 1 [_, _] _ _ _ _ _ (show KX1_determinantWithColumn l D ca ad _ _ (some (.long (detX 4 (clT 4 ly 1 (hd 0))))) (XW n vs (absX dt) dt 4 (up ro 0 (rr 0)) c2 m2 ly B hd df) from (by rw [em2, ec2]; exact c_dwc_0_4_1)) rfl rfl (Nat.le_of_ble_eq_true rfl) rfl ?_
  refine mB hT 9 rfl ?_
  refine mIf (fun _ => ?_) (fun hn => absurd (lc_ge.mpr (Int64.not_lt.mp hs)) hn)
  refine mNf (lv2 := [(5, .long (detX 4 (clT 4 ly 1 (hd 0)))), (4, .int 1), (0, .ref 1), (1, .ref 16), (2, .int 4), (3, .ref 23)]) (st2 := [.int 1, .ref 2]) rfl rfl ?_
  refine mB hT 1 rfl ?_
  refine mNf (lv2 := [(5, .long (detX 4 (clT 4 ly 1 (hd 0)))), (4, .int 1), (0, .ref 1), (1, .ref 16), (2, .int 4), (3, .ref 23)]) (st2 := [.long (rr 1), .int 1, .ref 2]) rfl (by rw [hrr 1] <;> rfl) ?_
  refine mB hT 10 rfl ?_
  refine mWd (w2 := (XW n vs (absX dt) dt 4 (up (up ro 0 (rr 0)) 1 (rr 1)) c2 m2 ly B hd df)) rfl ?_
  refine hC.2.2 _ 1 [_, _] _ _ _ _ _ (show KX1_determinantWithColumn l D ca ad _ _ (some (.long (detX 4 (clT 4 ly 2 (hd 0))))) (XW n vs (absX dt) dt 4 (up (up ro 0 (rr 0)) 1 (rr 1)) c3 m3 ly B hd df) from (by rw [em3, ec3]; exact c_dwc_0_4_2)) rfl rfl (Nat.le_of_ble_eq_true rfl) rfl ?_
  refine mB hT 9 rfl ?_
  refine mIf (fun _ => ?_) (fun hn => absurd (lc_ge.mpr (Int64.not_lt.mp hs)) hn)
  refine mNf (lv2 := [(5, .long (detX 4 (clT 4 ly 2 (hd 0)))), (4, .int 2), (0, .ref 1), (1, .ref 16), (2, .int 4), (3, .ref 23)]) (st2 := [.int 2, .ref 2]) rfl rfl ?_
  refine mB hT 1 rfl ?_
  refine mNf (lv2 := [(5, .long (detX 4 (clT 4 ly 2 (hd 0)))), (4, .int 2), (0, .ref 1), (1, .ref 16), (2, .int 4), (3, .ref 23)]) (st2 := [.long (rr 2), .int 2, .ref 2]) rfl (by rw [hrr 2] <;> rfl) ?_
  refine mB hT 10 rfl ?_
  refine mWd (w2 := (XW n vs (absX dt) dt 4 (up (up (up ro 0 (rr 0)) 1 (rr 1)) 2 (rr 2)) c3 m3 ly B hd df)) rfl ?_
  refine hC.2.2 _ 1 [_, _] _ _ _ _ _ (show KX1_determinantWithColumn l D ca ad _ _ (some (.long (detX 4 (clT 4 ly 3 (hd 0))))) (XW n vs (absX dt) dt 4 (up (up (up ro 0 (rr 0)) 1 (rr 1)) 2 (rr 2)) c4 m4 ly B hd df) from (by rw [em4, ec4]; exact c_dwc_0_4_3)) rfl rfl (Nat.le_of_ble_eq_true rfl) rfl ?_
  refine mB hT 9 rfl ?_
  refine mIf (fun _ => ?_) (fun hn => absurd (lc_ge.mpr (Int64.not_lt.mp hs)) hn)
  refine mNf (lv2 := [(5, .long (detX 4 (clT 4 ly 3 (hd 0)))), (4, .int 3), (0, .ref 1), (1, .ref 16), (2, .int 4), (3, .ref 23)]) (st2 := [.int 3, .ref 2]) rfl rfl ?_
  refine mB hT 1 rfl ?_
  refine mNf (lv2 := [(5, .long (detX 4 (clT 4 ly 3 (hd 0)))), (4, .int 3), (0, .ref 1), (1, .ref 16), (2, .int 4), (3, .ref 23)]) (st2 := [.long (rr 3), .int 3, .ref 2]) rfl (by rw [hrr 3] <;> rfl) ?_
  refine mB hT 8 rfl ?_
  exact hR _ (by decide) _ _ _ rfl rfl
set_option maxRecDepth 20000 in
theorem c_solve1_7_4_0n {n vs : Int32} {be de : Int64} {sz : Int32} {ro co mi : Nat → Int64} {T : Nat → Nat → Int64} {B : Nat → Nat → Nat → Int32} {hd : Nat → Nat → Int32} {df : Nat → Int32} {ly : Nat → Nat → Int64} {dt : Int64} {rr : Nat → Int64} (ely : ly = (lyT 4 (B 7) T)) (edt : dt = detX 4 ly) (h0 : ¬ dt = 0) (hs : dt < 0) (hrr : ∀ i : Nat, rr i = -(detX 4 (clT 4 ly i (hd 0)))) : ∃ (co2 mi2 : Nat → Int64), KX1_solve l D ca ad [.ref 1, .ref 16, .int 4, .ref 23] (XW n vs be de sz ro co mi T B hd df) (some (.int 1)) (XW n vs (absX dt) dt 4 (roc 4 rr ro) co2 mi2 ly B hd df) := by
  obtain ⟨m0, em0⟩ : ∃ z, z = miX 4 ly mi := ⟨_, rfl⟩
  obtain ⟨c1, ec1⟩ : ∃ z, z = coT 4 ly 0 co := ⟨_, rfl⟩
  obtain ⟨m1, em1⟩ : ∃ z, z = miX 4 (clT 4 ly 0 (hd 0)) m0 := ⟨_, rfl⟩
  obtain ⟨c2, ec2⟩ : ∃ z, z = coT 4 ly 1 c1 := ⟨_, rfl⟩
  obtain ⟨m2, em2⟩ : ∃ z, z = miX 4 (clT 4 ly 1 (hd 0)) m1 := ⟨_, rfl⟩
  obtain ⟨c3, ec3⟩ : ∃ z, z = coT 4 ly 2 c2 := ⟨_, rfl⟩
  obtain ⟨m3, em3⟩ : ∃ z, z = miX 4 (clT 4 ly 2 (hd 0)) m2 := ⟨_, rfl⟩
  obtain ⟨c4, ec4⟩ : ∃ z, z = coT 4 ly 3 c3 := ⟨_, rfl⟩
  obtain ⟨m4, em4⟩ : ∃ z, z = miX 4 (clT 4 ly 3 (hd 0)) m3 := ⟨_, rfl⟩
  refine ⟨c4, m4, ?_⟩
  refine PX1_solve (Nat.le_of_ble_eq_true rfl) (Or.inr rfl) ?_
  intro G hT hC hR
  refine mB hT 3 rfl ?_
  refine hC.1 _ 1 [_, _] _ _ _ _ _ (show KX1_layTable l D ca ad _ _ none (XW n vs be dt 4 ro co m0 ly B hd df) from (by rw [em0, edt, ely]; exact c_lay_7_4)) rfl rfl (Nat.le_of_ble_eq_true rfl) rfl ?_
  refine mB hT 5 rfl ?_
  refine mIf (fun hp => absurd hp (fun q => h0 (lc_eq.mp q))) (fun _ => ?_)
  refine mB hT 3 rfl ?_
  refine hC.2.1 _ [_] _ _ _ _ (c_abs _) rfl (Nat.le_of_ble_eq_true rfl) rfl ?_
  refine mB hT 10 rfl ?_
  refine mWd (w2 := (XW n vs (absX dt) dt 4 ro co m0 ly B hd df)) rfl ?_
  refine hC.2.2 _ 1 [_, _] _ _ _ _ _ (show KX1_determinantWithColumn l D ca ad _ _ (some (.long (detX 4 (clT 4 ly 0 (hd 0))))) (XW n vs (absX dt) dt 4 ro c1 m1 ly B hd df) from (by rw [em1, ec1]; exact c_dwc_0_4_0)) rfl rfl (Nat.le_of_ble_eq_true rfl) rfl ?_
  refine mB hT 9 rfl ?_
  refine mIf (fun hp => absurd hp (fun q => Int64.not_lt.mpr (lc_ge.mp q) hs)) (fun _ => ?_)
  refine mNf (lv2 := [(5, .long (detX 4 (clT 4 ly 0 (hd 0)))), (4, .int 0), (0, .ref 1), (1, .ref 16), (2, .int 4), (3, .ref 23)]) (st2 := [.int 0, .ref 2]) rfl rfl ?_
  refine mB hT 3 rfl ?_
  refine mNf (lv2 := [(5, .long (detX 4 (clT 4 ly 0 (hd 0)))), (4, .int 0), (0, .ref 1), (1, .ref 16), (2, .int 4), (3, .ref 23)]) (st2 := [.long (rr 0), .int 0, .ref 2]) rfl (by rw [hrr 0] <;> rfl) ?_
  refine mB hT 10 rfl ?_
  refine mWd (w2 := (XW n vs (absX dt) dt 4 (up ro 0 (rr 0)) c1 m1 ly B hd df)) rfl ?_
  refine hC.2.2 _ 1 [_, _] _ _ _ _ _ (show KX1_determinantWithColumn l D ca ad _ _ (some (.long (detX 4 (clT 4 ly 1 (hd 0))))) (XW n vs (absX dt) dt 4 (up ro 0 (rr 0)) c2 m2 ly B hd df) from (by rw [em2, ec2]; exact c_dwc_0_4_1)) rfl rfl (Nat.le_of_ble_eq_true rfl) rfl ?_
  refine mB hT 9 rfl ?_
  refine mIf (fun hp => absurd hp (fun q => Int64.not_lt.mpr (lc_ge.mp q) hs)) (fun _ => ?_)
  refine mNf (lv2 := [(5, .long (detX 4 (clT 4 ly 1 (hd 0)))), (4, .int 1), (0, .ref 1), (1, .ref 16), (2, .int 4), (3, .ref 23)]) (st2 := [.int 1, .ref 2]) rfl rfl ?_
  refine mB hT 3 rfl ?_
  refine mNf (lv2 := [(5, .long (detX 4 (clT 4 ly 1 (hd 0)))), (4, .int 1), (0, .ref 1), (1, .ref 16), (2, .int 4), (3, .ref 23)]) (st2 := [.long (rr 1), .int 1, .ref 2]) rfl (by rw [hrr 1] <;> rfl) ?_
  refine mB hT 10 rfl ?_
  refine mWd (w2 := (XW n vs (absX dt) dt 4 (up (up ro 0 (rr 0)) 1 (rr 1)) c2 m2 ly B hd df)) rfl ?_
  refine hC.2.2 _ 1 [_, _] _ _ _ _ _ (show KX1_determinantWithColumn l D ca ad _ _ (some (.long (detX 4 (clT 4 ly 2 (hd 0))))) (XW n vs (absX dt) dt 4 (up (up ro 0 (rr 0)) 1 (rr 1)) c3 m3 ly B hd df) from (by rw [em3, ec3]; exact c_dwc_0_4_2)) rfl rfl (Nat.le_of_ble_eq_true rfl) rfl ?_
  refine mB hT 9 rfl ?_
  refine mIf (fun hp => absurd hp (fun q => Int64.not_lt.mpr (lc_ge.mp q) hs)) (fun _ => ?_)
  refine mNf (lv2 := [(5, .long (detX 4 (clT 4 ly 2 (hd 0)))), (4, .int 2), (0, .ref 1), (1, .ref 16), (2, .int 4), (3, .ref 23)]) (st2 := [.int 2, .ref 2]) rfl rfl ?_
  refine mB hT 3 rfl ?_
  refine mNf (lv2 := [(5, .long (detX 4 (clT 4 ly 2 (hd 0)))), (4, .int 2), (0, .ref 1), (1, .ref 16), (2, .int 4), (3, .ref 23)]) (st2 := [.long (rr 2), .int 2, .ref 2]) rfl (by rw [hrr 2] <;> rfl) ?_
  refine mB hT 10 rfl ?_
  refine mWd (w2 := (XW n vs (absX dt) dt 4 (up (up (up ro 0 (rr 0)) 1 (rr 1)) 2 (rr 2)) c3 m3 ly B hd df)) rfl ?_
  refine hC.2.2 _ 1 [_, _] _ _ _ _ _ (show KX1_determinantWithColumn l D ca ad _ _ (some (.long (detX 4 (clT 4 ly 3 (hd 0))))) (XW n vs (absX dt) dt 4 (up (up (up ro 0 (rr 0)) 1 (rr 1)) 2 (rr 2)) c4 m4 ly B hd df) from (by rw [em4, ec4]; exact c_dwc_0_4_3)) rfl rfl (Nat.le_of_ble_eq_true rfl) rfl ?_
  refine mB hT 9 rfl ?_
  refine mIf (fun hp => absurd hp (fun q => Int64.not_lt.mpr (lc_ge.mp q) hs)) (fun _ => ?_)
  refine mNf (lv2 := [(5, .long (detX 4 (clT 4 ly 3 (hd 0)))), (4, .int 3), (0, .ref 1), (1, .ref 16), (2, .int 4), (3, .ref 23)]) (st2 := [.int 3, .ref 2]) rfl rfl ?_
  refine mB hT 3 rfl ?_
  refine mNf (lv2 := [(5, .long (detX 4 (clT 4 ly 3 (hd 0)))), (4, .int 3), (0, .ref 1), (1, .ref 16), (2, .int 4), (3, .ref 23)]) (st2 := [.long (rr 3), .int 3, .ref 2]) rfl (by rw [hrr 3] <;> rfl) ?_
  refine mB hT 8 rfl ?_
  exact hR _ (by decide) _ _ _ rfl rfl
theorem c_solve1_7_4_0 {n vs : Int32} {be de : Int64} {sz : Int32} {ro co mi : Nat → Int64} {T : Nat → Nat → Int64} {B : Nat → Nat → Nat → Int32} {hd : Nat → Nat → Int32} {df : Nat → Int32} (h0 : ¬ detX 4 (lyT 4 (B 7) T) = 0) : ∃ (de2 : Int64) (co2 mi2 : Nat → Int64) (T2 : Nat → Nat → Int64), KX1_solve l D ca ad [.ref 1, .ref 16, .int 4, .ref 23] (XW n vs be de sz ro co mi T B hd df) (some (.int 1)) (XW n vs (absX (detX 4 (lyT 4 (B 7) T))) de2 4 (roX 4 (lyT 4 (B 7) T) (hd 0) ro) co2 mi2 T2 B hd df) := by
  by_cases hs : detX 4 (lyT 4 (B 7) T) < 0
  · obtain ⟨c2, m2, k⟩ := c_solve1_7_4_0n (rr := rdX 4 (lyT 4 (B 7) T) (hd 0)) rfl rfl h0 hs (fun i => if_pos hs)
    exact ⟨_, c2, m2, _, k⟩
  · obtain ⟨c2, m2, k⟩ := c_solve1_7_4_0p (rr := rdX 4 (lyT 4 (B 7) T) (hd 0)) rfl rfl h0 hs (fun i => if_neg hs)
    exact ⟨_, c2, m2, _, k⟩
theorem c_solve0_7_4_1 {n vs : Int32} {be de : Int64} {sz : Int32} {ro co mi : Nat → Int64} {T : Nat → Nat → Int64} {B : Nat → Nat → Nat → Int32} {hd : Nat → Nat → Int32} {df : Nat → Int32} (h0 : detX 4 (lyT 4 (B 7) T) = 0) : ∃ (de2 : Int64) (mi2 : Nat → Int64) (T2 : Nat → Nat → Int64), KX1_solve l D ca ad [.ref 1, .ref 16, .int 4, .ref 24] (XW n vs be de sz ro co mi T B hd df) (some (.int 0)) (XW n vs be de2 4 ro co mi2 T2 B hd df) := by
  obtain ⟨ly, ely⟩ : ∃ z, z = (lyT 4 (B 7) T) := ⟨_, rfl⟩
  rw [← ely] at h0
  obtain ⟨dt, edt⟩ : ∃ z, z = detX 4 ly := ⟨_, rfl⟩
  rw [← edt] at h0
  obtain ⟨m0, em0⟩ : ∃ z, z = miX 4 ly mi := ⟨_, rfl⟩
  refine ⟨dt, m0, ly, ?_⟩
  refine PX1_solve (Nat.le_of_ble_eq_true rfl) (Or.inl rfl) ?_
  intro G hT hC hR
  refine mB hT 3 rfl ?_
  refine hC.1 _ 1 [_, _] _ _ _ _ _ (show KX1_layTable l D ca ad _ _ none (XW n vs be dt 4 ro co m0 ly B hd df) from (by rw [em0, edt, ely]; exact c_lay_7_4)) rfl rfl (Nat.le_of_ble_eq_true rfl) rfl ?_
  refine mB hT 5 rfl ?_
  refine mIf (fun _ => ?_) (fun hn => absurd (lc_eq.mpr h0) hn)
  refine mB hT 1 rfl ?_
  exact hR _ (by decide) _ _ _ rfl rfl
set_option maxRecDepth 20000 in
theorem c_solve1_7_4_1p {n vs : Int32} {be de : Int64} {sz : Int32} {ro co mi : Nat → Int64} {T : Nat → Nat → Int64} {B : Nat → Nat → Nat → Int32} {hd : Nat → Nat → Int32} {df : Nat → Int32} {ly : Nat → Nat → Int64} {dt : Int64} {rr : Nat → Int64} (ely : ly = (lyT 4 (B 7) T)) (edt : dt = detX 4 ly) (h0 : ¬ dt = 0) (hs : ¬ dt < 0) (hrr : ∀ i : Nat, rr i = detX 4 (clT 4 ly i (hd 1))) : ∃ (co2 mi2 : Nat → Int64), KX1_solve l D ca ad [.ref 1, .ref 16, .int 4, .ref 24] (XW n vs be de sz ro co mi T B hd df) (some (.int 1)) (XW n vs (absX dt) dt 4 (roc 4 rr ro) co2 mi2 ly B hd df) := by
  obtain ⟨m0, em0⟩ : ∃ z, z = miX 4 ly mi := ⟨_, rfl⟩
  obtain ⟨c1, ec1⟩ : ∃ z, z = coT 4 ly 0 co := ⟨_, rfl⟩
  obtain ⟨m1, em1⟩ : ∃ z, z = miX 4 (clT 4 ly 0 (hd 1)) m0 := ⟨_, rfl⟩
  obtain ⟨c2, ec2⟩ : ∃ z, z = coT 4 ly 1 c1 := ⟨_, rfl⟩
  obtain ⟨m2, em2⟩ : ∃ z, z = miX 4 (clT 4 ly 1 (hd 1)) m1 := ⟨_, rfl⟩
  obtain ⟨c3, ec3⟩ : ∃ z, z = coT 4 ly 2 c2 := ⟨_, rfl⟩
  obtain ⟨m3, em3⟩ : ∃ z, z = miX 4 (clT 4 ly 2 (hd 1)) m2 := ⟨_, rfl⟩
  obtain ⟨c4, ec4⟩ : ∃ z, z = coT 4 ly 3 c3 := ⟨_, rfl⟩
  obtain ⟨m4, em4⟩ : ∃ z, z = miX 4 (clT 4 ly 3 (hd 1)) m3 := ⟨_, rfl⟩
  refine ⟨c4, m4, ?_⟩
  refine PX1_solve (Nat.le_of_ble_eq_true rfl) (Or.inr rfl) ?_
  intro G hT hC hR
  refine mB hT 3 rfl ?_
  refine hC.1 _ 1 [_, _] _ _ _ _ _ (show KX1_layTable l D ca ad _ _ none (XW n vs be dt 4 ro co m0 ly B hd df) from (by rw [em0, edt, ely]; exact c_lay_7_4)) rfl rfl (Nat.le_of_ble_eq_true rfl) rfl ?_
  refine mB hT 5 rfl ?_
  refine mIf (fun hp => absurd hp (fun q => h0 (lc_eq.mp q))) (fun _ => ?_)
  refine mB hT 3 rfl ?_
  refine hC.2.1 _ [_] _ _ _ _ (c_abs _) rfl (Nat.le_of_ble_eq_true rfl) rfl ?_
  refine mB hT 10 rfl ?_
  refine mWd (w2 := (XW n vs (absX dt) dt 4 ro co m0 ly B hd df)) rfl ?_
  refine hC.2.2 _ 1 [_, _] _ _ _ _ _ (show KX1_determinantWithColumn l D ca ad _ _ (some (.long (detX 4 (clT 4 ly 0 (hd 1))))) (XW n vs (absX dt) dt 4 ro c1 m1 ly B hd df) from (by rw [em1, ec1]; exact c_dwc_1_4_0)) rfl rfl (Nat.le_of_ble_eq_true rfl) rfl ?_
  refine mB hT 9 rfl ?_
  refine mIf (fun _ => ?_) (fun hn => absurd (lc_ge.mpr (Int64.not_lt.mp hs)) hn)
  refine mNf (lv2 := [(5, .long (detX 4 (clT 4 ly 0 (hd 1)))), (4, .int 0), (0, .ref 1), (1, .ref 16), (2, .int 4), (3, .ref 24)]) (st2 := [.int 0, .ref 2]) rfl rfl ?_
  refine mB hT 1 rfl ?_
  refine mNf (lv2 := [(5, .long (detX 4 (clT 4 ly 0 (hd 1)))), (4, .int 0), (0, .ref 1), (1, .ref 16), (2, .int 4), (3, .ref 24)]) (st2 := [.long (rr 0), .int 0, .ref 2]) rfl (by rw [hrr 0] <;> rfl) ?_
  refine mB hT 10 rfl ?_
  refine mWd (w2 := (XW n vs (absX dt) dt 4 (up ro 0 (rr 0)) c1 m1 ly B hd df)) rfl ?_
  refine hC.2.2 _ 1 [_, _] _ _ _ _ _ (show KX1_determinantWithColumn l D ca ad _ _ (some (.long (detX 4 (clT 4 ly 1 (hd 1))))) (XW n vs (absX dt) dt 4 (up ro 0 (rr 0)) c2 m2 ly B hd df) from (by rw [em2, ec2]; exact c_dwc_1_4_1)) rfl rfl (Nat.le_of_ble_eq_true rfl) rfl ?_
  refine mB hT 9 rfl ?_
  refine mIf (fun _ => ?_) (fun hn => absurd (lc_ge.mpr (Int64.not_lt.mp hs)) hn)
  refine mNf (lv2 := [(5, .long (detX 4 (clT 4 ly 1 (hd 1)))), (4, .int 1), (0, .ref 1), (1, .ref 16), (2, .int 4), (3, .ref 24)]) (st2 := [.int 1, .ref 2]) rfl rfl ?_
  refine mB hT 1 rfl ?_
  refine mNf (lv2 := [(5, .long (detX 4 (clT 4 ly 1 (hd 1)))), (4, .int 1), (0, .ref 1), (1, .ref 16), (2, .int 4), (3, .ref 24)]) (st2 := [.long (rr 1), .int 1, .ref 2]) rfl (by rw [hrr 1] <;> rfl) ?_
  refine mB hT 10 rfl ?_
  refine mWd (w2 := (XW n vs (absX dt) dt 4 (up (up ro 0 (rr 0)) 1 (rr 1)) c2 m2 ly B hd df)) rfl ?_
  refine hC.2.2 _ 1 [_, _] _ _ _ _ _ (show KX1_determinantWithColumn l D ca ad _ _ (some (.long (detX 4 (clT 4 ly 2 (hd 1))))) (XW n vs (absX dt) dt 4 (up (up ro 0 (rr 0)) 1 (rr 1)) c3 m3 ly B hd df) from (by rw [em3, ec3]; exact c_dwc_1_4_2)) rfl rfl (Nat.le_of_ble_eq_true rfl) rfl ?_
  refine mB hT 9 rfl ?_
  refine mIf (fun _ => ?_) (fun hn => absurd (lc_ge.mpr (Int64.not_lt.mp hs)) hn)
  refine mNf (lv2 := [(5, .long (detX 4 (clT 4 ly 2 (hd 1)))), (4, .int 2), (0, .ref 1), (1, .ref 16), (2, .int 4), (3, .ref 24)]) (st2 := [.int 2, .ref 2]) rfl rfl ?_
  refine mB hT 1 rfl ?_
  refine mNf (lv2 := [(5, .long (detX 4 (clT 4 ly 2 (hd 1)))), (4, .int 2), (0, .ref 1), (1, .ref 16), (2, .int 4), (3, .ref 24)]) (st2 := [.long (rr 2), .int 2, .ref 2]) rfl (by rw [hrr 2] <;> rfl) ?_
  refine mB hT 10 rfl ?_
  refine mWd (w2 := (XW n vs (absX dt) dt 4 (up (up (up ro 0 (rr 0)) 1 (rr 1)) 2 (rr 2)) c3 m3 ly B hd df)) rfl ?_
  refine hC.2.2 _ 1 [_, _] _ _ _ _ _ (show KX1_determinantWithColumn l D ca ad _ _ (some (.long (detX 4 (clT 4 ly 3 (hd 1))))) (XW n vs (absX dt) dt 4 (up (up (up ro 0 (rr 0)) 1 (rr 1)) 2 (rr 2)) c4 m4 ly B hd df) from (by rw [em4, ec4]; exact c_dwc_1_4_3)) rfl rfl (Nat.le_of_ble_eq_true rfl) rfl ?_
  refine mB hT 9 rfl ?_
  refine mIf (fun _ => ?_) (fun hn => absurd (lc_ge.mpr (Int64.not_lt.mp hs)) hn)
  refine mNf (lv2 := [(5, .long (detX 4 (clT 4 ly 3 (hd 1)))), (4, .int 3), (0, .ref 1), (1, .ref 16), (2, .int 4), (3, .ref 24)]) (st2 := [.int 3, .ref 2]) rfl rfl ?_
  refine mB hT 1 rfl ?_
  refine mNf (lv2 := [(5, .long (detX 4 (clT 4 ly 3 (hd 1)))), (4, .int 3), (0, .ref 1), (1, .ref 16), (2, .int 4), (3, .ref 24)]) (st2 := [.long (rr 3), .int 3, .ref 2]) rfl (by rw [hrr 3] <;> rfl) ?_
  refine mB hT 8 rfl ?_
  exact hR _ (by decide) _ _ _ rfl rfl
set_option maxRecDepth 20000 in
theorem c_solve1_7_4_1n {n vs : Int32} {be de : Int64} {sz : Int32} {ro co mi : Nat → Int64} {T : Nat → Nat → Int64} {B : Nat → Nat → Nat → Int32} {hd : Nat → Nat → Int32} {df : Nat → Int32} {ly : Nat → Nat → Int64} {dt : Int64} {rr : Nat → Int64} (ely : ly = (lyT 4 (B 7) T)) (edt : dt = detX 4 ly) (h0 : ¬ dt = 0) (hs : dt < 0) (hrr : ∀ i : Nat, rr i = -(detX 4 (clT 4 ly i (hd 1)))) : ∃ (co2 mi2 : Nat → Int64), KX1_solve l D ca ad [.ref 1, .ref 16, .int 4, .ref 24] (XW n vs be de sz ro co mi T B hd df) (some (.int 1)) (XW n vs (absX dt) dt 4 (roc 4 rr ro) co2 mi2 ly B hd df) := by
  obtain ⟨m0, em0⟩ : ∃ z, z = miX 4 ly mi := ⟨_, rfl⟩
  obtain ⟨c1, ec1⟩ : ∃ z, z = coT 4 ly 0 co := ⟨_, rfl⟩
  obtain ⟨m1, em1⟩ : ∃ z, z = miX 4 (clT 4 ly 0 (hd 1)) m0 := ⟨_, rfl⟩
  obtain ⟨c2, ec2⟩ : ∃ z, z = coT 4 ly 1 c1 := ⟨_, rfl⟩
  obtain ⟨m2, em2⟩ : ∃ z, z = miX 4 (clT 4 ly 1 (hd 1)) m1 := ⟨_, rfl⟩
  obtain ⟨c3, ec3⟩ : ∃ z, z = coT 4 ly 2 c2 := ⟨_, rfl⟩
  obtain ⟨m3, em3⟩ : ∃ z, z = miX 4 (clT 4 ly 2 (hd 1)) m2 := ⟨_, rfl⟩
  obtain ⟨c4, ec4⟩ : ∃ z, z = coT 4 ly 3 c3 := ⟨_, rfl⟩
  obtain ⟨m4, em4⟩ : ∃ z, z = miX 4 (clT 4 ly 3 (hd 1)) m3 := ⟨_, rfl⟩
  refine ⟨c4, m4, ?_⟩
  refine PX1_solve (Nat.le_of_ble_eq_true rfl) (Or.inr rfl) ?_
  intro G hT hC hR
  refine mB hT 3 rfl ?_
  refine hC.1 _ 1 [_, _] _ _ _ _ _ (show KX1_layTable l D ca ad _ _ none (XW n vs be dt 4 ro co m0 ly B hd df) from (by rw [em0, edt, ely]; exact c_lay_7_4)) rfl rfl (Nat.le_of_ble_eq_true rfl) rfl ?_
  refine mB hT 5 rfl ?_
  refine mIf (fun hp => absurd hp (fun q => h0 (lc_eq.mp q))) (fun _ => ?_)
  refine mB hT 3 rfl ?_
  refine hC.2.1 _ [_] _ _ _ _ (c_abs _) rfl (Nat.le_of_ble_eq_true rfl) rfl ?_
  refine mB hT 10 rfl ?_
  refine mWd (w2 := (XW n vs (absX dt) dt 4 ro co m0 ly B hd df)) rfl ?_
  refine hC.2.2 _ 1 [_, _] _ _ _ _ _ (show KX1_determinantWithColumn l D ca ad _ _ (some (.long (detX 4 (clT 4 ly 0 (hd 1))))) (XW n vs (absX dt) dt 4 ro c1 m1 ly B hd df) from (by rw [em1, ec1]; exact c_dwc_1_4_0)) rfl rfl (Nat.le_of_ble_eq_true rfl) rfl ?_
  refine mB hT 9 rfl ?_
  refine mIf (fun hp => absurd hp (fun q => Int64.not_lt.mpr (lc_ge.mp q) hs)) (fun _ => ?_)
  refine mNf (lv2 := [(5, .long (detX 4 (clT 4 ly 0 (hd 1)))), (4, .int 0), (0, .ref 1), (1, .ref 16), (2, .int 4), (3, .ref 24)]) (st2 := [.int 0, .ref 2]) rfl rfl ?_
  refine mB hT 3 rfl ?_
  refine mNf (lv2 := [(5, .long (detX 4 (clT 4 ly 0 (hd 1)))), (4, .int 0), (0, .ref 1), (1, .ref 16), (2, .int 4), (3, .ref 24)]) (st2 := [.long (rr 0), .int 0, .ref 2]) rfl (by rw [hrr 0] <;> rfl) ?_
  refine mB hT 10 rfl ?_
  refine mWd (w2 := (XW n vs (absX dt) dt 4 (up ro 0 (rr 0)) c1 m1 ly B hd df)) rfl ?_
  refine hC.2.2 _ 1 [_, _] _ _ _ _ _ (show KX1_determinantWithColumn l D ca ad _ _ (some (.long (detX 4 (clT 4 ly 1 (hd 1))))) (XW n vs (absX dt) dt 4 (up ro 0 (rr 0)) c2 m2 ly B hd df) from (by rw [em2, ec2]; exact c_dwc_1_4_1)) rfl rfl (Nat.le_of_ble_eq_true rfl) rfl ?_
  refine mB hT 9 rfl ?_
  refine mIf (fun hp => absurd hp (fun q => Int64.not_lt.mpr (lc_ge.mp q) hs)) (fun _ => ?_)
  refine mNf (lv2 := [(5, .long (detX 4 (clT 4 ly 1 (hd 1)))), (4, .int 1), (0, .ref 1), (1, .ref 16), (2, .int 4), (3, .ref 24)]) (st2 := [.int 1, .ref 2]) rfl rfl ?_
  refine mB hT 3 rfl ?_
  refine mNf (lv2 := [(5, .long (detX 4 (clT 4 ly 1 (hd 1)))), (4, .int 1), (0, .ref 1), (1, .ref 16), (2, .int 4), (3, .ref 24)]) (st2 := [.long (rr 1), .int 1, .ref 2]) rfl (by rw [hrr 1] <;> rfl) ?_
  refine mB hT 10 rfl ?_
  refine mWd (w2 := (XW n vs (absX dt) dt 4 (up (up ro 0 (rr 0)) 1 (rr 1)) c2 m2 ly B hd df)) rfl ?_
  refine hC.2.2 _ 1 [_, _] _ _ _ _ _ (show KX1_determinantWithColumn l D ca ad _ _ (some (.long (detX 4 (clT 4 ly 2 (hd 1))))) (XW n vs (absX dt) dt 4 (up (up ro 0 (rr 0)) 1 (rr 1)) c3 m3 ly B hd df) from (by rw [em3, ec3]; exact c_dwc_1_4_2)) rfl rfl (Nat.le_of_ble_eq_true rfl) rfl ?_
  refine mB hT 9 rfl ?_
  refine mIf (fun hp => absurd hp (fun q => Int64.not_lt.mpr (lc_ge.mp q) hs)) (fun _ => ?_)
  refine mNf (lv2 := [(5, .long (detX 4 (clT 4 ly 2 (hd 1)))), (4, .int 2), (0, .ref 1), (1, .ref 16), (2, .int 4), (3, .ref 24)]) (st2 := [.int 2, .ref 2]) rfl rfl ?_
  refine mB hT 3 rfl ?_
  refine mNf (lv2 := [(5, .long (detX 4 (clT 4 ly 2 (hd 1)))), (4, .int 2), (0, .ref 1), (1, .ref 16), (2, .int 4), (3, .ref 24)]) (st2 := [.long (rr 2), .int 2, .ref 2]) rfl (by rw [hrr 2] <;> rfl) ?_
  refine mB hT 10 rfl ?_
  refine mWd (w2 := (XW n vs (absX dt) dt 4 (up (up (up ro 0 (rr 0)) 1 (rr 1)) 2 (rr 2)) c3 m3 ly B hd df)) rfl ?_
  refine hC.2.2 _ 1 [_, _] _ _ _ _ _ (show KX1_determinantWithColumn l D ca ad _ _ (some (.long (detX 4 (clT 4 ly 3 (hd 1))))) (XW n vs (absX dt) dt 4 (up (up (up ro 0 (rr 0)) 1 (rr 1)) 2 (rr 2)) c4 m4 ly B hd df) from (by rw [em4, ec4]; exact c_dwc_1_4_3)) rfl rfl (Nat.le_of_ble_eq_true rfl) rfl ?_
  refine mB hT 9 rfl ?_
  refine mIf (fun hp => absurd hp (fun q => Int64.not_lt.mpr (lc_ge.mp q) hs)) (fun _ => ?_)
  refine mNf (lv2 := [(5, .long (detX 4 (clT 4 ly 3 (hd 1)))), (4, .int 3), (0, .ref 1), (1, .ref 16), (2, .int 4), (3, .ref 24)]) (st2 := [.int 3, .ref 2]) rfl rfl ?_
  refine mB hT 3 rfl ?_
  refine mNf (lv2 := [(5, .long (detX 4 (clT 4 ly 3 (hd 1)))), (4, .int 3), (0, .ref 1), (1, .ref 16), (2, .int 4), (3, .ref 24)]) (st2 := [.long (rr 3), .int 3, .ref 2]) rfl (by rw [hrr 3] <;> rfl) ?_
  refine mB hT 8 rfl ?_
  exact hR _ (by decide) _ _ _ rfl rfl
theorem c_solve1_7_4_1 {n vs : Int32} {be de : Int64} {sz : Int32} {ro co mi : Nat → Int64} {T : Nat → Nat → Int64} {B : Nat → Nat → Nat → Int32} {hd : Nat → Nat → Int32} {df : Nat → Int32} (h0 : ¬ detX 4 (lyT 4 (B 7) T) = 0) : ∃ (de2 : Int64) (co2 mi2 : Nat → Int64) (T2 : Nat → Nat → Int64), KX1_solve l D ca ad [.ref 1, .ref 16, .int 4, .ref 24] (XW n vs be de sz ro co mi T B hd df) (some (.int 1)) (XW n vs (absX (detX 4 (lyT 4 (B 7) T))) de2 4 (roX 4 (lyT 4 (B 7) T) (hd 1) ro) co2 mi2 T2 B hd df) := by
  by_cases hs : detX 4 (lyT 4 (B 7) T) < 0
  · obtain ⟨c2, m2, k⟩ := c_solve1_7_4_1n (rr := rdX 4 (lyT 4 (B 7) T) (hd 1)) rfl rfl h0 hs (fun i => if_pos hs)
    exact ⟨_, c2, m2, _, k⟩
  · obtain ⟨c2, m2, k⟩ := c_solve1_7_4_1p (rr := rdX 4 (lyT 4 (B 7) T) (hd 1)) rfl rfl h0 hs (fun i => if_neg hs)
    exact ⟨_, c2, m2, _, k⟩
theorem c_solve0_7_4_2 {n vs : Int32} {be de : Int64} {sz : Int32} {ro co mi : Nat → Int64} {T : Nat → Nat → Int64} {B : Nat → Nat → Nat → Int32} {hd : Nat → Nat → Int32} {df : Nat → Int32} (h0 : detX 4 (lyT 4 (B 7) T) = 0) : ∃ (de2 : Int64) (mi2 : Nat → Int64) (T2 : Nat → Nat → Int64), KX1_solve l D ca ad [.ref 1, .ref 16, .int 4, .ref 25] (XW n vs be de sz ro co mi T B hd df) (some (.int 0)) (XW n vs be de2 4 ro co mi2 T2 B hd df) := by
  obtain ⟨ly, ely⟩ : ∃ z, z = (lyT 4 (B 7) T) := ⟨_, rfl⟩
  rw [← ely] at h0
  obtain ⟨dt, edt⟩ : ∃ z, z = detX 4 ly := ⟨_, rfl⟩
  rw [← edt] at h0
  obtain ⟨m0, em0⟩ : ∃ z, z = miX 4 ly mi := ⟨_, rfl⟩
  refine ⟨dt, m0, ly, ?_⟩
  refine PX1_solve (Nat.le_of_ble_eq_true rfl) (Or.inl rfl) ?_
  intro G hT hC hR
  refine mB hT 3 rfl ?_
  refine hC.1 _ 1 [_, _] _ _ _ _ _ (show KX1_layTable l D ca ad _ _ none (XW n vs be dt 4 ro co m0 ly B hd df) from (by rw [em0, edt, ely]; exact c_lay_7_4)) rfl rfl (Nat.le_of_ble_eq_true rfl) rfl ?_
  refine mB hT 5 rfl ?_
  refine mIf (fun _ => ?_) (fun hn => absurd (lc_eq.mpr h0) hn)
  refine mB hT 1 rfl ?_
  exact hR _ (by decide) _ _ _ rfl rfl
set_option maxRecDepth 20000 in
theorem c_solve1_7_4_2p {n vs : Int32} {be de : Int64} {sz : Int32} {ro co mi : Nat → Int64} {T : Nat → Nat → Int64} {B : Nat → Nat → Nat → Int32} {hd : Nat → Nat → Int32} {df : Nat → Int32} {ly : Nat → Nat → Int64} {dt : Int64} {rr : Nat → Int64} (ely : ly = (lyT 4 (B 7) T)) (edt : dt = detX 4 ly) (h0 : ¬ dt = 0) (hs : ¬ dt < 0) (hrr : ∀ i : Nat, rr i = detX 4 (clT 4 ly i (hd 2))) : ∃ (co2 mi2 : Nat → Int64), KX1_solve l D ca ad [.ref 1, .ref 16, .int 4, .ref 25] (XW n vs be de sz ro co mi T B hd df) (some (.int 1)) (XW n vs (absX dt) dt 4 (roc 4 rr ro) co2 mi2 ly B hd df) := by
  obtain ⟨m0, em0⟩ : ∃ z, z = miX 4 ly mi := ⟨_, rfl⟩
  obtain ⟨c1, ec1⟩ : ∃ z, z = coT 4 ly 0 co := ⟨_, rfl⟩
  obtain ⟨m1, em1⟩ : ∃ z, z = miX 4 (clT 4 ly 0 (hd 2)) m0 := ⟨_, rfl⟩
  obtain ⟨c2, ec2⟩ : ∃ z, z = coT 4 ly 1 c1 := ⟨_, rfl⟩
  obtain ⟨m2, em2⟩ : ∃ z, z = miX 4 (clT 4 ly 1 (hd 2)) m1 := ⟨_, rfl⟩
  obtain ⟨c3, ec3⟩ : ∃ z, z = coT 4 ly 2 c2 := ⟨_, rfl⟩
  obtain ⟨m3, em3⟩ : ∃ z, z = miX 4 (clT 4 ly 2 (hd 2)) m2 := ⟨_, rfl⟩
  obtain ⟨c4, ec4⟩ : ∃ z, z = coT 4 ly 3 c3 := ⟨_, rfl⟩
  obtain ⟨m4, em4⟩ : ∃ z, z = miX 4 (clT 4 ly 3 (hd 2)) m3 := ⟨_, rfl⟩
  refine ⟨c4, m4, ?_⟩
  refine PX1_solve (Nat.le_of_ble_eq_true rfl) (Or.inr rfl) ?_
  intro G hT hC hR
  refine mB hT 3 rfl ?_
  refine hC.1 _ 1 [_, _] _ _ _ _ _ (show KX1_layTable l D ca ad _ _ none (XW n vs be dt 4 ro co m0 ly B hd df) from (by rw [em0, edt, ely]; exact c_lay_7_4)) rfl rfl (Nat.le_of_ble_eq_true rfl) rfl ?_
  refine mB hT 5 rfl ?_
  refine mIf (fun hp => absurd hp (fun q => h0 (lc_eq.mp q))) (fun _ => ?_)
  refine mB hT 3 rfl ?_
  refine hC.2.1 _ [_] _ _ _ _ (c_abs _) rfl (Nat.le_of_ble_eq_true rfl) rfl ?_
  refine mB hT 10 rfl ?_
  refine mWd (w2 := (XW n vs (absX dt) dt 4 ro co m0 ly B hd df)) rfl ?_
  refine hC.2.2 _ 1 [_, _] _ _ _ _ _ (show KX1_determinantWithColumn l D ca ad _ _ (some (.long (detX 4 (clT 4 ly 0 (hd 2))))) (XW n vs (absX dt) dt 4 ro c1 m1 ly B hd df) from (by rw [em1, ec1]; exact c_dwc_2_4_0)) rfl rfl (Nat.le_of_ble_eq_true rfl) rfl ?_
  refine mB hT 9 rfl ?_
  refine mIf (fun _ => ?_) (fun hn => absurd (lc_ge.mpr (Int64.not_lt.mp hs)) hn)
  refine mNf (lv2 := [(5, .long (detX 4 (clT 4 ly 0 (hd 2)))), (4, .int 0), (0, .ref 1), (1, .ref 16), (2, .int 4), (3, .ref 25)]) (st2 := [.int 0, .ref 2]) rfl rfl ?_
  refine mB hT 1 rfl ?_
  refine mNf (lv2 := [(5, .long (detX 4 (clT 4 ly 0 (hd 2)))), (4, .int 0), (0, .ref 1), (1, .ref 16), (2, .int 4), (3, .ref 25)]) (st2 := [.long (rr 0), .int 0, .ref 2]) rfl (by rw [hrr 0] <;> rfl) ?_
  refine mB hT 10 rfl ?_
  refine mWd (w2 := (XW n vs (absX dt) dt 4 (up ro 0 (rr 0)) c1 m1 ly B hd df)) rfl ?_
  refine hC.2.2 _ 1 [_, _] _ _ _ _ _ (show KX1_determinantWithColumn l D ca ad _ _ (some (.long (detX 4 (clT 4 ly 1 (hd 2))))) (XW n vs (absX dt) dt 4 (up ro 0 (rr 0)) c2 m2 ly B hd df) from (by rw [em2, ec2]; exact c_dwc_2_4_1)) rfl rfl (Nat.le_of_ble_eq_true rfl) rfl ?_
  refine mB hT 9 rfl ?_
  refine mIf (fun _ => ?_) (fun hn => absurd (lc_ge.mpr (Int64.not_lt.mp hs)) hn)
  refine mNf (lv2 := [(5, .long (detX 4 (clT 4 ly 1 (hd 2)))), (4, .int 1), (0, .ref 1), (1, .ref 16), (2, .int 4), (3, .ref 25)]) (st2 := [.int 1, .ref 2]) rfl rfl ?_
  refine mB hT 1 rfl ?_
  refine mNf (lv2 := [(5, .long (detX 4 (clT 4 ly 1 (hd 2)))), (4, .int 1), (0, .ref 1), (1, .ref 16), (2, .int 4), (3, .ref 25)]) (st2 := [.long (rr 1), .int 1, .ref 2]) rfl (by rw [hrr 1] <;> rfl) ?_
  refine mB hT 10 rfl ?_
  refine mWd (w2 := (XW n vs (absX dt) dt 4 (up (up ro 0 (rr 0)) 1 (rr 1)) c2 m2 ly B hd df)) rfl ?_
  refine hC.2.2 _ 1 [_, _] _ _ _ _ _ (show KX1_determinantWithColumn l D ca ad _ _ (some (.long (detX 4 (clT 4 ly 2 (hd 2))))) (XW n vs (absX dt) dt 4 (up (up ro 0 (rr 0)) 1 (rr 1)) c3 m3 ly B hd df) from (by rw [em3, ec3]; exact c_dwc_2_4_2)) rfl rfl (Nat.le_of_ble_eq_true rfl) rfl ?_
  refine mB hT 9 rfl ?_
  refine mIf (fun _ => ?_) (fun hn => absurd (lc_ge.mpr (Int64.not_lt.mp hs)) hn)
  refine mNf (lv2 := [(5, .long (detX 4 (clT 4 ly 2 (hd 2)))), (4, .int 2), (0, .ref 1), (1, .ref 16), (2, .int 4), (3, .ref 25)]) (st2 := [.int 2, .ref 2]) rfl rfl ?_
  refine mB hT 1 rfl ?_
  refine mNf (lv2 := [(5, .long (detX 4 (clT 4 ly 2 (hd 2)))), (4, .int 2), (0, .ref 1), (1, .ref 16), (2, .int 4), (3, .ref 25)]) (st2 := [.long (rr 2), .int 2, .ref 2]) rfl (by rw [hrr 2] <;> rfl) ?_
  refine mB hT 10 rfl ?_
  refine mWd (w2 := (XW n vs (absX dt) dt 4 (up (up (up ro 0 (rr 0)) 1 (rr 1)) 2 (rr 2)) c3 m3 ly B hd df)) rfl ?_
  refine hC.2.2 _ 1 [_, _] _ _ _ _ _ (show KX1_determinantWithColumn l D ca ad _ _ (some (.long (detX 4 (clT 4 ly 3 (hd 2))))) (XW n vs (absX dt) dt 4 (up (up (up ro 0 (rr 0)) 1 (rr 1)) 2 (rr 2)) c4 m4 ly B hd df) from (by rw [em4, ec4]; exact c_dwc_2_4_3)) rfl rfl (Nat.le_of_ble_eq_true rfl) rfl ?_
  refine mB hT 9 rfl ?_
  refine mIf (fun _ => ?_) (fun hn => absurd (lc_ge.mpr (Int64.not_lt.mp hs)) hn)
  refine mNf (lv2 := [(5, .long (detX 4 (clT 4 ly 3 (hd 2)))), (4, .int 3), (0, .ref 1), (1, .ref 16), (2, .int 4), (3, .ref 25)]) (st2 := [.int 3, .ref 2]) rfl rfl ?_
  refine mB hT 1 rfl ?_
  refine mNf (lv2 := [(5, .long (detX 4 (clT 4 ly 3 (hd 2)))), (4, .int 3), (0, .ref 1), (1, .ref 16), (2, .int 4), (3, .ref 25)]) (st2 := [.long (rr 3), .int 3, .ref 2]) rfl (by rw [hrr 3] <;> rfl) ?_
  refine mB hT 8 rfl ?_
  exact hR _ (by decide) _ _ _ rfl rfl
set_option maxRecDepth 20000 in
theorem c_solve1_7_4_2n {n vs : Int32} {be de : Int64} {sz : Int32} {ro co mi : Nat → Int64} {T : Nat → Nat → Int64} {B : Nat → Nat → Nat → Int32} {hd : Nat → Nat → Int32} {df : Nat → Int32} {ly : Nat → Nat → Int64} {dt : Int64} {rr : Nat → Int64} (ely : ly = (lyT 4 (B 7) T)) (edt : dt = detX 4 ly) (h0 : ¬ dt = 0) (hs : dt < 0) (hrr : ∀ i : Nat, rr i = -(detX 4 (clT 4 ly i (hd 2)))) : ∃ (co2 mi2 : Nat → Int64), KX1_solve l D ca ad [.ref 1, .ref 16, .int 4, .ref 25] (XW n vs be de sz ro co mi T B hd df) (some (.int 1)) (XW n vs (absX dt) dt 4 (roc 4 rr ro) co2 mi2 ly B hd df) := by
  obtain ⟨m0, em0⟩ : ∃ z, z = miX 4 ly mi := ⟨_, rfl⟩
  obtain ⟨c1, ec1⟩ : ∃ z, z = coT 4 ly 0 co := ⟨_, rfl⟩
  obtain ⟨m1, em1⟩ : ∃ z, z = miX 4 (clT 4 ly 0 (hd 2)) m0 := ⟨_, rfl⟩
  obtain ⟨c2, ec2⟩ : ∃ z, z = coT 4 ly 1 c1 := ⟨_, rfl⟩
  obtain ⟨m2, em2⟩ : ∃ z, z = miX 4 (clT 4 ly 1 (hd 2)) m1 := ⟨_, rfl⟩
  obtain ⟨c3, ec3⟩ : ∃ z, z = coT 4 ly 2 c2 := ⟨_, rfl⟩
  obtain ⟨m3, em3⟩ : ∃ z, z = miX 4 (clT 4 ly 2 (hd 2)) m2 := ⟨_, rfl⟩
  obtain ⟨c4, ec4⟩ : ∃ z, z = coT 4 ly 3 c3 := ⟨_, rfl⟩
  obtain ⟨m4, em4⟩ : ∃ z, z = miX 4 (clT 4 ly 3 (hd 2)) m3 := ⟨_, rfl⟩
  refine ⟨c4, m4, ?_⟩
  refine PX1_solve (Nat.le_of_ble_eq_true rfl) (Or.inr rfl) ?_
  intro G hT hC hR
  refine mB hT 3 rfl ?_
  refine hC.1 _ 1 [_, _] _ _ _ _ _ (show KX1_layTable l D ca ad _ _ none (XW n vs be dt 4 ro co m0 ly B hd df) from (by rw [em0, edt, ely]; exact c_lay_7_4)) rfl rfl (Nat.le_of_ble_eq_true rfl) rfl ?_
  refine mB hT 5 rfl ?_
  refine mIf (fun hp => absurd hp (fun q => h0 (lc_eq.mp q))) (fun _ => ?_)
  refine mB hT 3 rfl ?_
  refine hC.2.1 _ [_] _ _ _ _ (c_abs _) rfl (Nat.le_of_ble_eq_true rfl) rfl ?_
  refine mB hT 10 rfl ?_
  refine mWd (w2 := (XW n vs (absX dt) dt 4 ro co m0 ly B hd df)) rfl ?_
  refine hC.2.2 _ 1 [_, _] _ _ _ _ _ (show KX1_determinantWithColumn l D ca ad _ _ (some (.long (detX 4 (clT 4 ly 0 (hd 2))))) (XW n vs (absX dt) dt 4 ro c1 m1 ly B hd df) from (by rw [em1, ec1]; exact c_dwc_2_4_0)) rfl rfl (Nat.le_of_ble_eq_true rfl) rfl ?_
  refine mB hT 9 rfl ?_
  refine mIf (fun hp => absurd hp (fun q => Int64.not_lt.mpr (lc_ge.mp q) hs)) (fun _ => ?_)
  refine mNf (lv2 := [(5, .long (detX 4 (clT 4 ly 0 (hd 2)))), (4, .int 0), (0, .ref 1), (1, .ref 16), (2, .int 4), (3, .ref 25)]) (st2 := [.int 0, .ref 2]) rfl rfl ?_
  refine mB hT 3 rfl ?_
  refine mNf (lv2 := [(5, .long (detX 4 (clT 4 ly 0 (hd 2)))), (4, .int 0), (0, .ref 1), (1, .ref 16), (2, .int 4), (3, .ref 25)]) (st2 := [.long (rr 0), .int 0, .ref 2]) rfl (by rw [hrr 0] <;> rfl) ?_
  refine mB hT 10 rfl ?_
  refine mWd (w2 := (XW n vs (absX dt) dt 4 (up ro 0 (rr 0)) c1 m1 ly B hd df)) rfl ?_
  refine hC.2.2 _ 1 [_, _] _ _ _ _ _ (show KX1_determinantWithColumn l D ca ad _ _ (some (.long (detX 4 (clT 4 ly 1 (hd 2))))) (XW n vs (absX dt) dt 4 (up ro 0 (rr 0)) c2 m2 ly B hd df) from (by rw [em2, ec2]; exact c_dwc_2_4_1)) rfl rfl (Nat.le_of_ble_eq_true rfl) rfl ?_
  refine mB hT 9 rfl ?_
  refine mIf (fun hp => absurd hp (fun q => Int64.not_lt.mpr (lc_ge.mp q) hs)) (fun _ => ?_)
  refine mNf (lv2 := [(5, .long (detX 4 (clT 4 ly 1 (hd 2)))), (4, .int 1), (0, .ref 1), (1, .ref 16), (2, .int 4), (3, .ref 25)]) (st2 := [.int 1, .ref 2]) rfl rfl ?_
  refine mB hT 3 rfl ?_
  refine mNf (lv2 := [(5, .long (detX 4 (clT 4 ly 1 (hd 2)))), (4, .int 1), (0, .ref 1), (1, .ref 16), (2, .int 4), (3, .ref 25)]) (st2 := [.long (rr 1), .int 1, .ref 2]) rfl (by rw [hrr 1] <;> rfl) ?_
  refine mB hT 10 rfl ?_
  refine mWd (w2 := (XW n vs (absX dt) dt 4 (up (up ro 0 (rr 0)) 1 (rr 1)) c2 m2 ly B hd df)) rfl ?_
  refine hC.2.2 _ 1 [_, _] _ _ _ _ _ (show KX1_determinantWithColumn l D ca ad _ _ (some (.long (detX 4 (clT 4 ly 2 (hd 2))))) (XW n vs (absX dt) dt 4 (up (up ro 0 (rr 0)) 1 (rr 1)) c3 m3 ly B hd df) from (by rw [em3, ec3]; exact c_dwc_2_4_2)) rfl rfl (Nat.le_of_ble_eq_true rfl) rfl ?_
  refine mB hT 9 rfl ?_
  refine mIf (fun hp => absurd hp (fun q => Int64.not_lt.mpr (lc_ge.mp q) hs)) (fun _ => ?_)
  refine mNf (lv2 := [(5, .long (detX 4 (clT 4 ly 2 (hd 2)))), (4, .int 2), (0, .ref 1), (1, .ref 16), (2, .int 4), (3, .ref 25)]) (st2 := [.int 2, .ref 2]) rfl rfl ?_
  refine mB hT 3 rfl ?_
  refine mNf (lv2 := [(5, .long (detX 4 (clT 4 ly 2 (hd 2)))), (4, .int 2), (0, .ref 1), (1, .ref 16), (2, .int 4), (3, .ref 25)]) (st2 := [.long (rr 2), .int 2, .ref 2]) rfl (by rw [hrr 2] <;> rfl) ?_
  refine mB hT 10 rfl ?_
  refine mWd (w2 := (XW n vs (absX dt) dt 4 (up (up (up ro 0 (rr 0)) 1 (rr 1)) 2 (rr 2)) c3 m3 ly B hd df)) rfl ?_
  refine hC.2.2 _ 1 [_, _] _ _ _ _ _ (show KX1_determinantWithColumn l D ca ad _ _ (some (.long (detX 4 (clT 4 ly 3 (hd 2))))) (XW n vs (absX dt) dt 4 (up (up (up ro 0 (rr 0)) 1 (rr 1)) 2 (rr 2)) c4 m4 ly B hd df) from (by rw [em4, ec4]; exact c_dwc_2_4_3)) rfl rfl (Nat.le_of_ble_eq_true rfl) rfl ?_
  refine mB hT 9 rfl ?_
  refine mIf (fun hp => absurd hp (fun q => Int64.not_lt.mpr (lc_ge.mp q) hs)) (fun _ => ?_)
  refine mNf (lv2 := [(5, .long (detX 4 (clT 4 ly 3 (hd 2)))), (4, .int 3), (0, .ref 1), (1, .ref 16), (2, .int 4), (3, .ref 25)]) (st2 := [.int 3, .ref 2]) rfl rfl ?_
  refine mB hT 3 rfl ?_
  refine mNf (lv2 := [(5, .long (detX 4 (clT 4 ly 3 (hd 2)))), (4, .int 3), (0, .ref 1), (1, .ref 16), (2, .int 4), (3, .ref 25)]) (st2 := [.long (rr 3), .int 3, .ref 2]) rfl (by rw [hrr 3] <;> rfl) ?_
  refine mB hT 8 rfl ?_
  exact hR _ (by decide) _ _ _ rfl rfl
theorem c_solve1_7_4_2 {n vs : Int32} {be de : Int64} {sz : Int32} {ro co mi : Nat → Int64} {T : Nat → Nat → Int64} {B : Nat → Nat → Nat → Int32} {hd : Nat → Nat → Int32} {df : Nat → Int32} (h0 : ¬ detX 4 (lyT 4 (B 7) T) = 0) : ∃ (de2 : Int64) (co2 mi2 : Nat → Int64) (T2 : Nat → Nat → Int64), KX1_solve l D ca ad [.ref 1, .ref 16, .int 4, .ref 25] (XW n vs be de sz ro co mi T B hd df) (some (.int 1)) (XW n vs (absX (detX 4 (lyT 4 (B 7) T))) de2 4 (roX 4 (lyT 4 (B 7) T) (hd 2) ro) co2 mi2 T2 B hd df) := by
  by_cases hs : detX 4 (lyT 4 (B 7) T) < 0
  · obtain ⟨c2, m2, k⟩ := c_solve1_7_4_2n (rr := rdX 4 (lyT 4 (B 7) T) (hd 2)) rfl rfl h0 hs (fun i => if_pos hs)
    exact ⟨_, c2, m2, _, k⟩
  · obtain ⟨c2, m2, k⟩ := c_solve1_7_4_2p (rr := rdX 4 (lyT 4 (B 7) T) (hd 2)) rfl rfl h0 hs (fun i => if_neg hs)
    exact ⟨_, c2, m2, _, k⟩
theorem c_solve0_7_4_3 {n vs : Int32} {be de : Int64} {sz : Int32} {ro co mi : Nat → Int64} {T : Nat → Nat → Int64} {B : Nat → Nat → Nat → Int32} {hd : Nat → Nat → Int32} {df : Nat → Int32} (h0 : detX 4 (lyT 4 (B 7) T) = 0) : ∃ (de2 : Int64) (mi2 : Nat → Int64) (T2 : Nat → Nat → Int64), KX1_solve l D ca ad [.ref 1, .ref 16, .int 4, .ref 26] (XW n vs be de sz ro co mi T B hd df) (some (.int 0)) (XW n vs be de2 4 ro co mi2 T2 B hd df) := by
  obtain ⟨ly, ely⟩ : ∃ z, z = (lyT 4 (B 7) T) := ⟨_, rfl⟩
  rw [← ely] at h0
  obtain ⟨dt, edt⟩ : ∃ z, z = detX 4 ly := ⟨_, rfl⟩
  rw [← edt] at h0
  obtain ⟨m0, em0⟩ : ∃ z, z = miX 4 ly mi := ⟨_, rfl⟩
  refine ⟨dt, m0, ly, ?_⟩
  refine PX1_solve (Nat.le_of_ble_eq_true rfl) (Or.inl rfl) ?_
  intro G hT hC hR
  refine mB hT 3 rfl ?_
  refine hC.1 _ 1 [_, _] _ _ _ _ _ (show KX1_layTable l D ca ad _ _ none (XW n vs be dt 4 ro co m0 ly B hd df) from (by rw [em0, edt, ely]; exact c_lay_7_4)) rfl rfl (Nat.le_of_ble_eq_true rfl) rfl ?_
  refine mB hT 5 rfl ?_
  refine mIf (fun _ => ?_) (fun hn => absurd (lc_eq.mpr h0) hn)
  refine mB hT 1 rfl ?_
  exact hR _ (by decide) _ _ _ rfl rfl
set_option maxRecDepth 20000 in
theorem c_solve1_7_4_3p {n vs : Int32} {be de : Int64} {sz : Int32} {ro co mi : Nat → Int64} {T : Nat → Nat → Int64} {B : Nat → Nat → Nat → Int32} {hd : Nat → Nat → Int32} {df : Nat → Int32} {ly : Nat → Nat → Int64} {dt : Int64} {rr : Nat → Int64} (ely : ly = (lyT 4 (B 7) T)) (edt : dt = detX 4 ly) (h0 : ¬ dt = 0) (hs : ¬ dt < 0) (hrr : ∀ i : Nat, rr i = detX 4 (clT 4 ly i (hd 3))) : ∃ (co2 mi2 : Nat → Int64), KX1_solve l D ca ad [.ref 1, .ref 16, .int 4, .ref 26] (XW n vs be de sz ro co mi T B hd df) (some (.int 1)) (XW n vs (absX dt) dt 4 (roc 4 rr ro) co2 mi2 ly B hd df) := by
  obtain ⟨m0, em0⟩ : ∃ z, z = miX 4 ly mi := ⟨_, rfl⟩
  obtain ⟨c1, ec1⟩ : ∃ z, z = coT 4 ly 0 co := ⟨_, rfl⟩
  obtain ⟨m1, em1⟩ : ∃ z, z = miX 4 (clT 4 ly 0 (hd 3)) m0 := ⟨_, rfl⟩
  obtain ⟨c2, ec2⟩ : ∃ z, z = coT 4 ly 1 c1 := ⟨_, rfl⟩
  obtain ⟨m2, em2⟩ : ∃ z, z = miX 4 (clT 4 ly 1 (hd 3)) m1 := ⟨_, rfl⟩
  obtain ⟨c3, ec3⟩ : ∃ z, z = coT 4 ly 2 c2 := ⟨_, rfl⟩
  obtain ⟨m3, em3⟩ : ∃ z, z = miX 4 (clT 4 ly 2 (hd 3)) m2 := ⟨_, rfl⟩
  obtain ⟨c4, ec4⟩ : ∃ z, z = coT 4 ly 3 c3 := ⟨_, rfl⟩
  obtain ⟨m4, em4⟩ : ∃ z, z = miX 4 (clT 4 ly 3 (hd 3)) m3 := ⟨_, rfl⟩
  refine ⟨c4, m4, ?_⟩
  refine PX1_solve (Nat.le_of_ble_eq_true rfl) (Or.inr rfl) ?_
  intro G hT hC hR
  refine mB hT 3 rfl ?_
  refine hC.1 _ 1 [_, _] _ _ _ _ _ (show KX1_layTable l D ca ad _ _ none (XW n vs be dt 4 ro co m0 ly B hd df) from (by rw [em0, edt, ely]; exact c_lay_7_4)) rfl rfl (Nat.le_of_ble_eq_true rfl) rfl ?_
  refine mB hT 5 rfl ?_
  refine mIf (fun hp => absurd hp (fun q => h0 (lc_eq.mp q))) (fun _ => ?_)
  refine mB hT 3 rfl ?_
  refine hC.2.1 _ [_] _ _ _ _ (c_abs _) rfl (Nat.le_of_ble_eq_true rfl) rfl ?_
  refine mB hT 10 rfl ?_
  refine mWd (w2 := (XW n vs (absX dt) dt 4 ro co m0 ly B hd df)) rfl ?_
  refine hC.2.2 _ 1 [_, _] _ _ _ _ _ (show KX1_determinantWithColumn l D ca ad _ _ (some (.long (detX 4 (clT 4 ly 0 (hd 3))))) (XW n vs (absX dt) dt 4 ro c1 m1 ly B hd df) from (by rw [em1, ec1]; exact c_dwc_3_4_0)) rfl rfl (Nat.le_of_ble_eq_true rfl) rfl ?_
  refine mB hT 9 rfl ?_
  refine mIf (fun _ => ?_) (fun hn => absurd (lc_ge.mpr (Int64.not_lt.mp hs)) hn)
  refine mNf (lv2 := [(5, .long (detX 4 (clT 4 ly 0 (hd 3)))), (4, .int 0), (0, .ref 1), (1, .ref 16), (2, .int 4), (3, .ref 26)]) (st2 := [.int 0, .ref 2]) rfl rfl ?_
  refine mB hT 1 rfl ?_
  refine mNf (lv2 := [(5, .long (detX 4 (clT 4 ly 0 (hd 3)))), (4, .int 0), (0, .ref 1), (1, .ref 16), (2, .int 4), (3, .ref 26)]) (st2 := [.long (rr 0), .int 0, .ref 2]) rfl (by rw [hrr 0] <;> rfl) ?_
  refine mB hT 10 rfl ?_
  refine mWd (w2 := (XW n vs (absX dt) dt 4 (up ro 0 (rr 0)) c1 m1 ly B hd df)) rfl ?_
  refine hC.2.2 _ 1 [_, _] _ _ _ _ _ (show KX1_determinantWithColumn l D ca ad _ _ (some (.long (detX 4 (clT 4 ly 1 (hd 3))))) (XW n vs (absX dt) dt 4 (up ro 0 (rr 0)) c2 m2 ly B hd df) from (by rw [em2, ec2]; exact c_dwc_3_4_1)) rfl rfl (Nat.le_of_ble_eq_true rfl) rfl ?_
  refine mB hT 9 rfl ?_
  refine mIf (fun _ => ?_) (fun hn => absurd (lc_ge.mpr (Int64.not_lt.mp hs)) hn)
  refine mNf (lv2 := [(5, .long (detX 4 (clT 4 ly 1 (hd 3)))), (4, .int 1), (0, .ref 1), (1, .ref 16), (2, .int 4), (3, .ref 26)]) (st2 := [.int 1, .ref 2]) rfl rfl ?_
  refine mB hT 1 rfl ?_
  refine mNf (lv2 := [(5, .long (detX 4 (clT 4 ly 1 (hd 3)))), (4, .int 1), (0, .ref 1), (1, .ref 16), (2, .int 4), (3, .ref 26)]) (st2 := [.long (rr 1), .int 1, .ref 2]) rfl (by rw [hrr 1] <;> rfl) ?_
  refine mB hT 10 rfl ?_
  refine mWd (w2 := (XW n vs (absX dt) dt 4 (up (up ro 0 (rr 0)) 1 (rr 1)) c2 m2 ly B hd df)) rfl ?_
  refine hC.2.2 _ 1 [_, _] _ _ _ _ _ (show KX1_determinantWithColumn l D ca ad _ _ (some (.long (detX 4 (clT 4 ly 2 (hd 3))))) (XW n vs (absX dt) dt 4 (up (up ro 0 (rr 0)) 1 (rr 1)) c3 m3 ly B hd df) from (by rw [em3, ec3]; exact c_dwc_3_4_2)) rfl rfl (Nat.le_of_ble_eq_true rfl) rfl ?_
  refine mB hT 9 rfl ?_
  refine mIf (fun _ => ?_) (fun hn => absurd (lc_ge.mpr (Int64.not_lt.mp hs)) hn)
  refine mNf (lv2 := [(5, .long (detX 4 (clT 4 ly 2 (hd 3)))), (4, .int 2), (0, .ref 1), (1, .ref 16), (2, .int 4), (3, .ref 26)]) (st2 := [.int 2, .ref 2]) rfl rfl ?_
  refine mB hT 1 rfl ?_
  refine mNf (lv2 := [(5, .long (detX 4 (clT 4 ly 2 (hd 3)))), (4, .int 2), (0, .ref 1), (1, .ref 16), (2, .int 4), (3, .ref 26)]) (st2 := [.long (rr 2), .int 2, .ref 2]) rfl (by rw [hrr 2] <;> rfl) ?_
  refine mB hT 10 rfl ?_
  refine mWd (w2 := (XW n vs (absX dt) dt 4 (up (up (up ro 0 (rr 0)) 1 (rr 1)) 2 (rr 2)) c3 m3 ly B hd df)) rfl ?_
  refine hC.2.2 _ 1 [_, _] _ _ _ _ _ (show KX1_determinantWithColumn l D ca ad _ _ (some (.long (detX 4 (clT 4 ly 3 (hd 3))))) (XW n vs (absX dt) dt 4 (up (up (up ro 0 (rr 0)) 1 (rr 1)) 2 (rr 2)) c4 m4 ly B hd df) from (by rw [em4, ec4]; exact c_dwc_3_4_3)) rfl rfl (Nat.le_of_ble_eq_true rfl) rfl ?_
  refine mB hT 9 rfl ?_
  refine mIf (fun _ => ?_) (fun hn => absurd (lc_ge.mpr (Int64.not_lt.mp hs)) hn)
  refine mNf (lv2 := [(5, .long (detX 4 (clT 4 ly 3 (hd 3)))), (4, .int 3), (0, .ref 1), (1, .ref 16), (2, .int 4), (3, .ref 26)]) (st2 := [.int 3, .ref 2]) rfl rfl ?_
  refine mB hT 1 rfl ?_
  refine mNf (lv2 := [(5, .long (detX 4 (clT 4 ly 3 (hd 3)))), (4, .int 3), (0, .ref 1), (1, .ref 16), (2, .int 4), (3, .ref 26)]) (st2 := [.long (rr 3), .int 3, .ref 2]) rfl (by rw [hrr 3] <;> rfl) ?_
  refine mB hT 8 rfl ?_
  exact hR _ (by decide) _ _ _ rfl rfl
set_option maxRecDepth 20000 in
theorem c_solve1_7_4_3n {n vs : Int32} {be de : Int64} {sz : Int32} {ro co mi : Nat → Int64} {T : Nat → Nat → Int64} {B : Nat → Nat → Nat → Int32} {hd : Nat → Nat → Int32} {df : Nat → Int32} {ly : Nat → Nat → Int64} {dt : Int64} {rr : Nat → Int64} (ely : ly = (lyT 4 (B 7) T)) (edt : dt = detX 4 ly) (h0 : ¬ dt = 0) (hs : dt < 0) (hrr : ∀ i : Nat, rr i = -(detX 4 (clT 4 ly i (hd 3)))) : ∃ (co2 mi2 : Nat → Int64), KX1_solve l D ca ad [.ref 1, .ref 16, .int 4, .ref 26] (XW n vs be de sz ro co mi T B hd df) (some (.int 1)) (XW n vs (absX dt) dt 4 (roc 4 rr ro) co2 mi2 ly B hd df) := by
  obtain ⟨m0, em0⟩ : ∃ z, z = miX 4 ly mi := ⟨_, rfl⟩
  obtain ⟨c1, ec1⟩ : ∃ z, z = coT 4 ly 0 co := ⟨_, rfl⟩
  obtain ⟨m1, em1⟩ : ∃ z, z = miX 4 (clT 4 ly 0 (hd 3)) m0 := ⟨_, rfl⟩
  obtain ⟨c2, ec2⟩ : ∃ z, z = coT 4 ly 1 c1 := ⟨_, rfl⟩
  obtain ⟨m2, em2⟩ : ∃ z, z = miX 4 (clT 4 ly 1 (hd 3)) m1 := ⟨_, rfl⟩
  obtain ⟨c3, ec3⟩ : ∃ z, z = coT 4 ly 2 c2 := ⟨_, rfl⟩
  obtain ⟨m3, em3⟩ : ∃ z, z = miX 4 (clT 4 ly 2 (hd 3)) m2 := ⟨_, rfl⟩
  obtain ⟨c4, ec4⟩ : ∃ z, z = coT 4 ly 3 c3 := ⟨_, rfl⟩
  obtain ⟨m4, em4⟩ : ∃ z, z = miX 4 (clT 4 ly 3 (hd 3)) m3 := ⟨_, rfl⟩
  refine ⟨c4, m4, ?_⟩
  refine PX1_solve (Nat.le_of_ble_eq_true rfl) (Or.inr rfl) ?_
  intro G hT hC hR
  refine mB hT 3 rfl ?_
  refine hC.1 _ 1 [_, _] _ _ _ _ _ (show KX1_layTable l D ca ad _ _ none (XW n vs be dt 4 ro co m0 ly B hd df) from (by rw [em0, edt, ely]; exact c_lay_7_4)) rfl rfl (Nat.le_of_ble_eq_true rfl) rfl ?_
  refine mB hT 5 rfl ?_
  refine mIf (fun hp => absurd hp (fun q => h0 (lc_eq.mp q))) (fun _ => ?_)
  refine mB hT 3 rfl ?_
  refine hC.2.1 _ [_] _ _ _ _ (c_abs _) rfl (Nat.le_of_ble_eq_true rfl) rfl ?_
  refine mB hT 10 rfl ?_
  refine mWd (w2 := (XW n vs (absX dt) dt 4 ro co m0 ly B hd df)) rfl ?_
  refine hC.2.2 _ 1 [_, _] _ _ _ _ _ (show KX1_determinantWithColumn l D ca ad _ _ (some (.long (detX 4 (clT 4 ly 0 (hd 3))))) (XW n vs (absX dt) dt 4 ro c1 m1 ly B hd df) from (by rw [em1, ec1]; exact c_dwc_3_4_0)) rfl rfl (Nat.le_of_ble_eq_true rfl) rfl ?_
  refine mB hT 9 rfl ?_
  refine mIf (fun hp => absurd hp (fun q => Int64.not_lt.mpr (lc_ge.mp q) hs)) (fun _ => ?_)
  refine mNf (lv2 := [(5, .long (detX 4 (clT 4 ly 0 (hd 3)))), (4, .int 0), (0, .ref 1), (1, .ref 16), (2, .int 4), (3, .ref 26)]) (st2 := [.int 0, .ref 2]) rfl rfl ?_
  refine mB hT 3 rfl ?_
  refine mNf (lv2 := [(5, .long (detX 4 (clT 4 ly 0 (hd 3)))), (4, .int 0), (0, .ref 1), (1, .ref 16), (2, .int 4), (3, .ref 26)]) (st2 := [.long (rr 0), .int 0, .ref 2]) rfl (by rw [hrr 0] <;> rfl) ?_
  refine mB hT 10 rfl ?_
  refine mWd (w2 := (XW n vs (absX dt) dt 4 (up ro 0 (rr 0)) c1 m1 ly B hd df)) rfl ?_
  refine hC.2.2 _ 1 [_, _] _ _ _ _ _ (show KX1_determinantWithColumn l D ca ad _ _ (some (.long (detX 4 (clT 4 ly 1 (hd 3))))) (XW n vs (absX dt) dt 4 (up ro 0 (rr 0)) c2 m2 ly B hd df) from (by rw [em2, ec2]; exact c_dwc_3_4_1)) rfl rfl (Nat.le_of_ble_eq_true rfl) rfl ?_
  refine mB hT 9 rfl ?_
  refine mIf (fun hp => absurd hp (fun q => Int64.not_lt.mpr (lc_ge.mp q) hs)) (fun _ => ?_)
  refine mNf (lv2 := [(5, .long (detX 4 (clT 4 ly 1 (hd 3)))), (4, .int 1), (0, .ref 1), (1, .ref 16), (2, .int 4), (3, .ref 26)]) (st2 := [.int 1, .ref 2]) rfl rfl ?_
  refine mB hT 3 rfl ?_
  refine mNf (lv2 := [(5, .long (detX 4 (clT 4 ly 1 (hd 3)))), (4, .int 1), (0, .ref 1), (1, .ref 16), (2, .int 4), (3, .ref 26)]) (st2 := [.long (rr 1), .int 1, .ref 2]) rfl (by rw [hrr 1] <;> rfl) ?_
  refine mB hT 10 rfl ?_
  refine mWd (w2 := (XW n vs (absX dt) dt 4 (up (up ro 0 (rr 0)) 1 (rr 1)) c2 m2 ly B hd df)) rfl ?_
  refine hC.2.2 _ 1 [_, _] _ _ _ _ _ (show KX1_determinantWithColumn l D ca ad _ _ (some (.long (detX 4 (clT 4 ly 2 (hd 3))))) (XW n vs (absX dt) dt 4 (up (up ro 0 (rr 0)) 1 (rr 1)) c3 m3 ly B hd df) from (by rw [em3, ec3]; exact c_dwc_3_4_2)) rfl rfl (Nat.le_of_ble_eq_true rfl) rfl ?_
  refine mB hT 9 rfl ?_
  refine mIf (fun hp => absurd hp (fun q => Int64.not_lt.mpr (lc_ge.mp q) hs)) (fun _ => ?_)
  refine mNf (lv2 := [(5, .long (detX 4 (clT 4 ly 2 (hd 3)))), (4, .int 2), (0, .ref 1), (1, .ref 16), (2, .int 4), (3, .ref 26)]) (st2 := [.int 2, .ref 2]) rfl rfl ?_
  refine mB hT 3 rfl ?_
  refine mNf (lv2 := [(5, .long (detX 4 (clT 4 ly 2 (hd 3)))), (4, .int 2), (0, .ref 1), (1, .ref 16), (2, .int 4), (3, .ref 26)]) (st2 := [.long (rr 2), .int 2, .ref 2]) rfl (by rw [hrr 2] <;> rfl) ?_
  refine mB hT 10 rfl ?_
  refine mWd (w2 := (XW n vs (absX dt) dt 4 (up (up (up ro 0 (rr 0)) 1 (rr 1)) 2 (rr 2)) c3 m3 ly B hd df)) rfl ?_
  refine hC.2.2 _ 1 [_, _] _ _ _ _ _ (show KX1_determinantWithColumn l D ca ad _ _ (some (.long (detX 4 (clT 4 ly 3 (hd 3))))) (XW n vs (absX dt) dt 4 (up (up (up ro 0 (rr 0)) 1 (rr 1)) 2 (rr 2)) c4 m4 ly B hd df) from (by rw [em4, ec4]; exact c_dwc_3_4_3)) rfl rfl (Nat.le_of_ble_eq_true rfl) rfl ?_
  refine mB hT 9 rfl ?_
  refine mIf (fun hp => absurd hp (fun q => Int64.not_lt.mpr (lc_ge.mp q) hs)) (fun _ => ?_)
  refine mNf (lv2 := [(5, .long (detX 4 (clT 4 ly 3 (hd 3)))), (4, .int 3), (0, .ref 1), (1, .ref 16), (2, .int 4), (3, .ref 26)]) (st2 := [.int 3, .ref 2]) rfl rfl ?_
  refine mB hT 3 rfl ?_
  refine mNf (lv2 := [(5, .long (detX 4 (clT 4 ly 3 (hd 3)))), (4, .int 3), (0, .ref 1), (1, .ref 16), (2, .int 4), (3, .ref 26)]) (st2 := [.long (rr 3), .int 3, .ref 2]) rfl (by rw [hrr 3] <;> rfl) ?_
  refine mB hT 8 rfl ?_
  exact hR _ (by decide) _ _ _ rfl rfl
theorem c_solve1_7_4_3 {n vs : Int32} {be de : Int64} {sz : Int32} {ro co mi : Nat → Int64} {T : Nat → Nat → Int64} {B : Nat → Nat → Nat → Int32} {hd : Nat → Nat → Int32} {df : Nat → Int32} (h0 : ¬ detX 4 (lyT 4 (B 7) T) = 0) : ∃ (de2 : Int64) (co2 mi2 : Nat → Int64) (T2 : Nat → Nat → Int64), KX1_solve l D ca ad [.ref 1, .ref 16, .int 4, .ref 26] (XW n vs be de sz ro co mi T B hd df) (some (.int 1)) (XW n vs (absX (detX 4 (lyT 4 (B 7) T))) de2 4 (roX 4 (lyT 4 (B 7) T) (hd 3) ro) co2 mi2 T2 B hd df) := by
  by_cases hs : detX 4 (lyT 4 (B 7) T) < 0
  · obtain ⟨c2, m2, k⟩ := c_solve1_7_4_3n (rr := rdX 4 (lyT 4 (B 7) T) (hd 3)) rfl rfl h0 hs (fun i => if_pos hs)
    exact ⟨_, c2, m2, _, k⟩
  · obtain ⟨c2, m2, k⟩ := c_solve1_7_4_3p (rr := rdX 4 (lyT 4 (B 7) T) (hd 3)) rfl rfl h0 hs (fun i => if_neg hs)
    exact ⟨_, c2, m2, _, k⟩
theorem c_solve0_7_4_4 {n vs : Int32} {be de : Int64} {sz : Int32} {ro co mi : Nat → Int64} {T : Nat → Nat → Int64} {B : Nat → Nat → Nat → Int32} {hd : Nat → Nat → Int32} {df : Nat → Int32} (h0 : detX 4 (lyT 4 (B 7) T) = 0) : ∃ (de2 : Int64) (mi2 : Nat → Int64) (T2 : Nat → Nat → Int64), KX1_solve l D ca ad [.ref 1, .ref 16, .int 4, .ref 27] (XW n vs be de sz ro co mi T B hd df) (some (.int 0)) (XW n vs be de2 4 ro co mi2 T2 B hd df) := by
  obtain ⟨ly, ely⟩ : ∃ z, z = (lyT 4 (B 7) T) := ⟨_, rfl⟩
  rw [← ely] at h0
  obtain ⟨dt, edt⟩ : ∃ z, z = detX 4 ly := ⟨_, rfl⟩
  rw [← edt] at h0
  obtain ⟨m0, em0⟩ : ∃ z, z = miX 4 ly mi := ⟨_, rfl⟩
  refine ⟨dt, m0, ly, ?_⟩
  refine PX1_solve (Nat.le_of_ble_eq_true rfl) (Or.inl rfl) ?_
  intro G hT hC hR
  refine mB hT 3 rfl ?_
  refine hC.1 _ 1 [_, _] _ _ _ _ _ (show KX1_layTable l D ca ad _ _ none (XW n vs be dt 4 ro co m0 ly B hd df) from (by rw [em0, edt, ely]; exact c_lay_7_4)) rfl rfl (Nat.le_of_ble_eq_true rfl) rfl ?_
  refine mB hT 5 rfl ?_
  refine mIf (fun _ => ?_) (fun hn => absurd (lc_eq.mpr h0) hn)
  refine mB hT 1 rfl ?_
  exact hR _ (by decide) _ _ _ rfl rfl
set_option maxRecDepth 20000 in
theorem c_solve1_7_4_4p {n vs : Int32} {be de : Int64} {sz : Int32} {ro co mi : Nat → Int64} {T : Nat → Nat → Int64} {B : Nat → Nat → Nat → Int32} {hd : Nat → Nat → Int32} {df : Nat → Int32} {ly : Nat → Nat → Int64} {dt : Int64} {rr : Nat → Int64} (ely : ly = (lyT 4 (B 7) T)) (edt : dt = detX 4 ly) (h0 : ¬ dt = 0) (hs : ¬ dt < 0) (hrr : ∀ i : Nat, rr i = detX 4 (clT 4 ly i df)) : ∃ (co2 mi2 : Nat → Int64), KX1_solve l D ca ad [.ref 1, .ref 16, .int 4, .ref 27] (XW n vs be de sz ro co mi T B hd df) (some (.int 1)) (XW n vs (absX dt) dt 4 (roc 4 rr ro) co2 mi2 ly B hd df) := by
  obtain ⟨m0, em0⟩ : ∃ z, z = miX 4 ly mi := ⟨_, rfl⟩
  obtain ⟨c1, ec1⟩ : ∃ z, z = coT 4 ly 0 co := ⟨_, rfl⟩
  obtain ⟨m1, em1⟩ : ∃ z, z = miX 4 (clT 4 ly 0 df) m0 := ⟨_, rfl⟩
  obtain ⟨c2, ec2⟩ : ∃ z, z = coT 4 ly 1 c1 := ⟨_, rfl⟩
  obtain ⟨m2, em2⟩ : ∃ z, z = miX 4 (clT 4 ly 1 df) m1 := ⟨_, rfl⟩
  obtain ⟨c3, ec3⟩ : ∃ z, z = coT 4 ly 2 c2 := ⟨_, rfl⟩
  obtain ⟨m3, em3⟩ : ∃ z, z = miX 4 (clT 4 ly 2 df) m2 := ⟨_, rfl⟩
  obtain ⟨c4, ec4⟩ : ∃ z, z = coT 4 ly 3 c3 := ⟨_, rfl⟩
  obtain ⟨m4, em4⟩ : ∃ z, z = miX 4 (clT 4 ly 3 df) m3 := ⟨_, rfl⟩
  refine ⟨c4, m4, ?_⟩
  refine PX1_solve (Nat.le_of_ble_eq_true rfl) (Or.inr rfl) ?_
  intro G hT hC hR
  refine mB hT 3 rfl ?_
  refine hC.1 _ 1 [_, _] _ _ _ _ _ (show KX1_layTable l D ca ad _ _ none (XW n vs be dt 4 ro co m0 ly B hd df) from (by rw [em0, edt, ely]; exact c_lay_7_4)) rfl rfl (Nat.le_of_ble_eq_true rfl) rfl ?_
  refine mB hT 5 rfl ?_
  refine mIf (fun hp => absurd hp (fun q => h0 (lc_eq.mp q))) (fun _ => ?_)
  refine mB hT 3 rfl ?_
  refine hC.2.1 _ [_] _ _ _ _ (c_abs _) rfl (Nat.le_of_ble_eq_true rfl) rfl ?_
  refine mB hT 10 rfl ?_
  refine mWd (w2 := (XW n vs (absX dt) dt 4 ro co m0 ly B hd df)) rfl ?_
  refine hC.2.2 _ 1 [_, _] _ _ _ _ _ (show KX1_determinantWithColumn l D ca ad _ _ (some (.long (detX 4 (clT 4 ly 0 df)))) (XW n vs (absX dt) dt 4 ro c1 m1 ly B hd df) from (by rw [em1, ec1]; exact c_dwc_4_4_0)) rfl rfl (Nat.le_of_ble_eq_true rfl) rfl ?_
  refine mB hT 9 rfl ?_
  refine mIf (fun _ => ?_) (fun hn => absurd (lc_ge.mpr (Int64.not_lt.mp hs)) hn)
  refine mNf (lv2 := [(5, .long (detX 4 (clT 4 ly 0 df))), (4, .int 0), (0, .ref 1), (1, .ref 16), (2, .int 4), (3, .ref 27)]) (st2 := [.int 0, .ref 2]) rfl rfl ?_
  refine mB hT 1 rfl ?_
  refine mNf (lv2 := [(5, .long (detX 4 (clT 4 ly 0 df))), (4, .int 0), (0, .ref 1), (1, .ref 16), (2, .int 4), (3, .ref 27)]) (st2 := [.long (rr 0), .int 0, .ref 2]) rfl (by rw [hrr 0] <;> rfl) ?_
  refine mB hT 10 rfl ?_
  refine mWd (w2 := (XW n vs (absX dt) dt 4 (up ro 0 (rr 0)) c1 m1 ly B hd df)) rfl ?_
  refine hC.2.2 _ 1 [_, _] _ _ _ _ _ (show KX1_determinantWithColumn l D ca ad _ _ (some (.long (detX 4 (clT 4 ly 1 df)))) (XW n vs (absX dt) dt 4 (up ro 0 (rr 0)) c2 m2 ly B hd df) from (by rw [em2, ec2]; exact c_dwc_4_4_1)) rfl rfl (Nat.le_of_ble_eq_true rfl) rfl ?_
  refine mB hT 9 rfl ?_
  refine mIf (fun _ => ?_) (fun hn => absurd (lc_ge.mpr (Int64.not_lt.mp hs)) hn)
  refine mNf (lv2 := [(5, .long (detX 4 (clT 4 ly 1 df))), (4, .int 1), (0, .ref 1), (1, .ref 16), (2, .int 4), (3, .ref 27)]) (st2 := [.int 1, .ref 2]) rfl rfl ?_
  refine mB hT 1 rfl ?_
  refine mNf (lv2 := [(5, .long (detX 4 (clT 4 ly 1 df))), (4, .int 1), (0, .ref 1), (1, .ref 16), (2, .int 4), (3, .ref 27)]) (st2 := [.long (rr 1), .int 1, .ref 2]) rfl (by rw [hrr 1] <;> rfl) ?_
  refine mB hT 10 rfl ?_
  refine mWd (w2 := (XW n vs (absX dt) dt 4 (up (up ro 0 (rr 0)) 1 (rr 1)) c2 m2 ly B hd df)) rfl ?_
  refine hC.2.2 _ 1 [_, _] _ _ _ _ _ (show KX1_determinantWithColumn l D ca ad _ _ (some (.long (detX 4 (clT 4 ly 2 df)))) (XW n vs (absX dt) dt 4 (up (up ro 0 (rr 0)) 1 (rr 1)) c3 m3 ly B hd df) from (by rw [em3, ec3]; exact c_dwc_4_4_2)) rfl rfl (Nat.le_of_ble_eq_true rfl) rfl ?_
  refine mB hT 9 rfl ?_
  refine mIf (fun _ => ?_) (fun hn => absurd (lc_ge.mpr (Int64.not_lt.mp hs)) hn)
  refine mNf (lv2 := [(5, .long (detX 4 (clT 4 ly 2 df))), (4, .int 2), (0, .ref 1), (1, .ref 16), (2, .int 4), (3, .ref 27)]) (st2 := [.int 2, .ref 2]) rfl rfl ?_
  refine mB hT 1 rfl ?_
  refine mNf (lv2 := [(5, .long (detX 4 (clT 4 ly 2 df))), (4, .int 2), (0, .ref 1), (1, .ref 16), (2, .int 4), (3, .ref 27)]) (st2 := [.long (rr 2), .int 2, .ref 2]) rfl (by rw [hrr 2] <;> rfl) ?_
  refine mB hT 10 rfl ?_
  refine mWd (w2 := (XW n vs (absX dt) dt 4 (up (up (up ro 0 (rr 0)) 1 (rr 1)) 2 (rr 2)) c3 m3 ly B hd df)) rfl ?_
  refine hC.2.2 _ 1 [_, _] _ _ _ _ _ (show KX1_determinantWithColumn l D ca ad _ _ (some (.long (detX 4 (clT 4 ly 3 df)))) (XW n vs (absX dt) dt 4 (up (up (up ro 0 (rr 0)) 1 (rr 1)) 2 (rr 2)) c4 m4 ly B hd df) from (by rw [em4, ec4]; exact c_dwc_4_4_3)) rfl rfl (Nat.le_of_ble_eq_true rfl) rfl ?_
  refine mB hT 9 rfl ?_
  refine mIf (fun _ => ?_) (fun hn => absurd (lc_ge.mpr (Int64.not_lt.mp hs)) hn)
  refine mNf (lv2 := [(5, .long (detX 4 (clT 4 ly 3 df))), (4, .int 3), (0, .ref 1), (1, .ref 16), (2, .int 4), (3, .ref 27)]) (st2 := [.int 3, .ref 2]) rfl rfl ?_
  refine mB hT 1 rfl ?_
  refine mNf (lv2 := [(5, .long (detX 4 (clT 4 ly 3 df))), (4, .int 3), (0, .ref 1), (1, .ref 16), (2, .int 4), (3, .ref 27)]) (st2 := [.long (rr 3), .int 3, .ref 2]) rfl (by rw [hrr 3] <;> rfl) ?_
  refine mB hT 8 rfl ?_
  exact hR _ (by decide) _ _ _ rfl rfl
set_option maxRecDepth 20000 in
theorem c_solve1_7_4_4n {n vs : Int32} {be de : Int64} {sz : Int32} {ro co mi : Nat → Int64} {T : Nat → Nat → Int64} {B : Nat → Nat → Nat → Int32} {hd : Nat → Nat → Int32} {df : Nat → Int32} {ly : Nat → Nat → Int64} {dt : Int64} {rr : Nat → Int64} (ely : ly = (lyT 4 (B 7) T)) (edt : dt = detX 4 ly) (h0 : ¬ dt = 0) (hs : dt < 0) (hrr : ∀ i : Nat, rr i = -(detX 4 (clT 4 ly i df))) : ∃ (co2 mi2 : Nat → Int64), KX1_solve l D ca ad [.ref 1, .ref 16, .int 4, .ref 27] (XW n vs be de sz ro co mi T B hd df) (some (.int 1)) (XW n vs (absX dt) dt 4 (roc 4 rr ro) co2 mi2 ly B hd df) := by
  obtain ⟨m0, em0⟩ : ∃ z, z = miX 4 ly mi := ⟨_, rfl⟩
  obtain ⟨c1, ec1⟩ : ∃ z, z = coT 4 ly 0 co := ⟨_, rfl⟩
  obtain ⟨m1, em1⟩ : ∃ z, z = miX 4 (clT 4 ly 0 df) m0 := ⟨_, rfl⟩
  obtain ⟨c2, ec2⟩ : ∃ z, z = coT 4 ly 1 c1 := ⟨_, rfl⟩
  obtain ⟨m2, em2⟩ : ∃ z, z = miX 4 (clT 4 ly 1 df) m1 := ⟨_, rfl⟩
  obtain ⟨c3, ec3⟩ : ∃ z, z = coT 4 ly 2 c2 := ⟨_, rfl⟩
  obtain ⟨m3, em3⟩ : ∃ z, z = miX 4 (clT 4 ly 2 df) m2 := ⟨_, rfl⟩
  obtain ⟨c4, ec4⟩ : ∃ z, z = coT 4 ly 3 c3 := ⟨_, rfl⟩
  obtain ⟨m4, em4⟩ : ∃ z, z = miX 4 (clT 4 ly 3 df) m3 := ⟨_, rfl⟩
  refine ⟨c4, m4, ?_⟩
  refine PX1_solve (Nat.le_of_ble_eq_true rfl) (Or.inr rfl) ?_
  intro G hT hC hR
  refine mB hT 3 rfl ?_
  refine hC.1 _ 1 [_, _] _ _ _ _ _ (show KX1_layTable l D ca ad _ _ none (XW n vs be dt 4 ro co m0 ly B hd df) from (by rw [em0, edt, ely]; exact c_lay_7_4)) rfl rfl (Nat.le_of_ble_eq_true rfl) rfl ?_
  refine mB hT 5 rfl ?_
  refine mIf (fun hp => absurd hp (fun q => h0 (lc_eq.mp q))) (fun _ => ?_)
  refine mB hT 3 rfl ?_
  refine hC.2.1 _ [_] _ _ _ _ (c_abs _) rfl (Nat.le_of_ble_eq_true rfl) rfl ?_
  refine mB hT 10 rfl ?_
  refine mWd (w2 := (XW n vs (absX dt) dt 4 ro co m0 ly B hd df)) rfl ?_
  refine hC.2.2 _ 1 [_, _] _ _ _ _ _ (show KX1_determinantWithColumn l D ca ad _ _ (some (.long (detX 4 (clT 4 ly 0 df)))) (XW n vs (absX dt) dt 4 ro c1 m1 ly B hd df) from (by rw [em1, ec1]; exact c_dwc_4_4_0)) rfl rfl (Nat.le_of_ble_eq_true rfl) rfl ?_
  refine mB hT 9 rfl ?_
  refine mIf (fun hp => absurd hp (fun q => Int64.not_lt.mpr (lc_ge.mp q) hs)) (fun _ => ?_)
  refine mNf (lv2 := [(5, .long (detX 4 (clT 4 ly 0 df))), (4, .int 0), (0, .ref 1), (1, .ref 16), (2, .int 4), (3, .ref 27)]) (st2 := [.int 0, .ref 2]) rfl rfl ?_
  refine mB hT 3 rfl ?_
  refine mNf (lv2 := [(5, .long (detX 4 (clT 4 ly 0 df))), (4, .int 0), (0, .ref 1), (1, .ref 16), (2, .int 4), (3, .ref 27)]) (st2 := [.long (rr 0), .int 0, .ref 2]) rfl (by rw [hrr 0] <;> rfl) ?_
  refine mB hT 10 rfl ?_
  refine mWd (w2 := (XW n vs (absX dt) dt 4 (up ro 0 (rr 0)) c1 m1 ly B hd df)) rfl ?_
  refine hC.2.2 _ 1 [_, _] _ _ _ _ _ (show KX1_determinantWithColumn l D ca ad _ _ (some (.long (detX 4 (clT 4 ly 1 df)))) (XW n vs (absX dt) dt 4 (up ro 0 (rr 0)) c2 m2 ly B hd df) from (by rw [em2, ec2]; exact c_dwc_4_4_1)) rfl rfl (Nat.le_of_ble_eq_true rfl) rfl ?_
  refine mB hT 9 rfl ?_
  refine mIf (fun hp => absurd hp (fun q => Int64.not_lt.mpr (lc_ge.mp q) hs)) (fun _ => ?_)
  refine mNf (lv2 := [(5, .long (detX 4 (clT 4 ly 1 df))), (4, .int 1), (0, .ref 1), (1, .ref 16), (2, .int 4), (3, .ref 27)]) (st2 := [.int 1, .ref 2]) rfl rfl ?_
  refine mB hT 3 rfl ?_
  refine mNf (lv2 := [(5, .long (detX 4 (clT 4 ly 1 df))), (4, .int 1), (0, .ref 1), (1, .ref 16), (2, .int 4), (3, .ref 27)]) (st2 := [.long (rr 1), .int 1, .ref 2]) rfl (by rw [hrr 1] <;> rfl) ?_
  refine mB hT 10 rfl ?_
  refine mWd (w2 := (XW n vs (absX dt) dt 4 (up (up ro 0 (rr 0)) 1 (rr 1)) c2 m2 ly B hd df)) rfl ?_
  refine hC.2.2 _ 1 [_, _] _ _ _ _ _ (show KX1_determinantWithColumn l D ca ad _ _ (some (.long (detX 4 (clT 4 ly 2 df)))) (XW n vs (absX dt) dt 4 (up (up ro 0 (rr 0)) 1 (rr 1)) c3 m3 ly B hd df) from (by rw [em3, ec3]; exact c_dwc_4_4_2)) rfl rfl (Nat.le_of_ble_eq_true rfl) rfl ?_
  refine mB hT 9 rfl ?_
  refine mIf (fun hp => absurd hp (fun q => Int64.not_lt.mpr (lc_ge.mp q) hs)) (fun _ => ?_)
  refine mNf (lv2 := [(5, .long (detX 4 (clT 4 ly 2 df))), (4, .int 2), (0, .ref 1), (1, .ref 16), (2, .int 4), (3, .ref 27)]) (st2 := [.int 2, .ref 2]) rfl rfl ?_
  refine mB hT 3 rfl ?_
  refine mNf (lv2 := [(5, .long (detX 4 (clT 4 ly 2 df))), (4, .int 2), (0, .ref 1), (1, .ref 16), (2, .int 4), (3, .ref 27)]) (st2 := [.long (rr 2), .int 2, .ref 2]) rfl (by rw [hrr 2] <;> rfl) ?_
  refine mB hT 10 rfl ?_
  refine mWd (w2 := (XW n vs (absX dt) dt 4 (up (up (up ro 0 (rr 0)) 1 (rr 1)) 2 (rr 2)) c3 m3 ly B hd df)) rfl ?_
  refine hC.2.2 _ 1 [_, _] _ _ _ _ _ (show KX1_determinantWithColumn l D ca ad _ _ (some (.long (detX 4 (clT 4 ly 3 df)))) (XW n vs (absX dt) dt 4 (up (up (up ro 0 (rr 0)) 1 (rr 1)) 2 (rr 2)) c4 m4 ly B hd df) from (by rw [em4, ec4]; exact c_dwc_4_4_3)) rfl rfl (Nat.le_of_ble_eq_true rfl) rfl ?_
  refine mB hT 9 rfl ?_
  refine mIf (fun hp => absurd hp (fun q => Int64.not_lt.mpr (lc_ge.mp q) hs)) (fun _ => ?_)
  refine mNf (lv2 := [(5, .long (detX 4 (clT 4 ly 3 df))), (4, .int 3), (0, .ref 1), (1, .ref 16), (2, .int 4), (3, .ref 27)]) (st2 := [.int 3, .ref 2]) rfl rfl ?_
  refine mB hT 3 rfl ?_
  refine mNf (lv2 := [(5, .long (detX 4 (clT 4 ly 3 df))), (4, .int 3), (0, .ref 1), (1, .ref 16), (2, .int 4), (3, .ref 27)]) (st2 := [.long (rr 3), .int 3, .ref 2]) rfl (by rw [hrr 3] <;> rfl) ?_
  refine mB hT 8 rfl ?_
  exact hR _ (by decide) _ _ _ rfl rfl
theorem c_solve1_7_4_4 {n vs : Int32} {be de : Int64} {sz : Int32} {ro co mi : Nat → Int64} {T : Nat → Nat → Int64} {B : Nat → Nat → Nat → Int32} {hd : Nat → Nat → Int32} {df : Nat → Int32} (h0 : ¬ detX 4 (lyT 4 (B 7) T) = 0) : ∃ (de2 : Int64) (co2 mi2 : Nat → Int64) (T2 : Nat → Nat → Int64), KX1_solve l D ca ad [.ref 1, .ref 16, .int 4, .ref 27] (XW n vs be de sz ro co mi T B hd df) (some (.int 1)) (XW n vs (absX (detX 4 (lyT 4 (B 7) T))) de2 4 (roX 4 (lyT 4 (B 7) T) df ro) co2 mi2 T2 B hd df) := by
  by_cases hs : detX 4 (lyT 4 (B 7) T) < 0
  · obtain ⟨c2, m2, k⟩ := c_solve1_7_4_4n (rr := rdX 4 (lyT 4 (B 7) T) df) rfl rfl h0 hs (fun i => if_pos hs)
    exact ⟨_, c2, m2, _, k⟩
  · obtain ⟨c2, m2, k⟩ := c_solve1_7_4_4p (rr := rdX 4 (lyT 4 (B 7) T) df) rfl rfl h0 hs (fun i => if_neg hs)
    exact ⟨_, c2, m2, _, k⟩
end
