section
variable {l : Launch} {D : va_G} {ca : Nat → ClassId} {ad : Nat → Nat}

set_option maxRecDepth 20000 in
theorem m_sumG_0_0 {vs : Nat} {wo un h : Int64} {bo : Nat → Int32} {ta tr ro ot : Nat → Int64} {Bm : Nat → Nat → Nat → Int32} {bk : Nat → Nat → Int32} {f : Nat → Nat → Int64} (k : Nat) (hem : ∀ i s : Nat, i < 4 → s < 3 → KX3_emission l D ca ad [.ref 0, .int (Int32.ofNat i), .int (Int32.ofNat k), .int (Int32.ofNat s)] (MW 0 (Int32.ofNat vs) wo un h bo ta tr ro ot Bm bk) (some (.long (f i s))) (MW 0 (Int32.ofNat vs) wo un h bo ta tr ro ot Bm bk)) : KX3_sum l D ca ad [.ref 0, .int (Int32.ofNat k), .int 0] (MW 0 (Int32.ofNat vs) wo un h bo ta tr ro ot Bm bk) (some (.long (smG 0 f ro 0))) (MW 0 (Int32.ofNat vs) wo un h bo ta tr ro ot Bm bk) := by
  refine PX3_sum (Nat.le_of_ble_eq_true rfl) ?_
  intro G hT hC hR
  refine mB hT 9 rfl ?_
  exact hR _ (by decide) _ _ _ (by rfl) rfl
set_option maxRecDepth 20000 in
theorem m_sumG_0_1 {vs : Nat} {wo un h : Int64} {bo : Nat → Int32} {ta tr ro ot : Nat → Int64} {Bm : Nat → Nat → Nat → Int32} {bk : Nat → Nat → Int32} {f : Nat → Nat → Int64} (k : Nat) (hem : ∀ i s : Nat, i < 4 → s < 3 → KX3_emission l D ca ad [.ref 0, .int (Int32.ofNat i), .int (Int32.ofNat k), .int (Int32.ofNat s)] (MW 0 (Int32.ofNat vs) wo un h bo ta tr ro ot Bm bk) (some (.long (f i s))) (MW 0 (Int32.ofNat vs) wo un h bo ta tr ro ot Bm bk)) : KX3_sum l D ca ad [.ref 0, .int (Int32.ofNat k), .int 1] (MW 0 (Int32.ofNat vs) wo un h bo ta tr ro ot Bm bk) (some (.long (smG 0 f ro 1))) (MW 0 (Int32.ofNat vs) wo un h bo ta tr ro ot Bm bk) := by
  refine PX3_sum (Nat.le_of_ble_eq_true rfl) ?_
  intro G hT hC hR
  refine mB hT 9 rfl ?_
  exact hR _ (by decide) _ _ _ (by rfl) rfl
set_option maxRecDepth 20000 in
theorem m_sumG_0_2 {vs : Nat} {wo un h : Int64} {bo : Nat → Int32} {ta tr ro ot : Nat → Int64} {Bm : Nat → Nat → Nat → Int32} {bk : Nat → Nat → Int32} {f : Nat → Nat → Int64} (k : Nat) (hem : ∀ i s : Nat, i < 4 → s < 3 → KX3_emission l D ca ad [.ref 0, .int (Int32.ofNat i), .int (Int32.ofNat k), .int (Int32.ofNat s)] (MW 0 (Int32.ofNat vs) wo un h bo ta tr ro ot Bm bk) (some (.long (f i s))) (MW 0 (Int32.ofNat vs) wo un h bo ta tr ro ot Bm bk)) : KX3_sum l D ca ad [.ref 0, .int (Int32.ofNat k), .int 2] (MW 0 (Int32.ofNat vs) wo un h bo ta tr ro ot Bm bk) (some (.long (smG 0 f ro 2))) (MW 0 (Int32.ofNat vs) wo un h bo ta tr ro ot Bm bk) := by
  refine PX3_sum (Nat.le_of_ble_eq_true rfl) ?_
  intro G hT hC hR
  refine mB hT 9 rfl ?_
  exact hR _ (by decide) _ _ _ (by rfl) rfl
set_option maxRecDepth 20000 in
theorem m_sumG_1_0 {vs : Nat} {wo un h : Int64} {bo : Nat → Int32} {ta tr ro ot : Nat → Int64} {Bm : Nat → Nat → Nat → Int32} {bk : Nat → Nat → Int32} {f : Nat → Nat → Int64} (k : Nat) (hem : ∀ i s : Nat, i < 4 → s < 3 → KX3_emission l D ca ad [.ref 0, .int (Int32.ofNat i), .int (Int32.ofNat k), .int (Int32.ofNat s)] (MW 1 (Int32.ofNat vs) wo un h bo ta tr ro ot Bm bk) (some (.long (f i s))) (MW 1 (Int32.ofNat vs) wo un h bo ta tr ro ot Bm bk)) : KX3_sum l D ca ad [.ref 0, .int (Int32.ofNat k), .int 0] (MW 1 (Int32.ofNat vs) wo un h bo ta tr ro ot Bm bk) (some (.long (smG 1 f ro 0))) (MW 1 (Int32.ofNat vs) wo un h bo ta tr ro ot Bm bk) := by
  refine PX3_sum (Nat.le_of_ble_eq_true rfl) ?_
  intro G hT hC hR
  refine mB hT 18 rfl ?_
  have J0 : ∀ t0 : Nat, t0 < 3 → t0 = sdX (ro 0) 0 → G (42, [(5, .int 0), (3, .long 0), (0, .ref 0), (1, .int (Int32.ofNat k)), (2, .int 0)], [.int (Int32.ofNat t0)], (MW 1 (Int32.ofNat vs) wo un h bo ta tr ro ot Bm bk)) := by
    intro t0 ht0 et0
    refine mB hT 6 rfl ?_
    refine hC _ 0 [_, _, _] _ _ _ _ _ (hem 0 t0 (by decide) ht0) rfl rfl (Nat.le_of_ble_eq_true rfl) rfl ?_
    refine mB hT 14 rfl ?_
    exact hR _ (by decide) _ _ _ (by subst et0; rfl) rfl
  refine mIf (fun h => ?_) (fun h => ?_)
  · refine mB hT 1 rfl ?_
    exact J0 0 (by decide) (if_neg (Int64.not_lt.mpr (lc_ge.mp h))).symm
  · refine mB hT 4 rfl ?_
    exact J0 (2 - 0) (by decide) (if_pos (Int64.not_le.mp (fun q => h (lc_ge.mpr q)))).symm
set_option maxRecDepth 20000 in
theorem m_sumG_1_1 {vs : Nat} {wo un h : Int64} {bo : Nat → Int32} {ta tr ro ot : Nat → Int64} {Bm : Nat → Nat → Nat → Int32} {bk : Nat → Nat → Int32} {f : Nat → Nat → Int64} (k : Nat) (hem : ∀ i s : Nat, i < 4 → s < 3 → KX3_emission l D ca ad [.ref 0, .int (Int32.ofNat i), .int (Int32.ofNat k), .int (Int32.ofNat s)] (MW 1 (Int32.ofNat vs) wo un h bo ta tr ro ot Bm bk) (some (.long (f i s))) (MW 1 (Int32.ofNat vs) wo un h bo ta tr ro ot Bm bk)) : KX3_sum l D ca ad [.ref 0, .int (Int32.ofNat k), .int 1] (MW 1 (Int32.ofNat vs) wo un h bo ta tr ro ot Bm bk) (some (.long (smG 1 f ro 1))) (MW 1 (Int32.ofNat vs) wo un h bo ta tr ro ot Bm bk) := by
  refine PX3_sum (Nat.le_of_ble_eq_true rfl) ?_
  intro G hT hC hR
  refine mB hT 19 rfl ?_
  refine mNf (lv2 := [(6, .int 1), (5, .int 0), (3, .long 0), (0, .ref 0), (1, .int (Int32.ofNat k)), (2, .int 1)]) (st2 := [.int 1, .int (Int32.ofNat k), .int 0, .ref 0, .long 0]) rfl rfl ?_
  refine hC _ 0 [_, _, _] _ _ _ _ _ (hem 0 1 (by decide) (by decide)) rfl rfl (Nat.le_of_ble_eq_true rfl) rfl ?_
  refine mB hT 14 rfl ?_
  exact hR _ (by decide) _ _ _ (by rfl) rfl
set_option maxRecDepth 20000 in
theorem m_sumG_1_2 {vs : Nat} {wo un h : Int64} {bo : Nat → Int32} {ta tr ro ot : Nat → Int64} {Bm : Nat → Nat → Nat → Int32} {bk : Nat → Nat → Int32} {f : Nat → Nat → Int64} (k : Nat) (hem : ∀ i s : Nat, i < 4 → s < 3 → KX3_emission l D ca ad [.ref 0, .int (Int32.ofNat i), .int (Int32.ofNat k), .int (Int32.ofNat s)] (MW 1 (Int32.ofNat vs) wo un h bo ta tr ro ot Bm bk) (some (.long (f i s))) (MW 1 (Int32.ofNat vs) wo un h bo ta tr ro ot Bm bk)) : KX3_sum l D ca ad [.ref 0, .int (Int32.ofNat k), .int 2] (MW 1 (Int32.ofNat vs) wo un h bo ta tr ro ot Bm bk) (some (.long (smG 1 f ro 2))) (MW 1 (Int32.ofNat vs) wo un h bo ta tr ro ot Bm bk) := by
  refine PX3_sum (Nat.le_of_ble_eq_true rfl) ?_
  intro G hT hC hR
  refine mB hT 18 rfl ?_
  have J0 : ∀ t0 : Nat, t0 < 3 → t0 = sdX (ro 0) 2 → G (42, [(5, .int 0), (3, .long 0), (0, .ref 0), (1, .int (Int32.ofNat k)), (2, .int 2)], [.int (Int32.ofNat t0)], (MW 1 (Int32.ofNat vs) wo un h bo ta tr ro ot Bm bk)) := by
    intro t0 ht0 et0
    refine mB hT 6 rfl ?_
    refine hC _ 0 [_, _, _] _ _ _ _ _ (hem 0 t0 (by decide) ht0) rfl rfl (Nat.le_of_ble_eq_true rfl) rfl ?_
    refine mB hT 14 rfl ?_
    exact hR _ (by decide) _ _ _ (by subst et0; rfl) rfl
  refine mIf (fun h => ?_) (fun h => ?_)
  · refine mB hT 1 rfl ?_
    exact J0 2 (by decide) (if_neg (Int64.not_lt.mpr (lc_ge.mp h))).symm
  · refine mB hT 4 rfl ?_
    exact J0 (2 - 2) (by decide) (if_pos (Int64.not_le.mp (fun q => h (lc_ge.mpr q)))).symm
set_option maxRecDepth 20000 in
theorem m_sumG_2_0 {vs : Nat} {wo un h : Int64} {bo : Nat → Int32} {ta tr ro ot : Nat → Int64} {Bm : Nat → Nat → Nat → Int32} {bk : Nat → Nat → Int32} {f : Nat → Nat → Int64} (k : Nat) (hem : ∀ i s : Nat, i < 4 → s < 3 → KX3_emission l D ca ad [.ref 0, .int (Int32.ofNat i), .int (Int32.ofNat k), .int (Int32.ofNat s)] (MW 2 (Int32.ofNat vs) wo un h bo ta tr ro ot Bm bk) (some (.long (f i s))) (MW 2 (Int32.ofNat vs) wo un h bo ta tr ro ot Bm bk)) : KX3_sum l D ca ad [.ref 0, .int (Int32.ofNat k), .int 0] (MW 2 (Int32.ofNat vs) wo un h bo ta tr ro ot Bm bk) (some (.long (smG 2 f ro 0))) (MW 2 (Int32.ofNat vs) wo un h bo ta tr ro ot Bm bk) := by
  refine PX3_sum (Nat.le_of_ble_eq_true rfl) ?_
  intro G hT hC hR
  refine mB hT 18 rfl ?_
  have J0 : ∀ t0 : Nat, t0 < 3 → t0 = sdX (ro 0) 0 → G (42, [(5, .int 0), (3, .long 0), (0, .ref 0), (1, .int (Int32.ofNat k)), (2, .int 0)], [.int (Int32.ofNat t0)], (MW 2 (Int32.ofNat vs) wo un h bo ta tr ro ot Bm bk)) := by
    intro t0 ht0 et0
    refine mB hT 6 rfl ?_
    refine hC _ 0 [_, _, _] _ _ _ _ _ (hem 0 t0 (by decide) ht0) rfl rfl (Nat.le_of_ble_eq_true rfl) rfl ?_
    refine mB hT 23 rfl ?_
    have J1 : ∀ t1 : Nat, t1 < 3 → t1 = sdX (ro 1) 0 → G (42, [(5, .int 1), (3, .long (0 + ((f 0 t0) * (ro 0)))), (6, .int (Int32.ofNat t0)), (0, .ref 0), (1, .int (Int32.ofNat k)), (2, .int 0)], [.int (Int32.ofNat t1)], (MW 2 (Int32.ofNat vs) wo un h bo ta tr ro ot Bm bk)) := by
      intro t1 ht1 et1
      refine mB hT 6 rfl ?_
      refine hC _ 0 [_, _, _] _ _ _ _ _ (hem 1 t1 (by decide) ht1) rfl rfl (Nat.le_of_ble_eq_true rfl) rfl ?_
      refine mB hT 14 rfl ?_
      exact hR _ (by decide) _ _ _ (by subst et0 et1; rfl) rfl
    refine mIf (fun h => ?_) (fun h => ?_)
    · refine mB hT 1 rfl ?_
      exact J1 0 (by decide) (if_neg (Int64.not_lt.mpr (lc_ge.mp h))).symm
    · refine mB hT 4 rfl ?_
      exact J1 (2 - 0) (by decide) (if_pos (Int64.not_le.mp (fun q => h (lc_ge.mpr q)))).symm
  refine mIf (fun h => ?_) (fun h => ?_)
  · refine mB hT 1 rfl ?_
    exact J0 0 (by decide) (if_neg (Int64.not_lt.mpr (lc_ge.mp h))).symm
  · refine mB hT 4 rfl ?_
    exact J0 (2 - 0) (by decide) (if_pos (Int64.not_le.mp (fun q => h (lc_ge.mpr q)))).symm
set_option maxRecDepth 20000 in
theorem m_sumG_2_1 {vs : Nat} {wo un h : Int64} {bo : Nat → Int32} {ta tr ro ot : Nat → Int64} {Bm : Nat → Nat → Nat → Int32} {bk : Nat → Nat → Int32} {f : Nat → Nat → Int64} (k : Nat) (hem : ∀ i s : Nat, i < 4 → s < 3 → KX3_emission l D ca ad [.ref 0, .int (Int32.ofNat i), .int (Int32.ofNat k), .int (Int32.ofNat s)] (MW 2 (Int32.ofNat vs) wo un h bo ta tr ro ot Bm bk) (some (.long (f i s))) (MW 2 (Int32.ofNat vs) wo un h bo ta tr ro ot Bm bk)) : KX3_sum l D ca ad [.ref 0, .int (Int32.ofNat k), .int 1] (MW 2 (Int32.ofNat vs) wo un h bo ta tr ro ot Bm bk) (some (.long (smG 2 f ro 1))) (MW 2 (Int32.ofNat vs) wo un h bo ta tr ro ot Bm bk) := by
  refine PX3_sum (Nat.le_of_ble_eq_true rfl) ?_
  intro G hT hC hR
  refine mB hT 19 rfl ?_
  refine mNf (lv2 := [(6, .int 1), (5, .int 0), (3, .long 0), (0, .ref 0), (1, .int (Int32.ofNat k)), (2, .int 1)]) (st2 := [.int 1, .int (Int32.ofNat k), .int 0, .ref 0, .long 0]) rfl rfl ?_
  refine hC _ 0 [_, _, _] _ _ _ _ _ (hem 0 1 (by decide) (by decide)) rfl rfl (Nat.le_of_ble_eq_true rfl) rfl ?_
  refine mB hT 24 rfl ?_
  refine mNf (lv2 := [(6, .int 1), (5, .int 1), (3, .long (0 + ((f 0 1) * (ro 0)))), (0, .ref 0), (1, .int (Int32.ofNat k)), (2, .int 1)]) (st2 := [.int 1, .int (Int32.ofNat k), .int 1, .ref 0, .long (0 + ((f 0 1) * (ro 0)))]) rfl rfl ?_
  refine hC _ 0 [_, _, _] _ _ _ _ _ (hem 1 1 (by decide) (by decide)) rfl rfl (Nat.le_of_ble_eq_true rfl) rfl ?_
  refine mB hT 14 rfl ?_
  exact hR _ (by decide) _ _ _ (by rfl) rfl
set_option maxRecDepth 20000 in
theorem m_sumG_2_2 {vs : Nat} {wo un h : Int64} {bo : Nat → Int32} {ta tr ro ot : Nat → Int64} {Bm : Nat → Nat → Nat → Int32} {bk : Nat → Nat → Int32} {f : Nat → Nat → Int64} (k : Nat) (hem : ∀ i s : Nat, i < 4 → s < 3 → KX3_emission l D ca ad [.ref 0, .int (Int32.ofNat i), .int (Int32.ofNat k), .int (Int32.ofNat s)] (MW 2 (Int32.ofNat vs) wo un h bo ta tr ro ot Bm bk) (some (.long (f i s))) (MW 2 (Int32.ofNat vs) wo un h bo ta tr ro ot Bm bk)) : KX3_sum l D ca ad [.ref 0, .int (Int32.ofNat k), .int 2] (MW 2 (Int32.ofNat vs) wo un h bo ta tr ro ot Bm bk) (some (.long (smG 2 f ro 2))) (MW 2 (Int32.ofNat vs) wo un h bo ta tr ro ot Bm bk) := by
  refine PX3_sum (Nat.le_of_ble_eq_true rfl) ?_
  intro G hT hC hR
  refine mB hT 18 rfl ?_
  have J0 : ∀ t0 : Nat, t0 < 3 → t0 = sdX (ro 0) 2 → G (42, [(5, .int 0), (3, .long 0), (0, .ref 0), (1, .int (Int32.ofNat k)), (2, .int 2)], [.int (Int32.ofNat t0)], (MW 2 (Int32.ofNat vs) wo un h bo ta tr ro ot Bm bk)) := by
    intro t0 ht0 et0
    refine mB hT 6 rfl ?_
    refine hC _ 0 [_, _, _] _ _ _ _ _ (hem 0 t0 (by decide) ht0) rfl rfl (Nat.le_of_ble_eq_true rfl) rfl ?_
    refine mB hT 23 rfl ?_
    have J1 : ∀ t1 : Nat, t1 < 3 → t1 = sdX (ro 1) 2 → G (42, [(5, .int 1), (3, .long (0 + ((f 0 t0) * (ro 0)))), (6, .int (Int32.ofNat t0)), (0, .ref 0), (1, .int (Int32.ofNat k)), (2, .int 2)], [.int (Int32.ofNat t1)], (MW 2 (Int32.ofNat vs) wo un h bo ta tr ro ot Bm bk)) := by
      intro t1 ht1 et1
      refine mB hT 6 rfl ?_
      refine hC _ 0 [_, _, _] _ _ _ _ _ (hem 1 t1 (by decide) ht1) rfl rfl (Nat.le_of_ble_eq_true rfl) rfl ?_
      refine mB hT 14 rfl ?_
      exact hR _ (by decide) _ _ _ (by subst et0 et1; rfl) rfl
    refine mIf (fun h => ?_) (fun h => ?_)
    · refine mB hT 1 rfl ?_
      exact J1 2 (by decide) (if_neg (Int64.not_lt.mpr (lc_ge.mp h))).symm
    · refine mB hT 4 rfl ?_
      exact J1 (2 - 2) (by decide) (if_pos (Int64.not_le.mp (fun q => h (lc_ge.mpr q)))).symm
  refine mIf (fun h => ?_) (fun h => ?_)
  · refine mB hT 1 rfl ?_
    exact J0 2 (by decide) (if_neg (Int64.not_lt.mpr (lc_ge.mp h))).symm
  · refine mB hT 4 rfl ?_
    exact J0 (2 - 2) (by decide) (if_pos (Int64.not_le.mp (fun q => h (lc_ge.mpr q)))).symm
set_option maxRecDepth 20000 in
theorem m_sumG_3_0 {vs : Nat} {wo un h : Int64} {bo : Nat → Int32} {ta tr ro ot : Nat → Int64} {Bm : Nat → Nat → Nat → Int32} {bk : Nat → Nat → Int32} {f : Nat → Nat → Int64} (k : Nat) (hem : ∀ i s : Nat, i < 4 → s < 3 → KX3_emission l D ca ad [.ref 0, .int (Int32.ofNat i), .int (Int32.ofNat k), .int (Int32.ofNat s)] (MW 3 (Int32.ofNat vs) wo un h bo ta tr ro ot Bm bk) (some (.long (f i s))) (MW 3 (Int32.ofNat vs) wo un h bo ta tr ro ot Bm bk)) : KX3_sum l D ca ad [.ref 0, .int (Int32.ofNat k), .int 0] (MW 3 (Int32.ofNat vs) wo un h bo ta tr ro ot Bm bk) (some (.long (smG 3 f ro 0))) (MW 3 (Int32.ofNat vs) wo un h bo ta tr ro ot Bm bk) := by
  refine PX3_sum (Nat.le_of_ble_eq_true rfl) ?_
  intro G hT hC hR
  refine mB hT 18 rfl ?_
  have J0 : ∀ t0 : Nat, t0 < 3 → t0 = sdX (ro 0) 0 → G (42, [(5, .int 0), (3, .long 0), (0, .ref 0), (1, .int (Int32.ofNat k)), (2, .int 0)], [.int (Int32.ofNat t0)], (MW 3 (Int32.ofNat vs) wo un h bo ta tr ro ot Bm bk)) := by
    intro t0 ht0 et0
    refine mB hT 6 rfl ?_
    refine hC _ 0 [_, _, _] _ _ _ _ _ (hem 0 t0 (by decide) ht0) rfl rfl (Nat.le_of_ble_eq_true rfl) rfl ?_
    refine mB hT 23 rfl ?_
    have J1 : ∀ t1 : Nat, t1 < 3 → t1 = sdX (ro 1) 0 → G (42, [(5, .int 1), (3, .long (0 + ((f 0 t0) * (ro 0)))), (6, .int (Int32.ofNat t0)), (0, .ref 0), (1, .int (Int32.ofNat k)), (2, .int 0)], [.int (Int32.ofNat t1)], (MW 3 (Int32.ofNat vs) wo un h bo ta tr ro ot Bm bk)) := by
      intro t1 ht1 et1
      refine mB hT 6 rfl ?_
      refine hC _ 0 [_, _, _] _ _ _ _ _ (hem 1 t1 (by decide) ht1) rfl rfl (Nat.le_of_ble_eq_true rfl) rfl ?_
      refine mB hT 23 rfl ?_
      have J2 : ∀ t2 : Nat, t2 < 3 → t2 = sdX (ro 2) 0 → G (42, [(5, .int 2), (3, .long ((0 + ((f 0 t0) * (ro 0))) + ((f 1 t1) * (ro 1)))), (6, .int (Int32.ofNat t1)), (0, .ref 0), (1, .int (Int32.ofNat k)), (2, .int 0)], [.int (Int32.ofNat t2)], (MW 3 (Int32.ofNat vs) wo un h bo ta tr ro ot Bm bk)) := by
        intro t2 ht2 et2
        refine mB hT 6 rfl ?_
        refine hC _ 0 [_, _, _] _ _ _ _ _ (hem 2 t2 (by decide) ht2) rfl rfl (Nat.le_of_ble_eq_true rfl) rfl ?_
        refine mB hT 14 rfl ?_
        exact hR _ (by decide) _ _ _ (by subst et0 et1 et2; rfl) rfl
      refine mIf (fun h => ?_) (fun h => ?_)
      · refine mB hT 1 rfl ?_
        exact J2 0 (by decide) (if_neg (Int64.not_lt.mpr (lc_ge.mp h))).symm
      · refine mB hT 4 rfl ?_
        exact J2 (2 - 0) (by decide) (if_pos (Int64.not_le.mp (fun q => h (lc_ge.mpr q)))).symm
    refine mIf (fun h => ?_) (fun h => ?_)
    · refine mB hT 1 rfl ?_
      exact J1 0 (by decide) (if_neg (Int64.not_lt.mpr (lc_ge.mp h))).symm
    · refine mB hT 4 rfl ?_
      exact J1 (2 - 0) (by decide) (if_pos (Int64.not_le.mp (fun q => h (lc_ge.mpr q)))).symm
  refine mIf (fun h => ?_) (fun h => ?_)
  · refine mB hT 1 rfl ?_
    exact J0 0 (by decide) (if_neg (Int64.not_lt.mpr (lc_ge.mp h))).symm
  · refine mB hT 4 rfl ?_
    exact J0 (2 - 0) (by decide) (if_pos (Int64.not_le.mp (fun q => h (lc_ge.mpr q)))).symm
set_option maxRecDepth 20000 in
theorem m_sumG_3_1 {vs : Nat} {wo un h : Int64} {bo : Nat → Int32} {ta tr ro ot : Nat → Int64} {Bm : Nat → Nat → Nat → Int32} {bk : Nat → Nat → Int32} {f : Nat → Nat → Int64} (k : Nat) (hem : ∀ i s : Nat, i < 4 → s < 3 → KX3_emission l D ca ad [.ref 0, .int (Int32.ofNat i), .int (Int32.ofNat k), .int (Int32.ofNat s)] (MW 3 (Int32.ofNat vs) wo un h bo ta tr ro ot Bm bk) (some (.long (f i s))) (MW 3 (Int32.ofNat vs) wo un h bo ta tr ro ot Bm bk)) : KX3_sum l D ca ad [.ref 0, .int (Int32.ofNat k), .int 1] (MW 3 (Int32.ofNat vs) wo un h bo ta tr ro ot Bm bk) (some (.long (smG 3 f ro 1))) (MW 3 (Int32.ofNat vs) wo un h bo ta tr ro ot Bm bk) := by
  refine PX3_sum (Nat.le_of_ble_eq_true rfl) ?_
  intro G hT hC hR
  refine mB hT 19 rfl ?_
  refine mNf (lv2 := [(6, .int 1), (5, .int 0), (3, .long 0), (0, .ref 0), (1, .int (Int32.ofNat k)), (2, .int 1)]) (st2 := [.int 1, .int (Int32.ofNat k), .int 0, .ref 0, .long 0]) rfl rfl ?_
  refine hC _ 0 [_, _, _] _ _ _ _ _ (hem 0 1 (by decide) (by decide)) rfl rfl (Nat.le_of_ble_eq_true rfl) rfl ?_
  refine mB hT 24 rfl ?_
  refine mNf (lv2 := [(6, .int 1), (5, .int 1), (3, .long (0 + ((f 0 1) * (ro 0)))), (0, .ref 0), (1, .int (Int32.ofNat k)), (2, .int 1)]) (st2 := [.int 1, .int (Int32.ofNat k), .int 1, .ref 0, .long (0 + ((f 0 1) * (ro 0)))]) rfl rfl ?_
  refine hC _ 0 [_, _, _] _ _ _ _ _ (hem 1 1 (by decide) (by decide)) rfl rfl (Nat.le_of_ble_eq_true rfl) rfl ?_
  refine mB hT 24 rfl ?_
  refine mNf (lv2 := [(6, .int 1), (5, .int 2), (3, .long ((0 + ((f 0 1) * (ro 0))) + ((f 1 1) * (ro 1)))), (0, .ref 0), (1, .int (Int32.ofNat k)), (2, .int 1)]) (st2 := [.int 1, .int (Int32.ofNat k), .int 2, .ref 0, .long ((0 + ((f 0 1) * (ro 0))) + ((f 1 1) * (ro 1)))]) rfl rfl ?_
  refine hC _ 0 [_, _, _] _ _ _ _ _ (hem 2 1 (by decide) (by decide)) rfl rfl (Nat.le_of_ble_eq_true rfl) rfl ?_
  refine mB hT 14 rfl ?_
  exact hR _ (by decide) _ _ _ (by rfl) rfl
set_option maxRecDepth 20000 in
theorem m_sumG_3_2 {vs : Nat} {wo un h : Int64} {bo : Nat → Int32} {ta tr ro ot : Nat → Int64} {Bm : Nat → Nat → Nat → Int32} {bk : Nat → Nat → Int32} {f : Nat → Nat → Int64} (k : Nat) (hem : ∀ i s : Nat, i < 4 → s < 3 → KX3_emission l D ca ad [.ref 0, .int (Int32.ofNat i), .int (Int32.ofNat k), .int (Int32.ofNat s)] (MW 3 (Int32.ofNat vs) wo un h bo ta tr ro ot Bm bk) (some (.long (f i s))) (MW 3 (Int32.ofNat vs) wo un h bo ta tr ro ot Bm bk)) : KX3_sum l D ca ad [.ref 0, .int (Int32.ofNat k), .int 2] (MW 3 (Int32.ofNat vs) wo un h bo ta tr ro ot Bm bk) (some (.long (smG 3 f ro 2))) (MW 3 (Int32.ofNat vs) wo un h bo ta tr ro ot Bm bk) := by
  refine PX3_sum (Nat.le_of_ble_eq_true rfl) ?_
  intro G hT hC hR
  refine mB hT 18 rfl ?_
  have J0 : ∀ t0 : Nat, t0 < 3 → t0 = sdX (ro 0) 2 → G (42, [(5, .int 0), (3, .long 0), (0, .ref 0), (1, .int (Int32.ofNat k)), (2, .int 2)], [.int (Int32.ofNat t0)], (MW 3 (Int32.ofNat vs) wo un h bo ta tr ro ot Bm bk)) := by
    intro t0 ht0 et0
    refine mB hT 6 rfl ?_
    refine hC _ 0 [_, _, _] _ _ _ _ _ (hem 0 t0 (by decide) ht0) rfl rfl (Nat.le_of_ble_eq_true rfl) rfl ?_
    refine mB hT 23 rfl ?_
    have J1 : ∀ t1 : Nat, t1 < 3 → t1 = sdX (ro 1) 2 → G (42, [(5, .int 1), (3, .long (0 + ((f 0 t0) * (ro 0)))), (6, .int (Int32.ofNat t0)), (0, .ref 0), (1, .int (Int32.ofNat k)), (2, .int 2)], [.int (Int32.ofNat t1)], (MW 3 (Int32.ofNat vs) wo un h bo ta tr ro ot Bm bk)) := by
      intro t1 ht1 et1
      refine mB hT 6 rfl ?_
      refine hC _ 0 [_, _, _] _ _ _ _ _ (hem 1 t1 (by decide) ht1) rfl rfl (Nat.le_of_ble_eq_true rfl) rfl ?_
      refine mB hT 23 rfl ?_
      have J2 : ∀ t2 : Nat, t2 < 3 → t2 = sdX (ro 2) 2 → G (42, [(5, .int 2), (3, .long ((0 + ((f 0 t0) * (ro 0))) + ((f 1 t1) * (ro 1)))), (6, .int (Int32.ofNat t1)), (0, .ref 0), (1, .int (Int32.ofNat k)), (2, .int 2)], [.int (Int32.ofNat t2)], (MW 3 (Int32.ofNat vs) wo un h bo ta tr ro ot Bm bk)) := by
        intro t2 ht2 et2
        refine mB hT 6 rfl ?_
        refine hC _ 0 [_, _, _] _ _ _ _ _ (hem 2 t2 (by decide) ht2) rfl rfl (Nat.le_of_ble_eq_true rfl) rfl ?_
        refine mB hT 14 rfl ?_
        exact hR _ (by decide) _ _ _ (by subst et0 et1 et2; rfl) rfl
      refine mIf (fun h => ?_) (fun h => ?_)
      · refine mB hT 1 rfl ?_
        exact J2 2 (by decide) (if_neg (Int64.not_lt.mpr (lc_ge.mp h))).symm
      · refine mB hT 4 rfl ?_
        exact J2 (2 - 2) (by decide) (if_pos (Int64.not_le.mp (fun q => h (lc_ge.mpr q)))).symm
    refine mIf (fun h => ?_) (fun h => ?_)
    · refine mB hT 1 rfl ?_
      exact J1 2 (by decide) (if_neg (Int64.not_lt.mpr (lc_ge.mp h))).symm
    · refine mB hT 4 rfl ?_
      exact J1 (2 - 2) (by decide) (if_pos (Int64.not_le.mp (fun q => h (lc_ge.mpr q)))).symm
  refine mIf (fun h => ?_) (fun h => ?_)
  · refine mB hT 1 rfl ?_
    exact J0 2 (by decide) (if_neg (Int64.not_lt.mpr (lc_ge.mp h))).symm
  · refine mB hT 4 rfl ?_
    exact J0 (2 - 2) (by decide) (if_pos (Int64.not_le.mp (fun q => h (lc_ge.mpr q)))).symm
set_option maxRecDepth 20000 in
theorem m_sumG_4_0 {vs : Nat} {wo un h : Int64} {bo : Nat → Int32} {ta tr ro ot : Nat → Int64} {Bm : Nat → Nat → Nat → Int32} {bk : Nat → Nat → Int32} {f : Nat → Nat → Int64} (k : Nat) (hem : ∀ i s : Nat, i < 4 → s < 3 → KX3_emission l D ca ad [.ref 0, .int (Int32.ofNat i), .int (Int32.ofNat k), .int (Int32.ofNat s)] (MW 4 (Int32.ofNat vs) wo un h bo ta tr ro ot Bm bk) (some (.long (f i s))) (MW 4 (Int32.ofNat vs) wo un h bo ta tr ro ot Bm bk)) : KX3_sum l D ca ad [.ref 0, .int (Int32.ofNat k), .int 0] (MW 4 (Int32.ofNat vs) wo un h bo ta tr ro ot Bm bk) (some (.long (smG 4 f ro 0))) (MW 4 (Int32.ofNat vs) wo un h bo ta tr ro ot Bm bk) := by
  refine PX3_sum (Nat.le_of_ble_eq_true rfl) ?_
  intro G hT hC hR
  refine mB hT 18 rfl ?_
  have J0 : ∀ t0 : Nat, t0 < 3 → t0 = sdX (ro 0) 0 → G (42, [(5, .int 0), (3, .long 0), (0, .ref 0), (1, .int (Int32.ofNat k)), (2, .int 0)], [.int (Int32.ofNat t0)], (MW 4 (Int32.ofNat vs) wo un h bo ta tr ro ot Bm bk)) := by
    intro t0 ht0 et0
    refine mB hT 6 rfl ?_
    refine hC _ 0 [_, _, _] _ _ _ _ _ (hem 0 t0 (by decide) ht0) rfl rfl (Nat.le_of_ble_eq_true rfl) rfl ?_
    refine mB hT 23 rfl ?_
    have J1 : ∀ t1 : Nat, t1 < 3 → t1 = sdX (ro 1) 0 → G (42, [(5, .int 1), (3, .long (0 + ((f 0 t0) * (ro 0)))), (6, .int (Int32.ofNat t0)), (0, .ref 0), (1, .int (Int32.ofNat k)), (2, .int 0)], [.int (Int32.ofNat t1)], (MW 4 (Int32.ofNat vs) wo un h bo ta tr ro ot Bm bk)) := by
      intro t1 ht1 et1
      refine mB hT 6 rfl ?_
      refine hC _ 0 [_, _, _] _ _ _ _ _ (hem 1 t1 (by decide) ht1) rfl rfl (Nat.le_of_ble_eq_true rfl) rfl ?_
      refine mB hT 23 rfl ?_
      have J2 : ∀ t2 : Nat, t2 < 3 → t2 = sdX (ro 2) 0 → G (42, [(5, .int 2), (3, .long ((0 + ((f 0 t0) * (ro 0))) + ((f 1 t1) * (ro 1)))), (6, .int (Int32.ofNat t1)), (0, .ref 0), (1, .int (Int32.ofNat k)), (2, .int 0)], [.int (Int32.ofNat t2)], (MW 4 (Int32.ofNat vs) wo un h bo ta tr ro ot Bm bk)) := by
        intro t2 ht2 et2
        refine mB hT 6 rfl ?_
        refine hC _ 0 [_, _, _] _ _ _ _ _ (hem 2 t2 (by decide) ht2) rfl rfl (Nat.le_of_ble_eq_true rfl) rfl ?_
        refine mB hT 23 rfl ?_
        have J3 : ∀ t3 : Nat, t3 < 3 → t3 = sdX (ro 3) 0 → G (42, [(5, .int 3), (3, .long (((0 + ((f 0 t0) * (ro 0))) + ((f 1 t1) * (ro 1))) + ((f 2 t2) * (ro 2)))), (6, .int (Int32.ofNat t2)), (0, .ref 0), (1, .int (Int32.ofNat k)), (2, .int 0)], [.int (Int32.ofNat t3)], (MW 4 (Int32.ofNat vs) wo un h bo ta tr ro ot Bm bk)) := by
          intro t3 ht3 et3
          refine mB hT 6 rfl ?_
          refine hC _ 0 [_, _, _] _ _ _ _ _ (hem 3 t3 (by decide) ht3) rfl rfl (Nat.le_of_ble_eq_true rfl) rfl ?_
          refine mB hT 14 rfl ?_
          exact hR _ (by decide) _ _ _ (by subst et0 et1 et2 et3; rfl) rfl
        refine mIf (fun h => ?_) (fun h => ?_)
        · refine mB hT 1 rfl ?_
          exact J3 0 (by decide) (if_neg (Int64.not_lt.mpr (lc_ge.mp h))).symm
        · refine mB hT 4 rfl ?_
          exact J3 (2 - 0) (by decide) (if_pos (Int64.not_le.mp (fun q => h (lc_ge.mpr q)))).symm
      refine mIf (fun h => ?_) (fun h => ?_)
      · refine mB hT 1 rfl ?_
        exact J2 0 (by decide) (if_neg (Int64.not_lt.mpr (lc_ge.mp h))).symm
      · refine mB hT 4 rfl ?_
        exact J2 (2 - 0) (by decide) (if_pos (Int64.not_le.mp (fun q => h (lc_ge.mpr q)))).symm
    refine mIf (fun h => ?_) (fun h => ?_)
    · refine mB hT 1 rfl ?_
      exact J1 0 (by decide) (if_neg (Int64.not_lt.mpr (lc_ge.mp h))).symm
    · refine mB hT 4 rfl ?_
      exact J1 (2 - 0) (by decide) (if_pos (Int64.not_le.mp (fun q => h (lc_ge.mpr q)))).symm
  refine mIf (fun h => ?_) (fun h => ?_)
  · refine mB hT 1 rfl ?_
    exact J0 0 (by decide) (if_neg (Int64.not_lt.mpr (lc_ge.mp h))).symm
  · refine mB hT 4 rfl ?_
    exact J0 (2 - 0) (by decide) (if_pos (Int64.not_le.mp (fun q => h (lc_ge.mpr q)))).symm
set_option maxRecDepth 20000 in
theorem m_sumG_4_1 {vs : Nat} {wo un h : Int64} {bo : Nat → Int32} {ta tr ro ot : Nat → Int64} {Bm : Nat → Nat → Nat → Int32} {bk : Nat → Nat → Int32} {f : Nat → Nat → Int64} (k : Nat) (hem : ∀ i s : Nat, i < 4 → s < 3 → KX3_emission l D ca ad [.ref 0, .int (Int32.ofNat i), .int (Int32.ofNat k), .int (Int32.ofNat s)] (MW 4 (Int32.ofNat vs) wo un h bo ta tr ro ot Bm bk) (some (.long (f i s))) (MW 4 (Int32.ofNat vs) wo un h bo ta tr ro ot Bm bk)) : KX3_sum l D ca ad [.ref 0, .int (Int32.ofNat k), .int 1] (MW 4 (Int32.ofNat vs) wo un h bo ta tr ro ot Bm bk) (some (.long (smG 4 f ro 1))) (MW 4 (Int32.ofNat vs) wo un h bo ta tr ro ot Bm bk) := by
  refine PX3_sum (Nat.le_of_ble_eq_true rfl) ?_
  intro G hT hC hR
  refine mB hT 19 rfl ?_
  refine mNf (lv2 := [(6, .int 1), (5, .int 0), (3, .long 0), (0, .ref 0), (1, .int (Int32.ofNat k)), (2, .int 1)]) (st2 := [.int 1, .int (Int32.ofNat k), .int 0, .ref 0, .long 0]) rfl rfl ?_
  refine hC _ 0 [_, _, _] _ _ _ _ _ (hem 0 1 (by decide) (by decide)) rfl rfl (Nat.le_of_ble_eq_true rfl) rfl ?_
  refine mB hT 24 rfl ?_
  refine mNf (lv2 := [(6, .int 1), (5, .int 1), (3, .long (0 + ((f 0 1) * (ro 0)))), (0, .ref 0), (1, .int (Int32.ofNat k)), (2, .int 1)]) (st2 := [.int 1, .int (Int32.ofNat k), .int 1, .ref 0, .long (0 + ((f 0 1) * (ro 0)))]) rfl rfl ?_
  refine hC _ 0 [_, _, _] _ _ _ _ _ (hem 1 1 (by decide) (by decide)) rfl rfl (Nat.le_of_ble_eq_true rfl) rfl ?_
  refine mB hT 24 rfl ?_
  refine mNf (lv2 := [(6, .int 1), (5, .int 2), (3, .long ((0 + ((f 0 1) * (ro 0))) + ((f 1 1) * (ro 1)))), (0, .ref 0), (1, .int (Int32.ofNat k)), (2, .int 1)]) (st2 := [.int 1, .int (Int32.ofNat k), .int 2, .ref 0, .long ((0 + ((f 0 1) * (ro 0))) + ((f 1 1) * (ro 1)))]) rfl rfl ?_
  refine hC _ 0 [_, _, _] _ _ _ _ _ (hem 2 1 (by decide) (by decide)) rfl rfl (Nat.le_of_ble_eq_true rfl) rfl ?_
  refine mB hT 24 rfl ?_
  refine mNf (lv2 := [(6, .int 1), (5, .int 3), (3, .long (((0 + ((f 0 1) * (ro 0))) + ((f 1 1) * (ro 1))) + ((f 2 1) * (ro 2)))), (0, .ref 0), (1, .int (Int32.ofNat k)), (2, .int 1)]) (st2 := [.int 1, .int (Int32.ofNat k), .int 3, .ref 0, .long (((0 + ((f 0 1) * (ro 0))) + ((f 1 1) * (ro 1))) + ((f 2 1) * (ro 2)))]) rfl rfl ?_
  refine hC _ 0 [_, _, _] _ _ _ _ _ (hem 3 1 (by decide) (by decide)) rfl rfl (Nat.le_of_ble_eq_true rfl) rfl ?_
  refine mB hT 14 rfl ?_
  exact hR _ (by decide) _ _ _ (by rfl) rfl
set_option maxRecDepth 20000 in
theorem m_sumG_4_2 {vs : Nat} {wo un h : Int64} {bo : Nat → Int32} {ta tr ro ot : Nat → Int64} {Bm : Nat → Nat → Nat → Int32} {bk : Nat → Nat → Int32} {f : Nat → Nat → Int64} (k : Nat) (hem : ∀ i s : Nat, i < 4 → s < 3 → KX3_emission l D ca ad [.ref 0, .int (Int32.ofNat i), .int (Int32.ofNat k), .int (Int32.ofNat s)] (MW 4 (Int32.ofNat vs) wo un h bo ta tr ro ot Bm bk) (some (.long (f i s))) (MW 4 (Int32.ofNat vs) wo un h bo ta tr ro ot Bm bk)) : KX3_sum l D ca ad [.ref 0, .int (Int32.ofNat k), .int 2] (MW 4 (Int32.ofNat vs) wo un h bo ta tr ro ot Bm bk) (some (.long (smG 4 f ro 2))) (MW 4 (Int32.ofNat vs) wo un h bo ta tr ro ot Bm bk) := by
  refine PX3_sum (Nat.le_of_ble_eq_true rfl) ?_
  intro G hT hC hR
  refine mB hT 18 rfl ?_
  have J0 : ∀ t0 : Nat, t0 < 3 → t0 = sdX (ro 0) 2 → G (42, [(5, .int 0), (3, .long 0), (0, .ref 0), (1, .int (Int32.ofNat k)), (2, .int 2)], [.int (Int32.ofNat t0)], (MW 4 (Int32.ofNat vs) wo un h bo ta tr ro ot Bm bk)) := by
    intro t0 ht0 et0
    refine mB hT 6 rfl ?_
    refine hC _ 0 [_, _, _] _ _ _ _ _ (hem 0 t0 (by decide) ht0) rfl rfl (Nat.le_of_ble_eq_true rfl) rfl ?_
    refine mB hT 23 rfl ?_
    have J1 : ∀ t1 : Nat, t1 < 3 → t1 = sdX (ro 1) 2 → G (42, [(5, .int 1), (3, .long (0 + ((f 0 t0) * (ro 0)))), (6, .int (Int32.ofNat t0)), (0, .ref 0), (1, .int (Int32.ofNat k)), (2, .int 2)], [.int (Int32.ofNat t1)], (MW 4 (Int32.ofNat vs) wo un h bo ta tr ro ot Bm bk)) := by
      intro t1 ht1 et1
      refine mB hT 6 rfl ?_
      refine hC _ 0 [_, _, _] _ _ _ _ _ (hem 1 t1 (by decide) ht1) rfl rfl (Nat.le_of_ble_eq_true rfl) rfl ?_
      refine mB hT 23 rfl ?_
      have J2 : ∀ t2 : Nat, t2 < 3 → t2 = sdX (ro 2) 2 → G (42, [(5, .int 2), (3, .long ((0 + ((f 0 t0) * (ro 0))) + ((f 1 t1) * (ro 1)))), (6, .int (Int32.ofNat t1)), (0, .ref 0), (1, .int (Int32.ofNat k)), (2, .int 2)], [.int (Int32.ofNat t2)], (MW 4 (Int32.ofNat vs) wo un h bo ta tr ro ot Bm bk)) := by
        intro t2 ht2 et2
        refine mB hT 6 rfl ?_
        refine hC _ 0 [_, _, _] _ _ _ _ _ (hem 2 t2 (by decide) ht2) rfl rfl (Nat.le_of_ble_eq_true rfl) rfl ?_
        refine mB hT 23 rfl ?_
        have J3 : ∀ t3 : Nat, t3 < 3 → t3 = sdX (ro 3) 2 → G (42, [(5, .int 3), (3, .long (((0 + ((f 0 t0) * (ro 0))) + ((f 1 t1) * (ro 1))) + ((f 2 t2) * (ro 2)))), (6, .int (Int32.ofNat t2)), (0, .ref 0), (1, .int (Int32.ofNat k)), (2, .int 2)], [.int (Int32.ofNat t3)], (MW 4 (Int32.ofNat vs) wo un h bo ta tr ro ot Bm bk)) := by
          intro t3 ht3 et3
          refine mB hT 6 rfl ?_
          refine hC _ 0 [_, _, _] _ _ _ _ _ (hem 3 t3 (by decide) ht3) rfl rfl (Nat.le_of_ble_eq_true rfl) rfl ?_
          refine mB hT 14 rfl ?_
          exact hR _ (by decide) _ _ _ (by subst et0 et1 et2 et3; rfl) rfl
        refine mIf (fun h => ?_) (fun h => ?_)
        · refine mB hT 1 rfl ?_
          exact J3 2 (by decide) (if_neg (Int64.not_lt.mpr (lc_ge.mp h))).symm
        · refine mB hT 4 rfl ?_
          exact J3 (2 - 2) (by decide) (if_pos (Int64.not_le.mp (fun q => h (lc_ge.mpr q)))).symm
      refine mIf (fun h => ?_) (fun h => ?_)
      · refine mB hT 1 rfl ?_
        exact J2 2 (by decide) (if_neg (Int64.not_lt.mpr (lc_ge.mp h))).symm
      · refine mB hT 4 rfl ?_
        exact J2 (2 - 2) (by decide) (if_pos (Int64.not_le.mp (fun q => h (lc_ge.mpr q)))).symm
    refine mIf (fun h => ?_) (fun h => ?_)
    · refine mB hT 1 rfl ?_
      exact J1 2 (by decide) (if_neg (Int64.not_lt.mpr (lc_ge.mp h))).symm
    · refine mB hT 4 rfl ?_
      exact J1 (2 - 2) (by decide) (if_pos (Int64.not_le.mp (fun q => h (lc_ge.mpr q)))).symm
  refine mIf (fun h => ?_) (fun h => ?_)
  · refine mB hT 1 rfl ?_
    exact J0 2 (by decide) (if_neg (Int64.not_lt.mpr (lc_ge.mp h))).symm
  · refine mB hT 4 rfl ?_
    exact J0 (2 - 2) (by decide) (if_pos (Int64.not_le.mp (fun q => h (lc_ge.mpr q)))).symm
theorem m_sumG_s0 {n vs : Nat} {wo un h : Int64} {bo : Nat → Int32} {ta tr ro ot : Nat → Int64} {Bm : Nat → Nat → Nat → Int32} {bk : Nat → Nat → Int32} (hn : n ≤ 4) {f : Nat → Nat → Int64} (k : Nat) (hem : ∀ i s : Nat, i < 4 → s < 3 → KX3_emission l D ca ad [.ref 0, .int (Int32.ofNat i), .int (Int32.ofNat k), .int (Int32.ofNat s)] (MW (Int32.ofNat n) (Int32.ofNat vs) wo un h bo ta tr ro ot Bm bk) (some (.long (f i s))) (MW (Int32.ofNat n) (Int32.ofNat vs) wo un h bo ta tr ro ot Bm bk)) : KX3_sum l D ca ad [.ref 0, .int (Int32.ofNat k), .int 0] (MW (Int32.ofNat n) (Int32.ofNat vs) wo un h bo ta tr ro ot Bm bk) (some (.long (smG n f ro 0))) (MW (Int32.ofNat n) (Int32.ofNat vs) wo un h bo ta tr ro ot Bm bk) := by
  match n, hn with
  | 0, _ => exact m_sumG_0_0 k hem
  | 1, _ => exact m_sumG_1_0 k hem
  | 2, _ => exact m_sumG_2_0 k hem
  | 3, _ => exact m_sumG_3_0 k hem
  | 4, _ => exact m_sumG_4_0 k hem
theorem m_sumG_s1 {n vs : Nat} {wo un h : Int64} {bo : Nat → Int32} {ta tr ro ot : Nat → Int64} {Bm : Nat → Nat → Nat → Int32} {bk : Nat → Nat → Int32} (hn : n ≤ 4) {f : Nat → Nat → Int64} (k : Nat) (hem : ∀ i s : Nat, i < 4 → s < 3 → KX3_emission l D ca ad [.ref 0, .int (Int32.ofNat i), .int (Int32.ofNat k), .int (Int32.ofNat s)] (MW (Int32.ofNat n) (Int32.ofNat vs) wo un h bo ta tr ro ot Bm bk) (some (.long (f i s))) (MW (Int32.ofNat n) (Int32.ofNat vs) wo un h bo ta tr ro ot Bm bk)) : KX3_sum l D ca ad [.ref 0, .int (Int32.ofNat k), .int 1] (MW (Int32.ofNat n) (Int32.ofNat vs) wo un h bo ta tr ro ot Bm bk) (some (.long (smG n f ro 1))) (MW (Int32.ofNat n) (Int32.ofNat vs) wo un h bo ta tr ro ot Bm bk) := by
  match n, hn with
  | 0, _ => exact m_sumG_0_1 k hem
  | 1, _ => exact m_sumG_1_1 k hem
  | 2, _ => exact m_sumG_2_1 k hem
  | 3, _ => exact m_sumG_3_1 k hem
  | 4, _ => exact m_sumG_4_1 k hem
theorem m_sumG_s2 {n vs : Nat} {wo un h : Int64} {bo : Nat → Int32} {ta tr ro ot : Nat → Int64} {Bm : Nat → Nat → Nat → Int32} {bk : Nat → Nat → Int32} (hn : n ≤ 4) {f : Nat → Nat → Int64} (k : Nat) (hem : ∀ i s : Nat, i < 4 → s < 3 → KX3_emission l D ca ad [.ref 0, .int (Int32.ofNat i), .int (Int32.ofNat k), .int (Int32.ofNat s)] (MW (Int32.ofNat n) (Int32.ofNat vs) wo un h bo ta tr ro ot Bm bk) (some (.long (f i s))) (MW (Int32.ofNat n) (Int32.ofNat vs) wo un h bo ta tr ro ot Bm bk)) : KX3_sum l D ca ad [.ref 0, .int (Int32.ofNat k), .int 2] (MW (Int32.ofNat n) (Int32.ofNat vs) wo un h bo ta tr ro ot Bm bk) (some (.long (smG n f ro 2))) (MW (Int32.ofNat n) (Int32.ofNat vs) wo un h bo ta tr ro ot Bm bk) := by
  match n, hn with
  | 0, _ => exact m_sumG_0_2 k hem
  | 1, _ => exact m_sumG_1_2 k hem
  | 2, _ => exact m_sumG_2_2 k hem
  | 3, _ => exact m_sumG_3_2 k hem
  | 4, _ => exact m_sumG_4_2 k hem
theorem m_sumG {n vs : Nat} {wo un h : Int64} {bo : Nat → Int32} {ta tr ro ot : Nat → Int64} {Bm : Nat → Nat → Nat → Int32} {bk : Nat → Nat → Int32} (hn : n ≤ 4) {f : Nat → Nat → Int64} (k s : Nat) (hs : s < 3) (hem : ∀ i s : Nat, i < 4 → s < 3 → KX3_emission l D ca ad [.ref 0, .int (Int32.ofNat i), .int (Int32.ofNat k), .int (Int32.ofNat s)] (MW (Int32.ofNat n) (Int32.ofNat vs) wo un h bo ta tr ro ot Bm bk) (some (.long (f i s))) (MW (Int32.ofNat n) (Int32.ofNat vs) wo un h bo ta tr ro ot Bm bk)) : KX3_sum l D ca ad [.ref 0, .int (Int32.ofNat k), .int (Int32.ofNat s)] (MW (Int32.ofNat n) (Int32.ofNat vs) wo un h bo ta tr ro ot Bm bk) (some (.long (smG n f ro s))) (MW (Int32.ofNat n) (Int32.ofNat vs) wo un h bo ta tr ro ot Bm bk) := by
  rcases (show s = 0 ∨ s = 1 ∨ s = 2 by omega) with e | e | e
  · subst e; exact m_sumG_s0 hn k hem
  · subst e; exact m_sumG_s1 hn k hem
  · subst e; exact m_sumG_s2 hn k hem
theorem m_ent_0_0 {n vs : Nat} {wo un h : Int64} {ta tr ro ot : Nat → Int64} {Bm : Nat → Nat → Nat → Int32} {bk : Nat → Nat → Int32} (hn : n ≤ 4) (j i : Nat) (hj : j < 4) (hi : i < 4) : KX3_entryOf l D ca ad [.ref 0, .int (boX 0 0 i), .int (Int32.ofNat j), .int (Int32.ofNat i)] (MW (Int32.ofNat n) (Int32.ofNat vs) wo un h (boX 0 0) ta tr ro ot Bm bk) (some (.int (ceM n (Bm (bkM 0 0 i)) i j))) (MW (Int32.ofNat n) (Int32.ofNat vs) wo un h (boX 0 0) ta tr ro ot Bm bk) := by
  match j, hj, i, hi with
  | 0, _, 0, _ => exact m_entryOf_0_0_0 hn
  | 0, _, 1, _ => exact m_entryOf_0_0_1 hn
  | 0, _, 2, _ => exact m_entryOf_0_0_2 hn
  | 0, _, 3, _ => exact m_entryOf_0_0_3 hn
  | 1, _, 0, _ => exact m_entryOf_0_1_0 hn
  | 1, _, 1, _ => exact m_entryOf_0_1_1 hn
  | 1, _, 2, _ => exact m_entryOf_0_1_2 hn
  | 1, _, 3, _ => exact m_entryOf_0_1_3 hn
  | 2, _, 0, _ => exact m_entryOf_0_2_0 hn
  | 2, _, 1, _ => exact m_entryOf_0_2_1 hn
  | 2, _, 2, _ => exact m_entryOf_0_2_2 hn
  | 2, _, 3, _ => exact m_entryOf_0_2_3 hn
  | 3, _, 0, _ => exact m_entryOf_0_3_0 hn
  | 3, _, 1, _ => exact m_entryOf_0_3_1 hn
  | 3, _, 2, _ => exact m_entryOf_0_3_2 hn
  | 3, _, 3, _ => exact m_entryOf_0_3_3 hn
theorem m_lay_0_0 {n vs : Nat} {wo un h : Int64} {ta tr ro ot : Nat → Int64} {Bm : Nat → Nat → Nat → Int32} {bk : Nat → Nat → Int32} (hn : n ≤ 4) : KX3_lay l D ca ad [.ref 0] (MW (Int32.ofNat n) (Int32.ofNat vs) wo un h (boX 0 0) ta tr ro ot Bm bk) none (MW (Int32.ofNat n) (Int32.ofNat vs) (dtM (TnM n Bm 0 0)) un h (boX 0 0) (TnM n Bm 0 0) (TnM n Bm 0 0) ro ot Bm bk) := m_layG hn (e := fun j i => ceM n (Bm (bkM 0 0 i)) i j) (fun _ j i hj hi => m_ent_0_0 hn j i hj hi)
theorem m_emi_0_0 {n vs : Nat} {wo un h : Int64} {ta tr ro ot : Nat → Int64} {Bm : Nat → Nat → Nat → Int32} {bk : Nat → Nat → Int32} (k : Nat) (hk : k < 3) (i s : Nat) (hi : i < 4) (hs : s < 3) : KX3_emission l D ca ad [.ref 0, .int (Int32.ofNat i), .int (Int32.ofNat k), .int (Int32.ofNat s)] (MW (Int32.ofNat n) (Int32.ofNat vs) wo un h (boX 0 0) ta tr ro ot Bm bk) (some (.long (emM (Bm (bkM 0 0 i) i) k s))) (MW (Int32.ofNat n) (Int32.ofNat vs) wo un h (boX 0 0) ta tr ro ot Bm bk) := by
  match i, hi with
  | 0, _ => exact m_em_0_0 (bo := boX 0 0) k s hk hs
  | 1, _ => exact m_em_0_1 (bo := boX 0 0) k s hk hs
  | 2, _ => exact m_em_0_2 (bo := boX 0 0) k s hk hs
  | 3, _ => exact m_em_0_3 (bo := boX 0 0) k s hk hs
theorem m_sum_0_0 {n vs : Nat} {wo un h : Int64} {ta tr ro ot : Nat → Int64} {Bm : Nat → Nat → Nat → Int32} {bk : Nat → Nat → Int32} (hn : n ≤ 4) (k s : Nat) (hk : k < 3) (hs : s < 3) : KX3_sum l D ca ad [.ref 0, .int (Int32.ofNat k), .int (Int32.ofNat s)] (MW (Int32.ofNat n) (Int32.ofNat vs) wo un h (boX 0 0) ta tr ro ot Bm bk) (some (.long (smG n (fun i s => emM (Bm (bkM 0 0 i) i) k s) ro s))) (MW (Int32.ofNat n) (Int32.ofNat vs) wo un h (boX 0 0) ta tr ro ot Bm bk) := m_sumG hn k s hs (m_emi_0_0 k hk)
theorem m_ent_0_1 {n vs : Nat} {wo un h : Int64} {ta tr ro ot : Nat → Int64} {Bm : Nat → Nat → Nat → Int32} {bk : Nat → Nat → Int32} (hn : n ≤ 4) (j i : Nat) (hj : j < 4) (hi : i < 4) : KX3_entryOf l D ca ad [.ref 0, .int (boX 0 1 i), .int (Int32.ofNat j), .int (Int32.ofNat i)] (MW (Int32.ofNat n) (Int32.ofNat vs) wo un h (boX 0 1) ta tr ro ot Bm bk) (some (.int (ceM n (Bm (bkM 0 1 i)) i j))) (MW (Int32.ofNat n) (Int32.ofNat vs) wo un h (boX 0 1) ta tr ro ot Bm bk) := by
  match j, hj, i, hi with
  | 0, _, 0, _ => exact m_entryOf_1_0_0 hn
  | 0, _, 1, _ => exact m_entryOf_1_0_1 hn
  | 0, _, 2, _ => exact m_entryOf_1_0_2 hn
  | 0, _, 3, _ => exact m_entryOf_1_0_3 hn
  | 1, _, 0, _ => exact m_entryOf_1_1_0 hn
  | 1, _, 1, _ => exact m_entryOf_1_1_1 hn
  | 1, _, 2, _ => exact m_entryOf_1_1_2 hn
  | 1, _, 3, _ => exact m_entryOf_1_1_3 hn
  | 2, _, 0, _ => exact m_entryOf_1_2_0 hn
  | 2, _, 1, _ => exact m_entryOf_1_2_1 hn
  | 2, _, 2, _ => exact m_entryOf_1_2_2 hn
  | 2, _, 3, _ => exact m_entryOf_1_2_3 hn
  | 3, _, 0, _ => exact m_entryOf_1_3_0 hn
  | 3, _, 1, _ => exact m_entryOf_1_3_1 hn
  | 3, _, 2, _ => exact m_entryOf_1_3_2 hn
  | 3, _, 3, _ => exact m_entryOf_1_3_3 hn
theorem m_lay_0_1 {n vs : Nat} {wo un h : Int64} {ta tr ro ot : Nat → Int64} {Bm : Nat → Nat → Nat → Int32} {bk : Nat → Nat → Int32} (hn : n ≤ 4) : KX3_lay l D ca ad [.ref 0] (MW (Int32.ofNat n) (Int32.ofNat vs) wo un h (boX 0 1) ta tr ro ot Bm bk) none (MW (Int32.ofNat n) (Int32.ofNat vs) (dtM (TnM n Bm 0 1)) un h (boX 0 1) (TnM n Bm 0 1) (TnM n Bm 0 1) ro ot Bm bk) := m_layG hn (e := fun j i => ceM n (Bm (bkM 0 1 i)) i j) (fun _ j i hj hi => m_ent_0_1 hn j i hj hi)
theorem m_emi_0_1 {n vs : Nat} {wo un h : Int64} {ta tr ro ot : Nat → Int64} {Bm : Nat → Nat → Nat → Int32} {bk : Nat → Nat → Int32} (k : Nat) (hk : k < 3) (i s : Nat) (hi : i < 4) (hs : s < 3) : KX3_emission l D ca ad [.ref 0, .int (Int32.ofNat i), .int (Int32.ofNat k), .int (Int32.ofNat s)] (MW (Int32.ofNat n) (Int32.ofNat vs) wo un h (boX 0 1) ta tr ro ot Bm bk) (some (.long (emM (Bm (bkM 0 1 i) i) k s))) (MW (Int32.ofNat n) (Int32.ofNat vs) wo un h (boX 0 1) ta tr ro ot Bm bk) := by
  match i, hi with
  | 0, _ => exact m_em_1_0 (bo := boX 0 1) k s hk hs
  | 1, _ => exact m_em_1_1 (bo := boX 0 1) k s hk hs
  | 2, _ => exact m_em_1_2 (bo := boX 0 1) k s hk hs
  | 3, _ => exact m_em_1_3 (bo := boX 0 1) k s hk hs
theorem m_sum_0_1 {n vs : Nat} {wo un h : Int64} {ta tr ro ot : Nat → Int64} {Bm : Nat → Nat → Nat → Int32} {bk : Nat → Nat → Int32} (hn : n ≤ 4) (k s : Nat) (hk : k < 3) (hs : s < 3) : KX3_sum l D ca ad [.ref 0, .int (Int32.ofNat k), .int (Int32.ofNat s)] (MW (Int32.ofNat n) (Int32.ofNat vs) wo un h (boX 0 1) ta tr ro ot Bm bk) (some (.long (smG n (fun i s => emM (Bm (bkM 0 1 i) i) k s) ro s))) (MW (Int32.ofNat n) (Int32.ofNat vs) wo un h (boX 0 1) ta tr ro ot Bm bk) := m_sumG hn k s hs (m_emi_0_1 k hk)
theorem m_ent_0_2 {n vs : Nat} {wo un h : Int64} {ta tr ro ot : Nat → Int64} {Bm : Nat → Nat → Nat → Int32} {bk : Nat → Nat → Int32} (hn : n ≤ 4) (j i : Nat) (hj : j < 4) (hi : i < 4) : KX3_entryOf l D ca ad [.ref 0, .int (boX 0 2 i), .int (Int32.ofNat j), .int (Int32.ofNat i)] (MW (Int32.ofNat n) (Int32.ofNat vs) wo un h (boX 0 2) ta tr ro ot Bm bk) (some (.int (ceM n (Bm (bkM 0 2 i)) i j))) (MW (Int32.ofNat n) (Int32.ofNat vs) wo un h (boX 0 2) ta tr ro ot Bm bk) := by
  match j, hj, i, hi with
  | 0, _, 0, _ => exact m_entryOf_2_0_0 hn
  | 0, _, 1, _ => exact m_entryOf_2_0_1 hn
  | 0, _, 2, _ => exact m_entryOf_2_0_2 hn
  | 0, _, 3, _ => exact m_entryOf_2_0_3 hn
  | 1, _, 0, _ => exact m_entryOf_2_1_0 hn
  | 1, _, 1, _ => exact m_entryOf_2_1_1 hn
  | 1, _, 2, _ => exact m_entryOf_2_1_2 hn
  | 1, _, 3, _ => exact m_entryOf_2_1_3 hn
  | 2, _, 0, _ => exact m_entryOf_2_2_0 hn
  | 2, _, 1, _ => exact m_entryOf_2_2_1 hn
  | 2, _, 2, _ => exact m_entryOf_2_2_2 hn
  | 2, _, 3, _ => exact m_entryOf_2_2_3 hn
  | 3, _, 0, _ => exact m_entryOf_2_3_0 hn
  | 3, _, 1, _ => exact m_entryOf_2_3_1 hn
  | 3, _, 2, _ => exact m_entryOf_2_3_2 hn
  | 3, _, 3, _ => exact m_entryOf_2_3_3 hn
theorem m_lay_0_2 {n vs : Nat} {wo un h : Int64} {ta tr ro ot : Nat → Int64} {Bm : Nat → Nat → Nat → Int32} {bk : Nat → Nat → Int32} (hn : n ≤ 4) : KX3_lay l D ca ad [.ref 0] (MW (Int32.ofNat n) (Int32.ofNat vs) wo un h (boX 0 2) ta tr ro ot Bm bk) none (MW (Int32.ofNat n) (Int32.ofNat vs) (dtM (TnM n Bm 0 2)) un h (boX 0 2) (TnM n Bm 0 2) (TnM n Bm 0 2) ro ot Bm bk) := m_layG hn (e := fun j i => ceM n (Bm (bkM 0 2 i)) i j) (fun _ j i hj hi => m_ent_0_2 hn j i hj hi)
theorem m_emi_0_2 {n vs : Nat} {wo un h : Int64} {ta tr ro ot : Nat → Int64} {Bm : Nat → Nat → Nat → Int32} {bk : Nat → Nat → Int32} (k : Nat) (hk : k < 3) (i s : Nat) (hi : i < 4) (hs : s < 3) : KX3_emission l D ca ad [.ref 0, .int (Int32.ofNat i), .int (Int32.ofNat k), .int (Int32.ofNat s)] (MW (Int32.ofNat n) (Int32.ofNat vs) wo un h (boX 0 2) ta tr ro ot Bm bk) (some (.long (emM (Bm (bkM 0 2 i) i) k s))) (MW (Int32.ofNat n) (Int32.ofNat vs) wo un h (boX 0 2) ta tr ro ot Bm bk) := by
  match i, hi with
  | 0, _ => exact m_em_2_0 (bo := boX 0 2) k s hk hs
  | 1, _ => exact m_em_2_1 (bo := boX 0 2) k s hk hs
  | 2, _ => exact m_em_2_2 (bo := boX 0 2) k s hk hs
  | 3, _ => exact m_em_2_3 (bo := boX 0 2) k s hk hs
theorem m_sum_0_2 {n vs : Nat} {wo un h : Int64} {ta tr ro ot : Nat → Int64} {Bm : Nat → Nat → Nat → Int32} {bk : Nat → Nat → Int32} (hn : n ≤ 4) (k s : Nat) (hk : k < 3) (hs : s < 3) : KX3_sum l D ca ad [.ref 0, .int (Int32.ofNat k), .int (Int32.ofNat s)] (MW (Int32.ofNat n) (Int32.ofNat vs) wo un h (boX 0 2) ta tr ro ot Bm bk) (some (.long (smG n (fun i s => emM (Bm (bkM 0 2 i) i) k s) ro s))) (MW (Int32.ofNat n) (Int32.ofNat vs) wo un h (boX 0 2) ta tr ro ot Bm bk) := m_sumG hn k s hs (m_emi_0_2 k hk)
theorem m_ent_0_3 {n vs : Nat} {wo un h : Int64} {ta tr ro ot : Nat → Int64} {Bm : Nat → Nat → Nat → Int32} {bk : Nat → Nat → Int32} (hn : n ≤ 4) (j i : Nat) (hj : j < 4) (hi : i < 4) : KX3_entryOf l D ca ad [.ref 0, .int (boX 0 3 i), .int (Int32.ofNat j), .int (Int32.ofNat i)] (MW (Int32.ofNat n) (Int32.ofNat vs) wo un h (boX 0 3) ta tr ro ot Bm bk) (some (.int (ceM n (Bm (bkM 0 3 i)) i j))) (MW (Int32.ofNat n) (Int32.ofNat vs) wo un h (boX 0 3) ta tr ro ot Bm bk) := by
  match j, hj, i, hi with
  | 0, _, 0, _ => exact m_entryOf_3_0_0 hn
  | 0, _, 1, _ => exact m_entryOf_3_0_1 hn
  | 0, _, 2, _ => exact m_entryOf_3_0_2 hn
  | 0, _, 3, _ => exact m_entryOf_3_0_3 hn
  | 1, _, 0, _ => exact m_entryOf_3_1_0 hn
  | 1, _, 1, _ => exact m_entryOf_3_1_1 hn
  | 1, _, 2, _ => exact m_entryOf_3_1_2 hn
  | 1, _, 3, _ => exact m_entryOf_3_1_3 hn
  | 2, _, 0, _ => exact m_entryOf_3_2_0 hn
  | 2, _, 1, _ => exact m_entryOf_3_2_1 hn
  | 2, _, 2, _ => exact m_entryOf_3_2_2 hn
  | 2, _, 3, _ => exact m_entryOf_3_2_3 hn
  | 3, _, 0, _ => exact m_entryOf_3_3_0 hn
  | 3, _, 1, _ => exact m_entryOf_3_3_1 hn
  | 3, _, 2, _ => exact m_entryOf_3_3_2 hn
  | 3, _, 3, _ => exact m_entryOf_3_3_3 hn
theorem m_lay_0_3 {n vs : Nat} {wo un h : Int64} {ta tr ro ot : Nat → Int64} {Bm : Nat → Nat → Nat → Int32} {bk : Nat → Nat → Int32} (hn : n ≤ 4) : KX3_lay l D ca ad [.ref 0] (MW (Int32.ofNat n) (Int32.ofNat vs) wo un h (boX 0 3) ta tr ro ot Bm bk) none (MW (Int32.ofNat n) (Int32.ofNat vs) (dtM (TnM n Bm 0 3)) un h (boX 0 3) (TnM n Bm 0 3) (TnM n Bm 0 3) ro ot Bm bk) := m_layG hn (e := fun j i => ceM n (Bm (bkM 0 3 i)) i j) (fun _ j i hj hi => m_ent_0_3 hn j i hj hi)
theorem m_emi_0_3 {n vs : Nat} {wo un h : Int64} {ta tr ro ot : Nat → Int64} {Bm : Nat → Nat → Nat → Int32} {bk : Nat → Nat → Int32} (k : Nat) (hk : k < 3) (i s : Nat) (hi : i < 4) (hs : s < 3) : KX3_emission l D ca ad [.ref 0, .int (Int32.ofNat i), .int (Int32.ofNat k), .int (Int32.ofNat s)] (MW (Int32.ofNat n) (Int32.ofNat vs) wo un h (boX 0 3) ta tr ro ot Bm bk) (some (.long (emM (Bm (bkM 0 3 i) i) k s))) (MW (Int32.ofNat n) (Int32.ofNat vs) wo un h (boX 0 3) ta tr ro ot Bm bk) := by
  match i, hi with
  | 0, _ => exact m_em_3_0 (bo := boX 0 3) k s hk hs
  | 1, _ => exact m_em_3_1 (bo := boX 0 3) k s hk hs
  | 2, _ => exact m_em_3_2 (bo := boX 0 3) k s hk hs
  | 3, _ => exact m_em_3_3 (bo := boX 0 3) k s hk hs
theorem m_sum_0_3 {n vs : Nat} {wo un h : Int64} {ta tr ro ot : Nat → Int64} {Bm : Nat → Nat → Nat → Int32} {bk : Nat → Nat → Int32} (hn : n ≤ 4) (k s : Nat) (hk : k < 3) (hs : s < 3) : KX3_sum l D ca ad [.ref 0, .int (Int32.ofNat k), .int (Int32.ofNat s)] (MW (Int32.ofNat n) (Int32.ofNat vs) wo un h (boX 0 3) ta tr ro ot Bm bk) (some (.long (smG n (fun i s => emM (Bm (bkM 0 3 i) i) k s) ro s))) (MW (Int32.ofNat n) (Int32.ofNat vs) wo un h (boX 0 3) ta tr ro ot Bm bk) := m_sumG hn k s hs (m_emi_0_3 k hk)
theorem m_ent_0_4 {n vs : Nat} {wo un h : Int64} {ta tr ro ot : Nat → Int64} {Bm : Nat → Nat → Nat → Int32} {bk : Nat → Nat → Int32} (hn : n ≤ 4) (j i : Nat) (hj : j < 4) (hi : i < 4) : KX3_entryOf l D ca ad [.ref 0, .int (boX 0 4 i), .int (Int32.ofNat j), .int (Int32.ofNat i)] (MW (Int32.ofNat n) (Int32.ofNat vs) wo un h (boX 0 4) ta tr ro ot Bm bk) (some (.int (ceM n (Bm (bkM 0 4 i)) i j))) (MW (Int32.ofNat n) (Int32.ofNat vs) wo un h (boX 0 4) ta tr ro ot Bm bk) := by
  match j, hj, i, hi with
  | 0, _, 0, _ => exact m_entryOf_4_0_0 hn
  | 0, _, 1, _ => exact m_entryOf_4_0_1 hn
  | 0, _, 2, _ => exact m_entryOf_4_0_2 hn
  | 0, _, 3, _ => exact m_entryOf_4_0_3 hn
  | 1, _, 0, _ => exact m_entryOf_4_1_0 hn
  | 1, _, 1, _ => exact m_entryOf_4_1_1 hn
  | 1, _, 2, _ => exact m_entryOf_4_1_2 hn
  | 1, _, 3, _ => exact m_entryOf_4_1_3 hn
  | 2, _, 0, _ => exact m_entryOf_4_2_0 hn
  | 2, _, 1, _ => exact m_entryOf_4_2_1 hn
  | 2, _, 2, _ => exact m_entryOf_4_2_2 hn
  | 2, _, 3, _ => exact m_entryOf_4_2_3 hn
  | 3, _, 0, _ => exact m_entryOf_4_3_0 hn
  | 3, _, 1, _ => exact m_entryOf_4_3_1 hn
  | 3, _, 2, _ => exact m_entryOf_4_3_2 hn
  | 3, _, 3, _ => exact m_entryOf_4_3_3 hn
theorem m_lay_0_4 {n vs : Nat} {wo un h : Int64} {ta tr ro ot : Nat → Int64} {Bm : Nat → Nat → Nat → Int32} {bk : Nat → Nat → Int32} (hn : n ≤ 4) : KX3_lay l D ca ad [.ref 0] (MW (Int32.ofNat n) (Int32.ofNat vs) wo un h (boX 0 4) ta tr ro ot Bm bk) none (MW (Int32.ofNat n) (Int32.ofNat vs) (dtM (TnM n Bm 0 4)) un h (boX 0 4) (TnM n Bm 0 4) (TnM n Bm 0 4) ro ot Bm bk) := m_layG hn (e := fun j i => ceM n (Bm (bkM 0 4 i)) i j) (fun _ j i hj hi => m_ent_0_4 hn j i hj hi)
theorem m_emi_0_4 {n vs : Nat} {wo un h : Int64} {ta tr ro ot : Nat → Int64} {Bm : Nat → Nat → Nat → Int32} {bk : Nat → Nat → Int32} (k : Nat) (hk : k < 3) (i s : Nat) (hi : i < 4) (hs : s < 3) : KX3_emission l D ca ad [.ref 0, .int (Int32.ofNat i), .int (Int32.ofNat k), .int (Int32.ofNat s)] (MW (Int32.ofNat n) (Int32.ofNat vs) wo un h (boX 0 4) ta tr ro ot Bm bk) (some (.long (emM (Bm (bkM 0 4 i) i) k s))) (MW (Int32.ofNat n) (Int32.ofNat vs) wo un h (boX 0 4) ta tr ro ot Bm bk) := by
  match i, hi with
  | 0, _ => exact m_em_4_0 (bo := boX 0 4) k s hk hs
  | 1, _ => exact m_em_4_1 (bo := boX 0 4) k s hk hs
  | 2, _ => exact m_em_4_2 (bo := boX 0 4) k s hk hs
  | 3, _ => exact m_em_4_3 (bo := boX 0 4) k s hk hs
theorem m_sum_0_4 {n vs : Nat} {wo un h : Int64} {ta tr ro ot : Nat → Int64} {Bm : Nat → Nat → Nat → Int32} {bk : Nat → Nat → Int32} (hn : n ≤ 4) (k s : Nat) (hk : k < 3) (hs : s < 3) : KX3_sum l D ca ad [.ref 0, .int (Int32.ofNat k), .int (Int32.ofNat s)] (MW (Int32.ofNat n) (Int32.ofNat vs) wo un h (boX 0 4) ta tr ro ot Bm bk) (some (.long (smG n (fun i s => emM (Bm (bkM 0 4 i) i) k s) ro s))) (MW (Int32.ofNat n) (Int32.ofNat vs) wo un h (boX 0 4) ta tr ro ot Bm bk) := m_sumG hn k s hs (m_emi_0_4 k hk)
theorem m_ent_0_5 {n vs : Nat} {wo un h : Int64} {ta tr ro ot : Nat → Int64} {Bm : Nat → Nat → Nat → Int32} {bk : Nat → Nat → Int32} (hn : n ≤ 4) (j i : Nat) (hj : j < 4) (hi : i < 4) : KX3_entryOf l D ca ad [.ref 0, .int (boX 0 5 i), .int (Int32.ofNat j), .int (Int32.ofNat i)] (MW (Int32.ofNat n) (Int32.ofNat vs) wo un h (boX 0 5) ta tr ro ot Bm bk) (some (.int (ceM n (Bm (bkM 0 5 i)) i j))) (MW (Int32.ofNat n) (Int32.ofNat vs) wo un h (boX 0 5) ta tr ro ot Bm bk) := by
  match j, hj, i, hi with
  | 0, _, 0, _ => exact m_entryOf_5_0_0 hn
  | 0, _, 1, _ => exact m_entryOf_5_0_1 hn
  | 0, _, 2, _ => exact m_entryOf_5_0_2 hn
  | 0, _, 3, _ => exact m_entryOf_5_0_3 hn
  | 1, _, 0, _ => exact m_entryOf_5_1_0 hn
  | 1, _, 1, _ => exact m_entryOf_5_1_1 hn
  | 1, _, 2, _ => exact m_entryOf_5_1_2 hn
  | 1, _, 3, _ => exact m_entryOf_5_1_3 hn
  | 2, _, 0, _ => exact m_entryOf_5_2_0 hn
  | 2, _, 1, _ => exact m_entryOf_5_2_1 hn
  | 2, _, 2, _ => exact m_entryOf_5_2_2 hn
  | 2, _, 3, _ => exact m_entryOf_5_2_3 hn
  | 3, _, 0, _ => exact m_entryOf_5_3_0 hn
  | 3, _, 1, _ => exact m_entryOf_5_3_1 hn
  | 3, _, 2, _ => exact m_entryOf_5_3_2 hn
  | 3, _, 3, _ => exact m_entryOf_5_3_3 hn
theorem m_lay_0_5 {n vs : Nat} {wo un h : Int64} {ta tr ro ot : Nat → Int64} {Bm : Nat → Nat → Nat → Int32} {bk : Nat → Nat → Int32} (hn : n ≤ 4) : KX3_lay l D ca ad [.ref 0] (MW (Int32.ofNat n) (Int32.ofNat vs) wo un h (boX 0 5) ta tr ro ot Bm bk) none (MW (Int32.ofNat n) (Int32.ofNat vs) (dtM (TnM n Bm 0 5)) un h (boX 0 5) (TnM n Bm 0 5) (TnM n Bm 0 5) ro ot Bm bk) := m_layG hn (e := fun j i => ceM n (Bm (bkM 0 5 i)) i j) (fun _ j i hj hi => m_ent_0_5 hn j i hj hi)
theorem m_emi_0_5 {n vs : Nat} {wo un h : Int64} {ta tr ro ot : Nat → Int64} {Bm : Nat → Nat → Nat → Int32} {bk : Nat → Nat → Int32} (k : Nat) (hk : k < 3) (i s : Nat) (hi : i < 4) (hs : s < 3) : KX3_emission l D ca ad [.ref 0, .int (Int32.ofNat i), .int (Int32.ofNat k), .int (Int32.ofNat s)] (MW (Int32.ofNat n) (Int32.ofNat vs) wo un h (boX 0 5) ta tr ro ot Bm bk) (some (.long (emM (Bm (bkM 0 5 i) i) k s))) (MW (Int32.ofNat n) (Int32.ofNat vs) wo un h (boX 0 5) ta tr ro ot Bm bk) := by
  match i, hi with
  | 0, _ => exact m_em_5_0 (bo := boX 0 5) k s hk hs
  | 1, _ => exact m_em_5_1 (bo := boX 0 5) k s hk hs
  | 2, _ => exact m_em_5_2 (bo := boX 0 5) k s hk hs
  | 3, _ => exact m_em_5_3 (bo := boX 0 5) k s hk hs
theorem m_sum_0_5 {n vs : Nat} {wo un h : Int64} {ta tr ro ot : Nat → Int64} {Bm : Nat → Nat → Nat → Int32} {bk : Nat → Nat → Int32} (hn : n ≤ 4) (k s : Nat) (hk : k < 3) (hs : s < 3) : KX3_sum l D ca ad [.ref 0, .int (Int32.ofNat k), .int (Int32.ofNat s)] (MW (Int32.ofNat n) (Int32.ofNat vs) wo un h (boX 0 5) ta tr ro ot Bm bk) (some (.long (smG n (fun i s => emM (Bm (bkM 0 5 i) i) k s) ro s))) (MW (Int32.ofNat n) (Int32.ofNat vs) wo un h (boX 0 5) ta tr ro ot Bm bk) := m_sumG hn k s hs (m_emi_0_5 k hk)
theorem m_ent_1_0 {n vs : Nat} {wo un h : Int64} {ta tr ro ot : Nat → Int64} {Bm : Nat → Nat → Nat → Int32} {bk : Nat → Nat → Int32} (hn : n ≤ 4) (j i : Nat) (hj : j < 4) (hi : i < 4) : KX3_entryOf l D ca ad [.ref 0, .int (boX 1 0 i), .int (Int32.ofNat j), .int (Int32.ofNat i)] (MW (Int32.ofNat n) (Int32.ofNat vs) wo un h (boX 1 0) ta tr ro ot Bm bk) (some (.int (ceM n (Bm (bkM 1 0 i)) i j))) (MW (Int32.ofNat n) (Int32.ofNat vs) wo un h (boX 1 0) ta tr ro ot Bm bk) := by
  match j, hj, i, hi with
  | 0, _, 0, _ => exact m_entryOf_6_0_0 hn
  | 0, _, 1, _ => exact m_entryOf_0_0_1 hn
  | 0, _, 2, _ => exact m_entryOf_0_0_2 hn
  | 0, _, 3, _ => exact m_entryOf_0_0_3 hn
  | 1, _, 0, _ => exact m_entryOf_6_1_0 hn
  | 1, _, 1, _ => exact m_entryOf_0_1_1 hn
  | 1, _, 2, _ => exact m_entryOf_0_1_2 hn
  | 1, _, 3, _ => exact m_entryOf_0_1_3 hn
  | 2, _, 0, _ => exact m_entryOf_6_2_0 hn
  | 2, _, 1, _ => exact m_entryOf_0_2_1 hn
  | 2, _, 2, _ => exact m_entryOf_0_2_2 hn
  | 2, _, 3, _ => exact m_entryOf_0_2_3 hn
  | 3, _, 0, _ => exact m_entryOf_6_3_0 hn
  | 3, _, 1, _ => exact m_entryOf_0_3_1 hn
  | 3, _, 2, _ => exact m_entryOf_0_3_2 hn
  | 3, _, 3, _ => exact m_entryOf_0_3_3 hn
theorem m_lay_1_0 {n vs : Nat} {wo un h : Int64} {ta tr ro ot : Nat → Int64} {Bm : Nat → Nat → Nat → Int32} {bk : Nat → Nat → Int32} (hn : n ≤ 4) : KX3_lay l D ca ad [.ref 0] (MW (Int32.ofNat n) (Int32.ofNat vs) wo un h (boX 1 0) ta tr ro ot Bm bk) none (MW (Int32.ofNat n) (Int32.ofNat vs) (dtM (TnM n Bm 1 0)) un h (boX 1 0) (TnM n Bm 1 0) (TnM n Bm 1 0) ro ot Bm bk) := m_layG hn (e := fun j i => ceM n (Bm (bkM 1 0 i)) i j) (fun _ j i hj hi => m_ent_1_0 hn j i hj hi)
theorem m_emi_1_0 {n vs : Nat} {wo un h : Int64} {ta tr ro ot : Nat → Int64} {Bm : Nat → Nat → Nat → Int32} {bk : Nat → Nat → Int32} (k : Nat) (hk : k < 3) (i s : Nat) (hi : i < 4) (hs : s < 3) : KX3_emission l D ca ad [.ref 0, .int (Int32.ofNat i), .int (Int32.ofNat k), .int (Int32.ofNat s)] (MW (Int32.ofNat n) (Int32.ofNat vs) wo un h (boX 1 0) ta tr ro ot Bm bk) (some (.long (emM (Bm (bkM 1 0 i) i) k s))) (MW (Int32.ofNat n) (Int32.ofNat vs) wo un h (boX 1 0) ta tr ro ot Bm bk) := by
  match i, hi with
  | 0, _ => exact m_em_6_0 (bo := boX 1 0) k s hk hs
  | 1, _ => exact m_em_0_1 (bo := boX 1 0) k s hk hs
  | 2, _ => exact m_em_0_2 (bo := boX 1 0) k s hk hs
  | 3, _ => exact m_em_0_3 (bo := boX 1 0) k s hk hs
theorem m_sum_1_0 {n vs : Nat} {wo un h : Int64} {ta tr ro ot : Nat → Int64} {Bm : Nat → Nat → Nat → Int32} {bk : Nat → Nat → Int32} (hn : n ≤ 4) (k s : Nat) (hk : k < 3) (hs : s < 3) : KX3_sum l D ca ad [.ref 0, .int (Int32.ofNat k), .int (Int32.ofNat s)] (MW (Int32.ofNat n) (Int32.ofNat vs) wo un h (boX 1 0) ta tr ro ot Bm bk) (some (.long (smG n (fun i s => emM (Bm (bkM 1 0 i) i) k s) ro s))) (MW (Int32.ofNat n) (Int32.ofNat vs) wo un h (boX 1 0) ta tr ro ot Bm bk) := m_sumG hn k s hs (m_emi_1_0 k hk)
theorem m_ent_1_1 {n vs : Nat} {wo un h : Int64} {ta tr ro ot : Nat → Int64} {Bm : Nat → Nat → Nat → Int32} {bk : Nat → Nat → Int32} (hn : n ≤ 4) (j i : Nat) (hj : j < 4) (hi : i < 4) : KX3_entryOf l D ca ad [.ref 0, .int (boX 1 1 i), .int (Int32.ofNat j), .int (Int32.ofNat i)] (MW (Int32.ofNat n) (Int32.ofNat vs) wo un h (boX 1 1) ta tr ro ot Bm bk) (some (.int (ceM n (Bm (bkM 1 1 i)) i j))) (MW (Int32.ofNat n) (Int32.ofNat vs) wo un h (boX 1 1) ta tr ro ot Bm bk) := by
  match j, hj, i, hi with
  | 0, _, 0, _ => exact m_entryOf_6_0_0 hn
  | 0, _, 1, _ => exact m_entryOf_1_0_1 hn
  | 0, _, 2, _ => exact m_entryOf_1_0_2 hn
  | 0, _, 3, _ => exact m_entryOf_1_0_3 hn
  | 1, _, 0, _ => exact m_entryOf_6_1_0 hn
  | 1, _, 1, _ => exact m_entryOf_1_1_1 hn
  | 1, _, 2, _ => exact m_entryOf_1_1_2 hn
  | 1, _, 3, _ => exact m_entryOf_1_1_3 hn
  | 2, _, 0, _ => exact m_entryOf_6_2_0 hn
  | 2, _, 1, _ => exact m_entryOf_1_2_1 hn
  | 2, _, 2, _ => exact m_entryOf_1_2_2 hn
  | 2, _, 3, _ => exact m_entryOf_1_2_3 hn
  | 3, _, 0, _ => exact m_entryOf_6_3_0 hn
  | 3, _, 1, _ => exact m_entryOf_1_3_1 hn
  | 3, _, 2, _ => exact m_entryOf_1_3_2 hn
  | 3, _, 3, _ => exact m_entryOf_1_3_3 hn
theorem m_lay_1_1 {n vs : Nat} {wo un h : Int64} {ta tr ro ot : Nat → Int64} {Bm : Nat → Nat → Nat → Int32} {bk : Nat → Nat → Int32} (hn : n ≤ 4) : KX3_lay l D ca ad [.ref 0] (MW (Int32.ofNat n) (Int32.ofNat vs) wo un h (boX 1 1) ta tr ro ot Bm bk) none (MW (Int32.ofNat n) (Int32.ofNat vs) (dtM (TnM n Bm 1 1)) un h (boX 1 1) (TnM n Bm 1 1) (TnM n Bm 1 1) ro ot Bm bk) := m_layG hn (e := fun j i => ceM n (Bm (bkM 1 1 i)) i j) (fun _ j i hj hi => m_ent_1_1 hn j i hj hi)
theorem m_emi_1_1 {n vs : Nat} {wo un h : Int64} {ta tr ro ot : Nat → Int64} {Bm : Nat → Nat → Nat → Int32} {bk : Nat → Nat → Int32} (k : Nat) (hk : k < 3) (i s : Nat) (hi : i < 4) (hs : s < 3) : KX3_emission l D ca ad [.ref 0, .int (Int32.ofNat i), .int (Int32.ofNat k), .int (Int32.ofNat s)] (MW (Int32.ofNat n) (Int32.ofNat vs) wo un h (boX 1 1) ta tr ro ot Bm bk) (some (.long (emM (Bm (bkM 1 1 i) i) k s))) (MW (Int32.ofNat n) (Int32.ofNat vs) wo un h (boX 1 1) ta tr ro ot Bm bk) := by
  match i, hi with
  | 0, _ => exact m_em_6_0 (bo := boX 1 1) k s hk hs
  | 1, _ => exact m_em_1_1 (bo := boX 1 1) k s hk hs
  | 2, _ => exact m_em_1_2 (bo := boX 1 1) k s hk hs
  | 3, _ => exact m_em_1_3 (bo := boX 1 1) k s hk hs
theorem m_sum_1_1 {n vs : Nat} {wo un h : Int64} {ta tr ro ot : Nat → Int64} {Bm : Nat → Nat → Nat → Int32} {bk : Nat → Nat → Int32} (hn : n ≤ 4) (k s : Nat) (hk : k < 3) (hs : s < 3) : KX3_sum l D ca ad [.ref 0, .int (Int32.ofNat k), .int (Int32.ofNat s)] (MW (Int32.ofNat n) (Int32.ofNat vs) wo un h (boX 1 1) ta tr ro ot Bm bk) (some (.long (smG n (fun i s => emM (Bm (bkM 1 1 i) i) k s) ro s))) (MW (Int32.ofNat n) (Int32.ofNat vs) wo un h (boX 1 1) ta tr ro ot Bm bk) := m_sumG hn k s hs (m_emi_1_1 k hk)
theorem m_ent_1_2 {n vs : Nat} {wo un h : Int64} {ta tr ro ot : Nat → Int64} {Bm : Nat → Nat → Nat → Int32} {bk : Nat → Nat → Int32} (hn : n ≤ 4) (j i : Nat) (hj : j < 4) (hi : i < 4) : KX3_entryOf l D ca ad [.ref 0, .int (boX 1 2 i), .int (Int32.ofNat j), .int (Int32.ofNat i)] (MW (Int32.ofNat n) (Int32.ofNat vs) wo un h (boX 1 2) ta tr ro ot Bm bk) (some (.int (ceM n (Bm (bkM 1 2 i)) i j))) (MW (Int32.ofNat n) (Int32.ofNat vs) wo un h (boX 1 2) ta tr ro ot Bm bk) := by
  match j, hj, i, hi with
  | 0, _, 0, _ => exact m_entryOf_6_0_0 hn
  | 0, _, 1, _ => exact m_entryOf_2_0_1 hn
  | 0, _, 2, _ => exact m_entryOf_2_0_2 hn
  | 0, _, 3, _ => exact m_entryOf_2_0_3 hn
  | 1, _, 0, _ => exact m_entryOf_6_1_0 hn
  | 1, _, 1, _ => exact m_entryOf_2_1_1 hn
  | 1, _, 2, _ => exact m_entryOf_2_1_2 hn
  | 1, _, 3, _ => exact m_entryOf_2_1_3 hn
  | 2, _, 0, _ => exact m_entryOf_6_2_0 hn
  | 2, _, 1, _ => exact m_entryOf_2_2_1 hn
  | 2, _, 2, _ => exact m_entryOf_2_2_2 hn
  | 2, _, 3, _ => exact m_entryOf_2_2_3 hn
  | 3, _, 0, _ => exact m_entryOf_6_3_0 hn
  | 3, _, 1, _ => exact m_entryOf_2_3_1 hn
  | 3, _, 2, _ => exact m_entryOf_2_3_2 hn
  | 3, _, 3, _ => exact m_entryOf_2_3_3 hn
theorem m_lay_1_2 {n vs : Nat} {wo un h : Int64} {ta tr ro ot : Nat → Int64} {Bm : Nat → Nat → Nat → Int32} {bk : Nat → Nat → Int32} (hn : n ≤ 4) : KX3_lay l D ca ad [.ref 0] (MW (Int32.ofNat n) (Int32.ofNat vs) wo un h (boX 1 2) ta tr ro ot Bm bk) none (MW (Int32.ofNat n) (Int32.ofNat vs) (dtM (TnM n Bm 1 2)) un h (boX 1 2) (TnM n Bm 1 2) (TnM n Bm 1 2) ro ot Bm bk) := m_layG hn (e := fun j i => ceM n (Bm (bkM 1 2 i)) i j) (fun _ j i hj hi => m_ent_1_2 hn j i hj hi)
theorem m_emi_1_2 {n vs : Nat} {wo un h : Int64} {ta tr ro ot : Nat → Int64} {Bm : Nat → Nat → Nat → Int32} {bk : Nat → Nat → Int32} (k : Nat) (hk : k < 3) (i s : Nat) (hi : i < 4) (hs : s < 3) : KX3_emission l D ca ad [.ref 0, .int (Int32.ofNat i), .int (Int32.ofNat k), .int (Int32.ofNat s)] (MW (Int32.ofNat n) (Int32.ofNat vs) wo un h (boX 1 2) ta tr ro ot Bm bk) (some (.long (emM (Bm (bkM 1 2 i) i) k s))) (MW (Int32.ofNat n) (Int32.ofNat vs) wo un h (boX 1 2) ta tr ro ot Bm bk) := by
  match i, hi with
  | 0, _ => exact m_em_6_0 (bo := boX 1 2) k s hk hs
  | 1, _ => exact m_em_2_1 (bo := boX 1 2) k s hk hs
  | 2, _ => exact m_em_2_2 (bo := boX 1 2) k s hk hs
  | 3, _ => exact m_em_2_3 (bo := boX 1 2) k s hk hs
theorem m_sum_1_2 {n vs : Nat} {wo un h : Int64} {ta tr ro ot : Nat → Int64} {Bm : Nat → Nat → Nat → Int32} {bk : Nat → Nat → Int32} (hn : n ≤ 4) (k s : Nat) (hk : k < 3) (hs : s < 3) : KX3_sum l D ca ad [.ref 0, .int (Int32.ofNat k), .int (Int32.ofNat s)] (MW (Int32.ofNat n) (Int32.ofNat vs) wo un h (boX 1 2) ta tr ro ot Bm bk) (some (.long (smG n (fun i s => emM (Bm (bkM 1 2 i) i) k s) ro s))) (MW (Int32.ofNat n) (Int32.ofNat vs) wo un h (boX 1 2) ta tr ro ot Bm bk) := m_sumG hn k s hs (m_emi_1_2 k hk)
theorem m_ent_1_3 {n vs : Nat} {wo un h : Int64} {ta tr ro ot : Nat → Int64} {Bm : Nat → Nat → Nat → Int32} {bk : Nat → Nat → Int32} (hn : n ≤ 4) (j i : Nat) (hj : j < 4) (hi : i < 4) : KX3_entryOf l D ca ad [.ref 0, .int (boX 1 3 i), .int (Int32.ofNat j), .int (Int32.ofNat i)] (MW (Int32.ofNat n) (Int32.ofNat vs) wo un h (boX 1 3) ta tr ro ot Bm bk) (some (.int (ceM n (Bm (bkM 1 3 i)) i j))) (MW (Int32.ofNat n) (Int32.ofNat vs) wo un h (boX 1 3) ta tr ro ot Bm bk) := by
  match j, hj, i, hi with
  | 0, _, 0, _ => exact m_entryOf_6_0_0 hn
  | 0, _, 1, _ => exact m_entryOf_3_0_1 hn
  | 0, _, 2, _ => exact m_entryOf_3_0_2 hn
  | 0, _, 3, _ => exact m_entryOf_3_0_3 hn
  | 1, _, 0, _ => exact m_entryOf_6_1_0 hn
  | 1, _, 1, _ => exact m_entryOf_3_1_1 hn
  | 1, _, 2, _ => exact m_entryOf_3_1_2 hn
  | 1, _, 3, _ => exact m_entryOf_3_1_3 hn
  | 2, _, 0, _ => exact m_entryOf_6_2_0 hn
  | 2, _, 1, _ => exact m_entryOf_3_2_1 hn
  | 2, _, 2, _ => exact m_entryOf_3_2_2 hn
  | 2, _, 3, _ => exact m_entryOf_3_2_3 hn
  | 3, _, 0, _ => exact m_entryOf_6_3_0 hn
  | 3, _, 1, _ => exact m_entryOf_3_3_1 hn
  | 3, _, 2, _ => exact m_entryOf_3_3_2 hn
  | 3, _, 3, _ => exact m_entryOf_3_3_3 hn
theorem m_lay_1_3 {n vs : Nat} {wo un h : Int64} {ta tr ro ot : Nat → Int64} {Bm : Nat → Nat → Nat → Int32} {bk : Nat → Nat → Int32} (hn : n ≤ 4) : KX3_lay l D ca ad [.ref 0] (MW (Int32.ofNat n) (Int32.ofNat vs) wo un h (boX 1 3) ta tr ro ot Bm bk) none (MW (Int32.ofNat n) (Int32.ofNat vs) (dtM (TnM n Bm 1 3)) un h (boX 1 3) (TnM n Bm 1 3) (TnM n Bm 1 3) ro ot Bm bk) := m_layG hn (e := fun j i => ceM n (Bm (bkM 1 3 i)) i j) (fun _ j i hj hi => m_ent_1_3 hn j i hj hi)
theorem m_emi_1_3 {n vs : Nat} {wo un h : Int64} {ta tr ro ot : Nat → Int64} {Bm : Nat → Nat → Nat → Int32} {bk : Nat → Nat → Int32} (k : Nat) (hk : k < 3) (i s : Nat) (hi : i < 4) (hs : s < 3) : KX3_emission l D ca ad [.ref 0, .int (Int32.ofNat i), .int (Int32.ofNat k), .int (Int32.ofNat s)] (MW (Int32.ofNat n) (Int32.ofNat vs) wo un h (boX 1 3) ta tr ro ot Bm bk) (some (.long (emM (Bm (bkM 1 3 i) i) k s))) (MW (Int32.ofNat n) (Int32.ofNat vs) wo un h (boX 1 3) ta tr ro ot Bm bk) := by
  match i, hi with
  | 0, _ => exact m_em_6_0 (bo := boX 1 3) k s hk hs
  | 1, _ => exact m_em_3_1 (bo := boX 1 3) k s hk hs
  | 2, _ => exact m_em_3_2 (bo := boX 1 3) k s hk hs
  | 3, _ => exact m_em_3_3 (bo := boX 1 3) k s hk hs
theorem m_sum_1_3 {n vs : Nat} {wo un h : Int64} {ta tr ro ot : Nat → Int64} {Bm : Nat → Nat → Nat → Int32} {bk : Nat → Nat → Int32} (hn : n ≤ 4) (k s : Nat) (hk : k < 3) (hs : s < 3) : KX3_sum l D ca ad [.ref 0, .int (Int32.ofNat k), .int (Int32.ofNat s)] (MW (Int32.ofNat n) (Int32.ofNat vs) wo un h (boX 1 3) ta tr ro ot Bm bk) (some (.long (smG n (fun i s => emM (Bm (bkM 1 3 i) i) k s) ro s))) (MW (Int32.ofNat n) (Int32.ofNat vs) wo un h (boX 1 3) ta tr ro ot Bm bk) := m_sumG hn k s hs (m_emi_1_3 k hk)
theorem m_ent_1_4 {n vs : Nat} {wo un h : Int64} {ta tr ro ot : Nat → Int64} {Bm : Nat → Nat → Nat → Int32} {bk : Nat → Nat → Int32} (hn : n ≤ 4) (j i : Nat) (hj : j < 4) (hi : i < 4) : KX3_entryOf l D ca ad [.ref 0, .int (boX 1 4 i), .int (Int32.ofNat j), .int (Int32.ofNat i)] (MW (Int32.ofNat n) (Int32.ofNat vs) wo un h (boX 1 4) ta tr ro ot Bm bk) (some (.int (ceM n (Bm (bkM 1 4 i)) i j))) (MW (Int32.ofNat n) (Int32.ofNat vs) wo un h (boX 1 4) ta tr ro ot Bm bk) := by
  match j, hj, i, hi with
  | 0, _, 0, _ => exact m_entryOf_6_0_0 hn
  | 0, _, 1, _ => exact m_entryOf_4_0_1 hn
  | 0, _, 2, _ => exact m_entryOf_4_0_2 hn
  | 0, _, 3, _ => exact m_entryOf_4_0_3 hn
  | 1, _, 0, _ => exact m_entryOf_6_1_0 hn
  | 1, _, 1, _ => exact m_entryOf_4_1_1 hn
  | 1, _, 2, _ => exact m_entryOf_4_1_2 hn
  | 1, _, 3, _ => exact m_entryOf_4_1_3 hn
  | 2, _, 0, _ => exact m_entryOf_6_2_0 hn
  | 2, _, 1, _ => exact m_entryOf_4_2_1 hn
  | 2, _, 2, _ => exact m_entryOf_4_2_2 hn
  | 2, _, 3, _ => exact m_entryOf_4_2_3 hn
  | 3, _, 0, _ => exact m_entryOf_6_3_0 hn
  | 3, _, 1, _ => exact m_entryOf_4_3_1 hn
  | 3, _, 2, _ => exact m_entryOf_4_3_2 hn
  | 3, _, 3, _ => exact m_entryOf_4_3_3 hn
theorem m_lay_1_4 {n vs : Nat} {wo un h : Int64} {ta tr ro ot : Nat → Int64} {Bm : Nat → Nat → Nat → Int32} {bk : Nat → Nat → Int32} (hn : n ≤ 4) : KX3_lay l D ca ad [.ref 0] (MW (Int32.ofNat n) (Int32.ofNat vs) wo un h (boX 1 4) ta tr ro ot Bm bk) none (MW (Int32.ofNat n) (Int32.ofNat vs) (dtM (TnM n Bm 1 4)) un h (boX 1 4) (TnM n Bm 1 4) (TnM n Bm 1 4) ro ot Bm bk) := m_layG hn (e := fun j i => ceM n (Bm (bkM 1 4 i)) i j) (fun _ j i hj hi => m_ent_1_4 hn j i hj hi)
theorem m_emi_1_4 {n vs : Nat} {wo un h : Int64} {ta tr ro ot : Nat → Int64} {Bm : Nat → Nat → Nat → Int32} {bk : Nat → Nat → Int32} (k : Nat) (hk : k < 3) (i s : Nat) (hi : i < 4) (hs : s < 3) : KX3_emission l D ca ad [.ref 0, .int (Int32.ofNat i), .int (Int32.ofNat k), .int (Int32.ofNat s)] (MW (Int32.ofNat n) (Int32.ofNat vs) wo un h (boX 1 4) ta tr ro ot Bm bk) (some (.long (emM (Bm (bkM 1 4 i) i) k s))) (MW (Int32.ofNat n) (Int32.ofNat vs) wo un h (boX 1 4) ta tr ro ot Bm bk) := by
  match i, hi with
  | 0, _ => exact m_em_6_0 (bo := boX 1 4) k s hk hs
  | 1, _ => exact m_em_4_1 (bo := boX 1 4) k s hk hs
  | 2, _ => exact m_em_4_2 (bo := boX 1 4) k s hk hs
  | 3, _ => exact m_em_4_3 (bo := boX 1 4) k s hk hs
theorem m_sum_1_4 {n vs : Nat} {wo un h : Int64} {ta tr ro ot : Nat → Int64} {Bm : Nat → Nat → Nat → Int32} {bk : Nat → Nat → Int32} (hn : n ≤ 4) (k s : Nat) (hk : k < 3) (hs : s < 3) : KX3_sum l D ca ad [.ref 0, .int (Int32.ofNat k), .int (Int32.ofNat s)] (MW (Int32.ofNat n) (Int32.ofNat vs) wo un h (boX 1 4) ta tr ro ot Bm bk) (some (.long (smG n (fun i s => emM (Bm (bkM 1 4 i) i) k s) ro s))) (MW (Int32.ofNat n) (Int32.ofNat vs) wo un h (boX 1 4) ta tr ro ot Bm bk) := m_sumG hn k s hs (m_emi_1_4 k hk)
theorem m_ent_1_5 {n vs : Nat} {wo un h : Int64} {ta tr ro ot : Nat → Int64} {Bm : Nat → Nat → Nat → Int32} {bk : Nat → Nat → Int32} (hn : n ≤ 4) (j i : Nat) (hj : j < 4) (hi : i < 4) : KX3_entryOf l D ca ad [.ref 0, .int (boX 1 5 i), .int (Int32.ofNat j), .int (Int32.ofNat i)] (MW (Int32.ofNat n) (Int32.ofNat vs) wo un h (boX 1 5) ta tr ro ot Bm bk) (some (.int (ceM n (Bm (bkM 1 5 i)) i j))) (MW (Int32.ofNat n) (Int32.ofNat vs) wo un h (boX 1 5) ta tr ro ot Bm bk) := by
  match j, hj, i, hi with
  | 0, _, 0, _ => exact m_entryOf_6_0_0 hn
  | 0, _, 1, _ => exact m_entryOf_5_0_1 hn
  | 0, _, 2, _ => exact m_entryOf_5_0_2 hn
  | 0, _, 3, _ => exact m_entryOf_5_0_3 hn
  | 1, _, 0, _ => exact m_entryOf_6_1_0 hn
  | 1, _, 1, _ => exact m_entryOf_5_1_1 hn
  | 1, _, 2, _ => exact m_entryOf_5_1_2 hn
  | 1, _, 3, _ => exact m_entryOf_5_1_3 hn
  | 2, _, 0, _ => exact m_entryOf_6_2_0 hn
  | 2, _, 1, _ => exact m_entryOf_5_2_1 hn
  | 2, _, 2, _ => exact m_entryOf_5_2_2 hn
  | 2, _, 3, _ => exact m_entryOf_5_2_3 hn
  | 3, _, 0, _ => exact m_entryOf_6_3_0 hn
  | 3, _, 1, _ => exact m_entryOf_5_3_1 hn
  | 3, _, 2, _ => exact m_entryOf_5_3_2 hn
  | 3, _, 3, _ => exact m_entryOf_5_3_3 hn
theorem m_lay_1_5 {n vs : Nat} {wo un h : Int64} {ta tr ro ot : Nat → Int64} {Bm : Nat → Nat → Nat → Int32} {bk : Nat → Nat → Int32} (hn : n ≤ 4) : KX3_lay l D ca ad [.ref 0] (MW (Int32.ofNat n) (Int32.ofNat vs) wo un h (boX 1 5) ta tr ro ot Bm bk) none (MW (Int32.ofNat n) (Int32.ofNat vs) (dtM (TnM n Bm 1 5)) un h (boX 1 5) (TnM n Bm 1 5) (TnM n Bm 1 5) ro ot Bm bk) := m_layG hn (e := fun j i => ceM n (Bm (bkM 1 5 i)) i j) (fun _ j i hj hi => m_ent_1_5 hn j i hj hi)
theorem m_emi_1_5 {n vs : Nat} {wo un h : Int64} {ta tr ro ot : Nat → Int64} {Bm : Nat → Nat → Nat → Int32} {bk : Nat → Nat → Int32} (k : Nat) (hk : k < 3) (i s : Nat) (hi : i < 4) (hs : s < 3) : KX3_emission l D ca ad [.ref 0, .int (Int32.ofNat i), .int (Int32.ofNat k), .int (Int32.ofNat s)] (MW (Int32.ofNat n) (Int32.ofNat vs) wo un h (boX 1 5) ta tr ro ot Bm bk) (some (.long (emM (Bm (bkM 1 5 i) i) k s))) (MW (Int32.ofNat n) (Int32.ofNat vs) wo un h (boX 1 5) ta tr ro ot Bm bk) := by
  match i, hi with
  | 0, _ => exact m_em_6_0 (bo := boX 1 5) k s hk hs
  | 1, _ => exact m_em_5_1 (bo := boX 1 5) k s hk hs
  | 2, _ => exact m_em_5_2 (bo := boX 1 5) k s hk hs
  | 3, _ => exact m_em_5_3 (bo := boX 1 5) k s hk hs
theorem m_sum_1_5 {n vs : Nat} {wo un h : Int64} {ta tr ro ot : Nat → Int64} {Bm : Nat → Nat → Nat → Int32} {bk : Nat → Nat → Int32} (hn : n ≤ 4) (k s : Nat) (hk : k < 3) (hs : s < 3) : KX3_sum l D ca ad [.ref 0, .int (Int32.ofNat k), .int (Int32.ofNat s)] (MW (Int32.ofNat n) (Int32.ofNat vs) wo un h (boX 1 5) ta tr ro ot Bm bk) (some (.long (smG n (fun i s => emM (Bm (bkM 1 5 i) i) k s) ro s))) (MW (Int32.ofNat n) (Int32.ofNat vs) wo un h (boX 1 5) ta tr ro ot Bm bk) := m_sumG hn k s hs (m_emi_1_5 k hk)
theorem m_ent_2_0 {n vs : Nat} {wo un h : Int64} {ta tr ro ot : Nat → Int64} {Bm : Nat → Nat → Nat → Int32} {bk : Nat → Nat → Int32} (hn : n ≤ 4) (j i : Nat) (hj : j < 4) (hi : i < 4) : KX3_entryOf l D ca ad [.ref 0, .int (boX 2 0 i), .int (Int32.ofNat j), .int (Int32.ofNat i)] (MW (Int32.ofNat n) (Int32.ofNat vs) wo un h (boX 2 0) ta tr ro ot Bm bk) (some (.int (ceM n (Bm (bkM 2 0 i)) i j))) (MW (Int32.ofNat n) (Int32.ofNat vs) wo un h (boX 2 0) ta tr ro ot Bm bk) := by
  match j, hj, i, hi with
  | 0, _, 0, _ => exact m_entryOf_6_0_0 hn
  | 0, _, 1, _ => exact m_entryOf_6_0_1 hn
  | 0, _, 2, _ => exact m_entryOf_0_0_2 hn
  | 0, _, 3, _ => exact m_entryOf_0_0_3 hn
  | 1, _, 0, _ => exact m_entryOf_6_1_0 hn
  | 1, _, 1, _ => exact m_entryOf_6_1_1 hn
  | 1, _, 2, _ => exact m_entryOf_0_1_2 hn
  | 1, _, 3, _ => exact m_entryOf_0_1_3 hn
  | 2, _, 0, _ => exact m_entryOf_6_2_0 hn
  | 2, _, 1, _ => exact m_entryOf_6_2_1 hn
  | 2, _, 2, _ => exact m_entryOf_0_2_2 hn
  | 2, _, 3, _ => exact m_entryOf_0_2_3 hn
  | 3, _, 0, _ => exact m_entryOf_6_3_0 hn
  | 3, _, 1, _ => exact m_entryOf_6_3_1 hn
  | 3, _, 2, _ => exact m_entryOf_0_3_2 hn
  | 3, _, 3, _ => exact m_entryOf_0_3_3 hn
theorem m_lay_2_0 {n vs : Nat} {wo un h : Int64} {ta tr ro ot : Nat → Int64} {Bm : Nat → Nat → Nat → Int32} {bk : Nat → Nat → Int32} (hn : n ≤ 4) : KX3_lay l D ca ad [.ref 0] (MW (Int32.ofNat n) (Int32.ofNat vs) wo un h (boX 2 0) ta tr ro ot Bm bk) none (MW (Int32.ofNat n) (Int32.ofNat vs) (dtM (TnM n Bm 2 0)) un h (boX 2 0) (TnM n Bm 2 0) (TnM n Bm 2 0) ro ot Bm bk) := m_layG hn (e := fun j i => ceM n (Bm (bkM 2 0 i)) i j) (fun _ j i hj hi => m_ent_2_0 hn j i hj hi)
theorem m_emi_2_0 {n vs : Nat} {wo un h : Int64} {ta tr ro ot : Nat → Int64} {Bm : Nat → Nat → Nat → Int32} {bk : Nat → Nat → Int32} (k : Nat) (hk : k < 3) (i s : Nat) (hi : i < 4) (hs : s < 3) : KX3_emission l D ca ad [.ref 0, .int (Int32.ofNat i), .int (Int32.ofNat k), .int (Int32.ofNat s)] (MW (Int32.ofNat n) (Int32.ofNat vs) wo un h (boX 2 0) ta tr ro ot Bm bk) (some (.long (emM (Bm (bkM 2 0 i) i) k s))) (MW (Int32.ofNat n) (Int32.ofNat vs) wo un h (boX 2 0) ta tr ro ot Bm bk) := by
  match i, hi with
  | 0, _ => exact m_em_6_0 (bo := boX 2 0) k s hk hs
  | 1, _ => exact m_em_6_1 (bo := boX 2 0) k s hk hs
  | 2, _ => exact m_em_0_2 (bo := boX 2 0) k s hk hs
  | 3, _ => exact m_em_0_3 (bo := boX 2 0) k s hk hs
theorem m_sum_2_0 {n vs : Nat} {wo un h : Int64} {ta tr ro ot : Nat → Int64} {Bm : Nat → Nat → Nat → Int32} {bk : Nat → Nat → Int32} (hn : n ≤ 4) (k s : Nat) (hk : k < 3) (hs : s < 3) : KX3_sum l D ca ad [.ref 0, .int (Int32.ofNat k), .int (Int32.ofNat s)] (MW (Int32.ofNat n) (Int32.ofNat vs) wo un h (boX 2 0) ta tr ro ot Bm bk) (some (.long (smG n (fun i s => emM (Bm (bkM 2 0 i) i) k s) ro s))) (MW (Int32.ofNat n) (Int32.ofNat vs) wo un h (boX 2 0) ta tr ro ot Bm bk) := m_sumG hn k s hs (m_emi_2_0 k hk)
theorem m_ent_2_1 {n vs : Nat} {wo un h : Int64} {ta tr ro ot : Nat → Int64} {Bm : Nat → Nat → Nat → Int32} {bk : Nat → Nat → Int32} (hn : n ≤ 4) (j i : Nat) (hj : j < 4) (hi : i < 4) : KX3_entryOf l D ca ad [.ref 0, .int (boX 2 1 i), .int (Int32.ofNat j), .int (Int32.ofNat i)] (MW (Int32.ofNat n) (Int32.ofNat vs) wo un h (boX 2 1) ta tr ro ot Bm bk) (some (.int (ceM n (Bm (bkM 2 1 i)) i j))) (MW (Int32.ofNat n) (Int32.ofNat vs) wo un h (boX 2 1) ta tr ro ot Bm bk) := by
  match j, hj, i, hi with
  | 0, _, 0, _ => exact m_entryOf_6_0_0 hn
  | 0, _, 1, _ => exact m_entryOf_6_0_1 hn
  | 0, _, 2, _ => exact m_entryOf_1_0_2 hn
  | 0, _, 3, _ => exact m_entryOf_1_0_3 hn
  | 1, _, 0, _ => exact m_entryOf_6_1_0 hn
  | 1, _, 1, _ => exact m_entryOf_6_1_1 hn
  | 1, _, 2, _ => exact m_entryOf_1_1_2 hn
  | 1, _, 3, _ => exact m_entryOf_1_1_3 hn
  | 2, _, 0, _ => exact m_entryOf_6_2_0 hn
  | 2, _, 1, _ => exact m_entryOf_6_2_1 hn
  | 2, _, 2, _ => exact m_entryOf_1_2_2 hn
  | 2, _, 3, _ => exact m_entryOf_1_2_3 hn
  | 3, _, 0, _ => exact m_entryOf_6_3_0 hn
  | 3, _, 1, _ => exact m_entryOf_6_3_1 hn
  | 3, _, 2, _ => exact m_entryOf_1_3_2 hn
  | 3, _, 3, _ => exact m_entryOf_1_3_3 hn
theorem m_lay_2_1 {n vs : Nat} {wo un h : Int64} {ta tr ro ot : Nat → Int64} {Bm : Nat → Nat → Nat → Int32} {bk : Nat → Nat → Int32} (hn : n ≤ 4) : KX3_lay l D ca ad [.ref 0] (MW (Int32.ofNat n) (Int32.ofNat vs) wo un h (boX 2 1) ta tr ro ot Bm bk) none (MW (Int32.ofNat n) (Int32.ofNat vs) (dtM (TnM n Bm 2 1)) un h (boX 2 1) (TnM n Bm 2 1) (TnM n Bm 2 1) ro ot Bm bk) := m_layG hn (e := fun j i => ceM n (Bm (bkM 2 1 i)) i j) (fun _ j i hj hi => m_ent_2_1 hn j i hj hi)
theorem m_emi_2_1 {n vs : Nat} {wo un h : Int64} {ta tr ro ot : Nat → Int64} {Bm : Nat → Nat → Nat → Int32} {bk : Nat → Nat → Int32} (k : Nat) (hk : k < 3) (i s : Nat) (hi : i < 4) (hs : s < 3) : KX3_emission l D ca ad [.ref 0, .int (Int32.ofNat i), .int (Int32.ofNat k), .int (Int32.ofNat s)] (MW (Int32.ofNat n) (Int32.ofNat vs) wo un h (boX 2 1) ta tr ro ot Bm bk) (some (.long (emM (Bm (bkM 2 1 i) i) k s))) (MW (Int32.ofNat n) (Int32.ofNat vs) wo un h (boX 2 1) ta tr ro ot Bm bk) := by
  match i, hi with
  | 0, _ => exact m_em_6_0 (bo := boX 2 1) k s hk hs
  | 1, _ => exact m_em_6_1 (bo := boX 2 1) k s hk hs
  | 2, _ => exact m_em_1_2 (bo := boX 2 1) k s hk hs
  | 3, _ => exact m_em_1_3 (bo := boX 2 1) k s hk hs
theorem m_sum_2_1 {n vs : Nat} {wo un h : Int64} {ta tr ro ot : Nat → Int64} {Bm : Nat → Nat → Nat → Int32} {bk : Nat → Nat → Int32} (hn : n ≤ 4) (k s : Nat) (hk : k < 3) (hs : s < 3) : KX3_sum l D ca ad [.ref 0, .int (Int32.ofNat k), .int (Int32.ofNat s)] (MW (Int32.ofNat n) (Int32.ofNat vs) wo un h (boX 2 1) ta tr ro ot Bm bk) (some (.long (smG n (fun i s => emM (Bm (bkM 2 1 i) i) k s) ro s))) (MW (Int32.ofNat n) (Int32.ofNat vs) wo un h (boX 2 1) ta tr ro ot Bm bk) := m_sumG hn k s hs (m_emi_2_1 k hk)
theorem m_ent_2_2 {n vs : Nat} {wo un h : Int64} {ta tr ro ot : Nat → Int64} {Bm : Nat → Nat → Nat → Int32} {bk : Nat → Nat → Int32} (hn : n ≤ 4) (j i : Nat) (hj : j < 4) (hi : i < 4) : KX3_entryOf l D ca ad [.ref 0, .int (boX 2 2 i), .int (Int32.ofNat j), .int (Int32.ofNat i)] (MW (Int32.ofNat n) (Int32.ofNat vs) wo un h (boX 2 2) ta tr ro ot Bm bk) (some (.int (ceM n (Bm (bkM 2 2 i)) i j))) (MW (Int32.ofNat n) (Int32.ofNat vs) wo un h (boX 2 2) ta tr ro ot Bm bk) := by
  match j, hj, i, hi with
  | 0, _, 0, _ => exact m_entryOf_6_0_0 hn
  | 0, _, 1, _ => exact m_entryOf_6_0_1 hn
  | 0, _, 2, _ => exact m_entryOf_2_0_2 hn
  | 0, _, 3, _ => exact m_entryOf_2_0_3 hn
  | 1, _, 0, _ => exact m_entryOf_6_1_0 hn
  | 1, _, 1, _ => exact m_entryOf_6_1_1 hn
  | 1, _, 2, _ => exact m_entryOf_2_1_2 hn
  | 1, _, 3, _ => exact m_entryOf_2_1_3 hn
  | 2, _, 0, _ => exact m_entryOf_6_2_0 hn
  | 2, _, 1, _ => exact m_entryOf_6_2_1 hn
  | 2, _, 2, _ => exact m_entryOf_2_2_2 hn
  | 2, _, 3, _ => exact m_entryOf_2_2_3 hn
  | 3, _, 0, _ => exact m_entryOf_6_3_0 hn
  | 3, _, 1, _ => exact m_entryOf_6_3_1 hn
  | 3, _, 2, _ => exact m_entryOf_2_3_2 hn
  | 3, _, 3, _ => exact m_entryOf_2_3_3 hn
theorem m_lay_2_2 {n vs : Nat} {wo un h : Int64} {ta tr ro ot : Nat → Int64} {Bm : Nat → Nat → Nat → Int32} {bk : Nat → Nat → Int32} (hn : n ≤ 4) : KX3_lay l D ca ad [.ref 0] (MW (Int32.ofNat n) (Int32.ofNat vs) wo un h (boX 2 2) ta tr ro ot Bm bk) none (MW (Int32.ofNat n) (Int32.ofNat vs) (dtM (TnM n Bm 2 2)) un h (boX 2 2) (TnM n Bm 2 2) (TnM n Bm 2 2) ro ot Bm bk) := m_layG hn (e := fun j i => ceM n (Bm (bkM 2 2 i)) i j) (fun _ j i hj hi => m_ent_2_2 hn j i hj hi)
theorem m_emi_2_2 {n vs : Nat} {wo un h : Int64} {ta tr ro ot : Nat → Int64} {Bm : Nat → Nat → Nat → Int32} {bk : Nat → Nat → Int32} (k : Nat) (hk : k < 3) (i s : Nat) (hi : i < 4) (hs : s < 3) : KX3_emission l D ca ad [.ref 0, .int (Int32.ofNat i), .int (Int32.ofNat k), .int (Int32.ofNat s)] (MW (Int32.ofNat n) (Int32.ofNat vs) wo un h (boX 2 2) ta tr ro ot Bm bk) (some (.long (emM (Bm (bkM 2 2 i) i) k s))) (MW (Int32.ofNat n) (Int32.ofNat vs) wo un h (boX 2 2) ta tr ro ot Bm bk) := by
  match i, hi with
  | 0, _ => exact m_em_6_0 (bo := boX 2 2) k s hk hs
  | 1, _ => exact m_em_6_1 (bo := boX 2 2) k s hk hs
  | 2, _ => exact m_em_2_2 (bo := boX 2 2) k s hk hs
  | 3, _ => exact m_em_2_3 (bo := boX 2 2) k s hk hs
theorem m_sum_2_2 {n vs : Nat} {wo un h : Int64} {ta tr ro ot : Nat → Int64} {Bm : Nat → Nat → Nat → Int32} {bk : Nat → Nat → Int32} (hn : n ≤ 4) (k s : Nat) (hk : k < 3) (hs : s < 3) : KX3_sum l D ca ad [.ref 0, .int (Int32.ofNat k), .int (Int32.ofNat s)] (MW (Int32.ofNat n) (Int32.ofNat vs) wo un h (boX 2 2) ta tr ro ot Bm bk) (some (.long (smG n (fun i s => emM (Bm (bkM 2 2 i) i) k s) ro s))) (MW (Int32.ofNat n) (Int32.ofNat vs) wo un h (boX 2 2) ta tr ro ot Bm bk) := m_sumG hn k s hs (m_emi_2_2 k hk)
theorem m_ent_2_3 {n vs : Nat} {wo un h : Int64} {ta tr ro ot : Nat → Int64} {Bm : Nat → Nat → Nat → Int32} {bk : Nat → Nat → Int32} (hn : n ≤ 4) (j i : Nat) (hj : j < 4) (hi : i < 4) : KX3_entryOf l D ca ad [.ref 0, .int (boX 2 3 i), .int (Int32.ofNat j), .int (Int32.ofNat i)] (MW (Int32.ofNat n) (Int32.ofNat vs) wo un h (boX 2 3) ta tr ro ot Bm bk) (some (.int (ceM n (Bm (bkM 2 3 i)) i j))) (MW (Int32.ofNat n) (Int32.ofNat vs) wo un h (boX 2 3) ta tr ro ot Bm bk) := by
  match j, hj, i, hi with
  | 0, _, 0, _ => exact m_entryOf_6_0_0 hn
  | 0, _, 1, _ => exact m_entryOf_6_0_1 hn
  | 0, _, 2, _ => exact m_entryOf_3_0_2 hn
  | 0, _, 3, _ => exact m_entryOf_3_0_3 hn
  | 1, _, 0, _ => exact m_entryOf_6_1_0 hn
  | 1, _, 1, _ => exact m_entryOf_6_1_1 hn
  | 1, _, 2, _ => exact m_entryOf_3_1_2 hn
  | 1, _, 3, _ => exact m_entryOf_3_1_3 hn
  | 2, _, 0, _ => exact m_entryOf_6_2_0 hn
  | 2, _, 1, _ => exact m_entryOf_6_2_1 hn
  | 2, _, 2, _ => exact m_entryOf_3_2_2 hn
  | 2, _, 3, _ => exact m_entryOf_3_2_3 hn
  | 3, _, 0, _ => exact m_entryOf_6_3_0 hn
  | 3, _, 1, _ => exact m_entryOf_6_3_1 hn
  | 3, _, 2, _ => exact m_entryOf_3_3_2 hn
  | 3, _, 3, _ => exact m_entryOf_3_3_3 hn
theorem m_lay_2_3 {n vs : Nat} {wo un h : Int64} {ta tr ro ot : Nat → Int64} {Bm : Nat → Nat → Nat → Int32} {bk : Nat → Nat → Int32} (hn : n ≤ 4) : KX3_lay l D ca ad [.ref 0] (MW (Int32.ofNat n) (Int32.ofNat vs) wo un h (boX 2 3) ta tr ro ot Bm bk) none (MW (Int32.ofNat n) (Int32.ofNat vs) (dtM (TnM n Bm 2 3)) un h (boX 2 3) (TnM n Bm 2 3) (TnM n Bm 2 3) ro ot Bm bk) := m_layG hn (e := fun j i => ceM n (Bm (bkM 2 3 i)) i j) (fun _ j i hj hi => m_ent_2_3 hn j i hj hi)
theorem m_emi_2_3 {n vs : Nat} {wo un h : Int64} {ta tr ro ot : Nat → Int64} {Bm : Nat → Nat → Nat → Int32} {bk : Nat → Nat → Int32} (k : Nat) (hk : k < 3) (i s : Nat) (hi : i < 4) (hs : s < 3) : KX3_emission l D ca ad [.ref 0, .int (Int32.ofNat i), .int (Int32.ofNat k), .int (Int32.ofNat s)] (MW (Int32.ofNat n) (Int32.ofNat vs) wo un h (boX 2 3) ta tr ro ot Bm bk) (some (.long (emM (Bm (bkM 2 3 i) i) k s))) (MW (Int32.ofNat n) (Int32.ofNat vs) wo un h (boX 2 3) ta tr ro ot Bm bk) := by
  match i, hi with
  | 0, _ => exact m_em_6_0 (bo := boX 2 3) k s hk hs
  | 1, _ => exact m_em_6_1 (bo := boX 2 3) k s hk hs
  | 2, _ => exact m_em_3_2 (bo := boX 2 3) k s hk hs
  | 3, _ => exact m_em_3_3 (bo := boX 2 3) k s hk hs
theorem m_sum_2_3 {n vs : Nat} {wo un h : Int64} {ta tr ro ot : Nat → Int64} {Bm : Nat → Nat → Nat → Int32} {bk : Nat → Nat → Int32} (hn : n ≤ 4) (k s : Nat) (hk : k < 3) (hs : s < 3) : KX3_sum l D ca ad [.ref 0, .int (Int32.ofNat k), .int (Int32.ofNat s)] (MW (Int32.ofNat n) (Int32.ofNat vs) wo un h (boX 2 3) ta tr ro ot Bm bk) (some (.long (smG n (fun i s => emM (Bm (bkM 2 3 i) i) k s) ro s))) (MW (Int32.ofNat n) (Int32.ofNat vs) wo un h (boX 2 3) ta tr ro ot Bm bk) := m_sumG hn k s hs (m_emi_2_3 k hk)
theorem m_ent_2_4 {n vs : Nat} {wo un h : Int64} {ta tr ro ot : Nat → Int64} {Bm : Nat → Nat → Nat → Int32} {bk : Nat → Nat → Int32} (hn : n ≤ 4) (j i : Nat) (hj : j < 4) (hi : i < 4) : KX3_entryOf l D ca ad [.ref 0, .int (boX 2 4 i), .int (Int32.ofNat j), .int (Int32.ofNat i)] (MW (Int32.ofNat n) (Int32.ofNat vs) wo un h (boX 2 4) ta tr ro ot Bm bk) (some (.int (ceM n (Bm (bkM 2 4 i)) i j))) (MW (Int32.ofNat n) (Int32.ofNat vs) wo un h (boX 2 4) ta tr ro ot Bm bk) := by
  match j, hj, i, hi with
  | 0, _, 0, _ => exact m_entryOf_6_0_0 hn
  | 0, _, 1, _ => exact m_entryOf_6_0_1 hn
  | 0, _, 2, _ => exact m_entryOf_4_0_2 hn
  | 0, _, 3, _ => exact m_entryOf_4_0_3 hn
  | 1, _, 0, _ => exact m_entryOf_6_1_0 hn
  | 1, _, 1, _ => exact m_entryOf_6_1_1 hn
  | 1, _, 2, _ => exact m_entryOf_4_1_2 hn
  | 1, _, 3, _ => exact m_entryOf_4_1_3 hn
  | 2, _, 0, _ => exact m_entryOf_6_2_0 hn
  | 2, _, 1, _ => exact m_entryOf_6_2_1 hn
  | 2, _, 2, _ => exact m_entryOf_4_2_2 hn
  | 2, _, 3, _ => exact m_entryOf_4_2_3 hn
  | 3, _, 0, _ => exact m_entryOf_6_3_0 hn
  | 3, _, 1, _ => exact m_entryOf_6_3_1 hn
  | 3, _, 2, _ => exact m_entryOf_4_3_2 hn
  | 3, _, 3, _ => exact m_entryOf_4_3_3 hn
theorem m_lay_2_4 {n vs : Nat} {wo un h : Int64} {ta tr ro ot : Nat → Int64} {Bm : Nat → Nat → Nat → Int32} {bk : Nat → Nat → Int32} (hn : n ≤ 4) : KX3_lay l D ca ad [.ref 0] (MW (Int32.ofNat n) (Int32.ofNat vs) wo un h (boX 2 4) ta tr ro ot Bm bk) none (MW (Int32.ofNat n) (Int32.ofNat vs) (dtM (TnM n Bm 2 4)) un h (boX 2 4) (TnM n Bm 2 4) (TnM n Bm 2 4) ro ot Bm bk) := m_layG hn (e := fun j i => ceM n (Bm (bkM 2 4 i)) i j) (fun _ j i hj hi => m_ent_2_4 hn j i hj hi)
theorem m_emi_2_4 {n vs : Nat} {wo un h : Int64} {ta tr ro ot : Nat → Int64} {Bm : Nat → Nat → Nat → Int32} {bk : Nat → Nat → Int32} (k : Nat) (hk : k < 3) (i s : Nat) (hi : i < 4) (hs : s < 3) : KX3_emission l D ca ad [.ref 0, .int (Int32.ofNat i), .int (Int32.ofNat k), .int (Int32.ofNat s)] (MW (Int32.ofNat n) (Int32.ofNat vs) wo un h (boX 2 4) ta tr ro ot Bm bk) (some (.long (emM (Bm (bkM 2 4 i) i) k s))) (MW (Int32.ofNat n) (Int32.ofNat vs) wo un h (boX 2 4) ta tr ro ot Bm bk) := by
  match i, hi with
  | 0, _ => exact m_em_6_0 (bo := boX 2 4) k s hk hs
  | 1, _ => exact m_em_6_1 (bo := boX 2 4) k s hk hs
  | 2, _ => exact m_em_4_2 (bo := boX 2 4) k s hk hs
  | 3, _ => exact m_em_4_3 (bo := boX 2 4) k s hk hs
theorem m_sum_2_4 {n vs : Nat} {wo un h : Int64} {ta tr ro ot : Nat → Int64} {Bm : Nat → Nat → Nat → Int32} {bk : Nat → Nat → Int32} (hn : n ≤ 4) (k s : Nat) (hk : k < 3) (hs : s < 3) : KX3_sum l D ca ad [.ref 0, .int (Int32.ofNat k), .int (Int32.ofNat s)] (MW (Int32.ofNat n) (Int32.ofNat vs) wo un h (boX 2 4) ta tr ro ot Bm bk) (some (.long (smG n (fun i s => emM (Bm (bkM 2 4 i) i) k s) ro s))) (MW (Int32.ofNat n) (Int32.ofNat vs) wo un h (boX 2 4) ta tr ro ot Bm bk) := m_sumG hn k s hs (m_emi_2_4 k hk)
theorem m_ent_2_5 {n vs : Nat} {wo un h : Int64} {ta tr ro ot : Nat → Int64} {Bm : Nat → Nat → Nat → Int32} {bk : Nat → Nat → Int32} (hn : n ≤ 4) (j i : Nat) (hj : j < 4) (hi : i < 4) : KX3_entryOf l D ca ad [.ref 0, .int (boX 2 5 i), .int (Int32.ofNat j), .int (Int32.ofNat i)] (MW (Int32.ofNat n) (Int32.ofNat vs) wo un h (boX 2 5) ta tr ro ot Bm bk) (some (.int (ceM n (Bm (bkM 2 5 i)) i j))) (MW (Int32.ofNat n) (Int32.ofNat vs) wo un h (boX 2 5) ta tr ro ot Bm bk) := by
  match j, hj, i, hi with
  | 0, _, 0, _ => exact m_entryOf_6_0_0 hn
  | 0, _, 1, _ => exact m_entryOf_6_0_1 hn
  | 0, _, 2, _ => exact m_entryOf_5_0_2 hn
  | 0, _, 3, _ => exact m_entryOf_5_0_3 hn
  | 1, _, 0, _ => exact m_entryOf_6_1_0 hn
  | 1, _, 1, _ => exact m_entryOf_6_1_1 hn
  | 1, _, 2, _ => exact m_entryOf_5_1_2 hn
  | 1, _, 3, _ => exact m_entryOf_5_1_3 hn
  | 2, _, 0, _ => exact m_entryOf_6_2_0 hn
  | 2, _, 1, _ => exact m_entryOf_6_2_1 hn
  | 2, _, 2, _ => exact m_entryOf_5_2_2 hn
  | 2, _, 3, _ => exact m_entryOf_5_2_3 hn
  | 3, _, 0, _ => exact m_entryOf_6_3_0 hn
  | 3, _, 1, _ => exact m_entryOf_6_3_1 hn
  | 3, _, 2, _ => exact m_entryOf_5_3_2 hn
  | 3, _, 3, _ => exact m_entryOf_5_3_3 hn
theorem m_lay_2_5 {n vs : Nat} {wo un h : Int64} {ta tr ro ot : Nat → Int64} {Bm : Nat → Nat → Nat → Int32} {bk : Nat → Nat → Int32} (hn : n ≤ 4) : KX3_lay l D ca ad [.ref 0] (MW (Int32.ofNat n) (Int32.ofNat vs) wo un h (boX 2 5) ta tr ro ot Bm bk) none (MW (Int32.ofNat n) (Int32.ofNat vs) (dtM (TnM n Bm 2 5)) un h (boX 2 5) (TnM n Bm 2 5) (TnM n Bm 2 5) ro ot Bm bk) := m_layG hn (e := fun j i => ceM n (Bm (bkM 2 5 i)) i j) (fun _ j i hj hi => m_ent_2_5 hn j i hj hi)
theorem m_emi_2_5 {n vs : Nat} {wo un h : Int64} {ta tr ro ot : Nat → Int64} {Bm : Nat → Nat → Nat → Int32} {bk : Nat → Nat → Int32} (k : Nat) (hk : k < 3) (i s : Nat) (hi : i < 4) (hs : s < 3) : KX3_emission l D ca ad [.ref 0, .int (Int32.ofNat i), .int (Int32.ofNat k), .int (Int32.ofNat s)] (MW (Int32.ofNat n) (Int32.ofNat vs) wo un h (boX 2 5) ta tr ro ot Bm bk) (some (.long (emM (Bm (bkM 2 5 i) i) k s))) (MW (Int32.ofNat n) (Int32.ofNat vs) wo un h (boX 2 5) ta tr ro ot Bm bk) := by
  match i, hi with
  | 0, _ => exact m_em_6_0 (bo := boX 2 5) k s hk hs
  | 1, _ => exact m_em_6_1 (bo := boX 2 5) k s hk hs
  | 2, _ => exact m_em_5_2 (bo := boX 2 5) k s hk hs
  | 3, _ => exact m_em_5_3 (bo := boX 2 5) k s hk hs
theorem m_sum_2_5 {n vs : Nat} {wo un h : Int64} {ta tr ro ot : Nat → Int64} {Bm : Nat → Nat → Nat → Int32} {bk : Nat → Nat → Int32} (hn : n ≤ 4) (k s : Nat) (hk : k < 3) (hs : s < 3) : KX3_sum l D ca ad [.ref 0, .int (Int32.ofNat k), .int (Int32.ofNat s)] (MW (Int32.ofNat n) (Int32.ofNat vs) wo un h (boX 2 5) ta tr ro ot Bm bk) (some (.long (smG n (fun i s => emM (Bm (bkM 2 5 i) i) k s) ro s))) (MW (Int32.ofNat n) (Int32.ofNat vs) wo un h (boX 2 5) ta tr ro ot Bm bk) := m_sumG hn k s hs (m_emi_2_5 k hk)
theorem m_ent_3_0 {n vs : Nat} {wo un h : Int64} {ta tr ro ot : Nat → Int64} {Bm : Nat → Nat → Nat → Int32} {bk : Nat → Nat → Int32} (hn : n ≤ 4) (j i : Nat) (hj : j < 4) (hi : i < 4) : KX3_entryOf l D ca ad [.ref 0, .int (boX 3 0 i), .int (Int32.ofNat j), .int (Int32.ofNat i)] (MW (Int32.ofNat n) (Int32.ofNat vs) wo un h (boX 3 0) ta tr ro ot Bm bk) (some (.int (ceM n (Bm (bkM 3 0 i)) i j))) (MW (Int32.ofNat n) (Int32.ofNat vs) wo un h (boX 3 0) ta tr ro ot Bm bk) := by
  match j, hj, i, hi with
  | 0, _, 0, _ => exact m_entryOf_6_0_0 hn
  | 0, _, 1, _ => exact m_entryOf_6_0_1 hn
  | 0, _, 2, _ => exact m_entryOf_6_0_2 hn
  | 0, _, 3, _ => exact m_entryOf_0_0_3 hn
  | 1, _, 0, _ => exact m_entryOf_6_1_0 hn
  | 1, _, 1, _ => exact m_entryOf_6_1_1 hn
  | 1, _, 2, _ => exact m_entryOf_6_1_2 hn
  | 1, _, 3, _ => exact m_entryOf_0_1_3 hn
  | 2, _, 0, _ => exact m_entryOf_6_2_0 hn
  | 2, _, 1, _ => exact m_entryOf_6_2_1 hn
  | 2, _, 2, _ => exact m_entryOf_6_2_2 hn
  | 2, _, 3, _ => exact m_entryOf_0_2_3 hn
  | 3, _, 0, _ => exact m_entryOf_6_3_0 hn
  | 3, _, 1, _ => exact m_entryOf_6_3_1 hn
  | 3, _, 2, _ => exact m_entryOf_6_3_2 hn
  | 3, _, 3, _ => exact m_entryOf_0_3_3 hn
theorem m_lay_3_0 {n vs : Nat} {wo un h : Int64} {ta tr ro ot : Nat → Int64} {Bm : Nat → Nat → Nat → Int32} {bk : Nat → Nat → Int32} (hn : n ≤ 4) : KX3_lay l D ca ad [.ref 0] (MW (Int32.ofNat n) (Int32.ofNat vs) wo un h (boX 3 0) ta tr ro ot Bm bk) none (MW (Int32.ofNat n) (Int32.ofNat vs) (dtM (TnM n Bm 3 0)) un h (boX 3 0) (TnM n Bm 3 0) (TnM n Bm 3 0) ro ot Bm bk) := m_layG hn (e := fun j i => ceM n (Bm (bkM 3 0 i)) i j) (fun _ j i hj hi => m_ent_3_0 hn j i hj hi)
theorem m_emi_3_0 {n vs : Nat} {wo un h : Int64} {ta tr ro ot : Nat → Int64} {Bm : Nat → Nat → Nat → Int32} {bk : Nat → Nat → Int32} (k : Nat) (hk : k < 3) (i s : Nat) (hi : i < 4) (hs : s < 3) : KX3_emission l D ca ad [.ref 0, .int (Int32.ofNat i), .int (Int32.ofNat k), .int (Int32.ofNat s)] (MW (Int32.ofNat n) (Int32.ofNat vs) wo un h (boX 3 0) ta tr ro ot Bm bk) (some (.long (emM (Bm (bkM 3 0 i) i) k s))) (MW (Int32.ofNat n) (Int32.ofNat vs) wo un h (boX 3 0) ta tr ro ot Bm bk) := by
  match i, hi with
  | 0, _ => exact m_em_6_0 (bo := boX 3 0) k s hk hs
  | 1, _ => exact m_em_6_1 (bo := boX 3 0) k s hk hs
  | 2, _ => exact m_em_6_2 (bo := boX 3 0) k s hk hs
  | 3, _ => exact m_em_0_3 (bo := boX 3 0) k s hk hs
theorem m_sum_3_0 {n vs : Nat} {wo un h : Int64} {ta tr ro ot : Nat → Int64} {Bm : Nat → Nat → Nat → Int32} {bk : Nat → Nat → Int32} (hn : n ≤ 4) (k s : Nat) (hk : k < 3) (hs : s < 3) : KX3_sum l D ca ad [.ref 0, .int (Int32.ofNat k), .int (Int32.ofNat s)] (MW (Int32.ofNat n) (Int32.ofNat vs) wo un h (boX 3 0) ta tr ro ot Bm bk) (some (.long (smG n (fun i s => emM (Bm (bkM 3 0 i) i) k s) ro s))) (MW (Int32.ofNat n) (Int32.ofNat vs) wo un h (boX 3 0) ta tr ro ot Bm bk) := m_sumG hn k s hs (m_emi_3_0 k hk)
theorem m_ent_3_1 {n vs : Nat} {wo un h : Int64} {ta tr ro ot : Nat → Int64} {Bm : Nat → Nat → Nat → Int32} {bk : Nat → Nat → Int32} (hn : n ≤ 4) (j i : Nat) (hj : j < 4) (hi : i < 4) : KX3_entryOf l D ca ad [.ref 0, .int (boX 3 1 i), .int (Int32.ofNat j), .int (Int32.ofNat i)] (MW (Int32.ofNat n) (Int32.ofNat vs) wo un h (boX 3 1) ta tr ro ot Bm bk) (some (.int (ceM n (Bm (bkM 3 1 i)) i j))) (MW (Int32.ofNat n) (Int32.ofNat vs) wo un h (boX 3 1) ta tr ro ot Bm bk) := by
  match j, hj, i, hi with
  | 0, _, 0, _ => exact m_entryOf_6_0_0 hn
  | 0, _, 1, _ => exact m_entryOf_6_0_1 hn
  | 0, _, 2, _ => exact m_entryOf_6_0_2 hn
  | 0, _, 3, _ => exact m_entryOf_1_0_3 hn
  | 1, _, 0, _ => exact m_entryOf_6_1_0 hn
  | 1, _, 1, _ => exact m_entryOf_6_1_1 hn
  | 1, _, 2, _ => exact m_entryOf_6_1_2 hn
  | 1, _, 3, _ => exact m_entryOf_1_1_3 hn
  | 2, _, 0, _ => exact m_entryOf_6_2_0 hn
  | 2, _, 1, _ => exact m_entryOf_6_2_1 hn
  | 2, _, 2, _ => exact m_entryOf_6_2_2 hn
  | 2, _, 3, _ => exact m_entryOf_1_2_3 hn
  | 3, _, 0, _ => exact m_entryOf_6_3_0 hn
  | 3, _, 1, _ => exact m_entryOf_6_3_1 hn
  | 3, _, 2, _ => exact m_entryOf_6_3_2 hn
  | 3, _, 3, _ => exact m_entryOf_1_3_3 hn
theorem m_lay_3_1 {n vs : Nat} {wo un h : Int64} {ta tr ro ot : Nat → Int64} {Bm : Nat → Nat → Nat → Int32} {bk : Nat → Nat → Int32} (hn : n ≤ 4) : KX3_lay l D ca ad [.ref 0] (MW (Int32.ofNat n) (Int32.ofNat vs) wo un h (boX 3 1) ta tr ro ot Bm bk) none (MW (Int32.ofNat n) (Int32.ofNat vs) (dtM (TnM n Bm 3 1)) un h (boX 3 1) (TnM n Bm 3 1) (TnM n Bm 3 1) ro ot Bm bk) := m_layG hn (e := fun j i => ceM n (Bm (bkM 3 1 i)) i j) (fun _ j i hj hi => m_ent_3_1 hn j i hj hi)
theorem m_emi_3_1 {n vs : Nat} {wo un h : Int64} {ta tr ro ot : Nat → Int64} {Bm : Nat → Nat → Nat → Int32} {bk : Nat → Nat → Int32} (k : Nat) (hk : k < 3) (i s : Nat) (hi : i < 4) (hs : s < 3) : KX3_emission l D ca ad [.ref 0, .int (Int32.ofNat i), .int (Int32.ofNat k), .int (Int32.ofNat s)] (MW (Int32.ofNat n) (Int32.ofNat vs) wo un h (boX 3 1) ta tr ro ot Bm bk) (some (.long (emM (Bm (bkM 3 1 i) i) k s))) (MW (Int32.ofNat n) (Int32.ofNat vs) wo un h (boX 3 1) ta tr ro ot Bm bk) := by
  match i, hi with
  | 0, _ => exact m_em_6_0 (bo := boX 3 1) k s hk hs
  | 1, _ => exact m_em_6_1 (bo := boX 3 1) k s hk hs
  | 2, _ => exact m_em_6_2 (bo := boX 3 1) k s hk hs
  | 3, _ => exact m_em_1_3 (bo := boX 3 1) k s hk hs
theorem m_sum_3_1 {n vs : Nat} {wo un h : Int64} {ta tr ro ot : Nat → Int64} {Bm : Nat → Nat → Nat → Int32} {bk : Nat → Nat → Int32} (hn : n ≤ 4) (k s : Nat) (hk : k < 3) (hs : s < 3) : KX3_sum l D ca ad [.ref 0, .int (Int32.ofNat k), .int (Int32.ofNat s)] (MW (Int32.ofNat n) (Int32.ofNat vs) wo un h (boX 3 1) ta tr ro ot Bm bk) (some (.long (smG n (fun i s => emM (Bm (bkM 3 1 i) i) k s) ro s))) (MW (Int32.ofNat n) (Int32.ofNat vs) wo un h (boX 3 1) ta tr ro ot Bm bk) := m_sumG hn k s hs (m_emi_3_1 k hk)
theorem m_ent_3_2 {n vs : Nat} {wo un h : Int64} {ta tr ro ot : Nat → Int64} {Bm : Nat → Nat → Nat → Int32} {bk : Nat → Nat → Int32} (hn : n ≤ 4) (j i : Nat) (hj : j < 4) (hi : i < 4) : KX3_entryOf l D ca ad [.ref 0, .int (boX 3 2 i), .int (Int32.ofNat j), .int (Int32.ofNat i)] (MW (Int32.ofNat n) (Int32.ofNat vs) wo un h (boX 3 2) ta tr ro ot Bm bk) (some (.int (ceM n (Bm (bkM 3 2 i)) i j))) (MW (Int32.ofNat n) (Int32.ofNat vs) wo un h (boX 3 2) ta tr ro ot Bm bk) := by
  match j, hj, i, hi with
  | 0, _, 0, _ => exact m_entryOf_6_0_0 hn
  | 0, _, 1, _ => exact m_entryOf_6_0_1 hn
  | 0, _, 2, _ => exact m_entryOf_6_0_2 hn
  | 0, _, 3, _ => exact m_entryOf_2_0_3 hn
  | 1, _, 0, _ => exact m_entryOf_6_1_0 hn
  | 1, _, 1, _ => exact m_entryOf_6_1_1 hn
  | 1, _, 2, _ => exact m_entryOf_6_1_2 hn
  | 1, _, 3, _ => exact m_entryOf_2_1_3 hn
  | 2, _, 0, _ => exact m_entryOf_6_2_0 hn
  | 2, _, 1, _ => exact m_entryOf_6_2_1 hn
  | 2, _, 2, _ => exact m_entryOf_6_2_2 hn
  | 2, _, 3, _ => exact m_entryOf_2_2_3 hn
  | 3, _, 0, _ => exact m_entryOf_6_3_0 hn
  | 3, _, 1, _ => exact m_entryOf_6_3_1 hn
  | 3, _, 2, _ => exact m_entryOf_6_3_2 hn
  | 3, _, 3, _ => exact m_entryOf_2_3_3 hn
theorem m_lay_3_2 {n vs : Nat} {wo un h : Int64} {ta tr ro ot : Nat → Int64} {Bm : Nat → Nat → Nat → Int32} {bk : Nat → Nat → Int32} (hn : n ≤ 4) : KX3_lay l D ca ad [.ref 0] (MW (Int32.ofNat n) (Int32.ofNat vs) wo un h (boX 3 2) ta tr ro ot Bm bk) none (MW (Int32.ofNat n) (Int32.ofNat vs) (dtM (TnM n Bm 3 2)) un h (boX 3 2) (TnM n Bm 3 2) (TnM n Bm 3 2) ro ot Bm bk) := m_layG hn (e := fun j i => ceM n (Bm (bkM 3 2 i)) i j) (fun _ j i hj hi => m_ent_3_2 hn j i hj hi)
theorem m_emi_3_2 {n vs : Nat} {wo un h : Int64} {ta tr ro ot : Nat → Int64} {Bm : Nat → Nat → Nat → Int32} {bk : Nat → Nat → Int32} (k : Nat) (hk : k < 3) (i s : Nat) (hi : i < 4) (hs : s < 3) : KX3_emission l D ca ad [.ref 0, .int (Int32.ofNat i), .int (Int32.ofNat k), .int (Int32.ofNat s)] (MW (Int32.ofNat n) (Int32.ofNat vs) wo un h (boX 3 2) ta tr ro ot Bm bk) (some (.long (emM (Bm (bkM 3 2 i) i) k s))) (MW (Int32.ofNat n) (Int32.ofNat vs) wo un h (boX 3 2) ta tr ro ot Bm bk) := by
  match i, hi with
  | 0, _ => exact m_em_6_0 (bo := boX 3 2) k s hk hs
  | 1, _ => exact m_em_6_1 (bo := boX 3 2) k s hk hs
  | 2, _ => exact m_em_6_2 (bo := boX 3 2) k s hk hs
  | 3, _ => exact m_em_2_3 (bo := boX 3 2) k s hk hs
theorem m_sum_3_2 {n vs : Nat} {wo un h : Int64} {ta tr ro ot : Nat → Int64} {Bm : Nat → Nat → Nat → Int32} {bk : Nat → Nat → Int32} (hn : n ≤ 4) (k s : Nat) (hk : k < 3) (hs : s < 3) : KX3_sum l D ca ad [.ref 0, .int (Int32.ofNat k), .int (Int32.ofNat s)] (MW (Int32.ofNat n) (Int32.ofNat vs) wo un h (boX 3 2) ta tr ro ot Bm bk) (some (.long (smG n (fun i s => emM (Bm (bkM 3 2 i) i) k s) ro s))) (MW (Int32.ofNat n) (Int32.ofNat vs) wo un h (boX 3 2) ta tr ro ot Bm bk) := m_sumG hn k s hs (m_emi_3_2 k hk)
theorem m_ent_3_3 {n vs : Nat} {wo un h : Int64} {ta tr ro ot : Nat → Int64} {Bm : Nat → Nat → Nat → Int32} {bk : Nat → Nat → Int32} (hn : n ≤ 4) (j i : Nat) (hj : j < 4) (hi : i < 4) : KX3_entryOf l D ca ad [.ref 0, .int (boX 3 3 i), .int (Int32.ofNat j), .int (Int32.ofNat i)] (MW (Int32.ofNat n) (Int32.ofNat vs) wo un h (boX 3 3) ta tr ro ot Bm bk) (some (.int (ceM n (Bm (bkM 3 3 i)) i j))) (MW (Int32.ofNat n) (Int32.ofNat vs) wo un h (boX 3 3) ta tr ro ot Bm bk) := by
  match j, hj, i, hi with
  | 0, _, 0, _ => exact m_entryOf_6_0_0 hn
  | 0, _, 1, _ => exact m_entryOf_6_0_1 hn
  | 0, _, 2, _ => exact m_entryOf_6_0_2 hn
  | 0, _, 3, _ => exact m_entryOf_3_0_3 hn
  | 1, _, 0, _ => exact m_entryOf_6_1_0 hn
  | 1, _, 1, _ => exact m_entryOf_6_1_1 hn
  | 1, _, 2, _ => exact m_entryOf_6_1_2 hn
  | 1, _, 3, _ => exact m_entryOf_3_1_3 hn
  | 2, _, 0, _ => exact m_entryOf_6_2_0 hn
  | 2, _, 1, _ => exact m_entryOf_6_2_1 hn
  | 2, _, 2, _ => exact m_entryOf_6_2_2 hn
  | 2, _, 3, _ => exact m_entryOf_3_2_3 hn
  | 3, _, 0, _ => exact m_entryOf_6_3_0 hn
  | 3, _, 1, _ => exact m_entryOf_6_3_1 hn
  | 3, _, 2, _ => exact m_entryOf_6_3_2 hn
  | 3, _, 3, _ => exact m_entryOf_3_3_3 hn
theorem m_lay_3_3 {n vs : Nat} {wo un h : Int64} {ta tr ro ot : Nat → Int64} {Bm : Nat → Nat → Nat → Int32} {bk : Nat → Nat → Int32} (hn : n ≤ 4) : KX3_lay l D ca ad [.ref 0] (MW (Int32.ofNat n) (Int32.ofNat vs) wo un h (boX 3 3) ta tr ro ot Bm bk) none (MW (Int32.ofNat n) (Int32.ofNat vs) (dtM (TnM n Bm 3 3)) un h (boX 3 3) (TnM n Bm 3 3) (TnM n Bm 3 3) ro ot Bm bk) := m_layG hn (e := fun j i => ceM n (Bm (bkM 3 3 i)) i j) (fun _ j i hj hi => m_ent_3_3 hn j i hj hi)
theorem m_emi_3_3 {n vs : Nat} {wo un h : Int64} {ta tr ro ot : Nat → Int64} {Bm : Nat → Nat → Nat → Int32} {bk : Nat → Nat → Int32} (k : Nat) (hk : k < 3) (i s : Nat) (hi : i < 4) (hs : s < 3) : KX3_emission l D ca ad [.ref 0, .int (Int32.ofNat i), .int (Int32.ofNat k), .int (Int32.ofNat s)] (MW (Int32.ofNat n) (Int32.ofNat vs) wo un h (boX 3 3) ta tr ro ot Bm bk) (some (.long (emM (Bm (bkM 3 3 i) i) k s))) (MW (Int32.ofNat n) (Int32.ofNat vs) wo un h (boX 3 3) ta tr ro ot Bm bk) := by
  match i, hi with
  | 0, _ => exact m_em_6_0 (bo := boX 3 3) k s hk hs
  | 1, _ => exact m_em_6_1 (bo := boX 3 3) k s hk hs
  | 2, _ => exact m_em_6_2 (bo := boX 3 3) k s hk hs
  | 3, _ => exact m_em_3_3 (bo := boX 3 3) k s hk hs
theorem m_sum_3_3 {n vs : Nat} {wo un h : Int64} {ta tr ro ot : Nat → Int64} {Bm : Nat → Nat → Nat → Int32} {bk : Nat → Nat → Int32} (hn : n ≤ 4) (k s : Nat) (hk : k < 3) (hs : s < 3) : KX3_sum l D ca ad [.ref 0, .int (Int32.ofNat k), .int (Int32.ofNat s)] (MW (Int32.ofNat n) (Int32.ofNat vs) wo un h (boX 3 3) ta tr ro ot Bm bk) (some (.long (smG n (fun i s => emM (Bm (bkM 3 3 i) i) k s) ro s))) (MW (Int32.ofNat n) (Int32.ofNat vs) wo un h (boX 3 3) ta tr ro ot Bm bk) := m_sumG hn k s hs (m_emi_3_3 k hk)
theorem m_ent_3_4 {n vs : Nat} {wo un h : Int64} {ta tr ro ot : Nat → Int64} {Bm : Nat → Nat → Nat → Int32} {bk : Nat → Nat → Int32} (hn : n ≤ 4) (j i : Nat) (hj : j < 4) (hi : i < 4) : KX3_entryOf l D ca ad [.ref 0, .int (boX 3 4 i), .int (Int32.ofNat j), .int (Int32.ofNat i)] (MW (Int32.ofNat n) (Int32.ofNat vs) wo un h (boX 3 4) ta tr ro ot Bm bk) (some (.int (ceM n (Bm (bkM 3 4 i)) i j))) (MW (Int32.ofNat n) (Int32.ofNat vs) wo un h (boX 3 4) ta tr ro ot Bm bk) := by
  match j, hj, i, hi with
  | 0, _, 0, _ => exact m_entryOf_6_0_0 hn
  | 0, _, 1, _ => exact m_entryOf_6_0_1 hn
  | 0, _, 2, _ => exact m_entryOf_6_0_2 hn
  | 0, _, 3, _ => exact m_entryOf_4_0_3 hn
  | 1, _, 0, _ => exact m_entryOf_6_1_0 hn
  | 1, _, 1, _ => exact m_entryOf_6_1_1 hn
  | 1, _, 2, _ => exact m_entryOf_6_1_2 hn
  | 1, _, 3, _ => exact m_entryOf_4_1_3 hn
  | 2, _, 0, _ => exact m_entryOf_6_2_0 hn
  | 2, _, 1, _ => exact m_entryOf_6_2_1 hn
  | 2, _, 2, _ => exact m_entryOf_6_2_2 hn
  | 2, _, 3, _ => exact m_entryOf_4_2_3 hn
  | 3, _, 0, _ => exact m_entryOf_6_3_0 hn
  | 3, _, 1, _ => exact m_entryOf_6_3_1 hn
  | 3, _, 2, _ => exact m_entryOf_6_3_2 hn
  | 3, _, 3, _ => exact m_entryOf_4_3_3 hn
theorem m_lay_3_4 {n vs : Nat} {wo un h : Int64} {ta tr ro ot : Nat → Int64} {Bm : Nat → Nat → Nat → Int32} {bk : Nat → Nat → Int32} (hn : n ≤ 4) : KX3_lay l D ca ad [.ref 0] (MW (Int32.ofNat n) (Int32.ofNat vs) wo un h (boX 3 4) ta tr ro ot Bm bk) none (MW (Int32.ofNat n) (Int32.ofNat vs) (dtM (TnM n Bm 3 4)) un h (boX 3 4) (TnM n Bm 3 4) (TnM n Bm 3 4) ro ot Bm bk) := m_layG hn (e := fun j i => ceM n (Bm (bkM 3 4 i)) i j) (fun _ j i hj hi => m_ent_3_4 hn j i hj hi)
theorem m_emi_3_4 {n vs : Nat} {wo un h : Int64} {ta tr ro ot : Nat → Int64} {Bm : Nat → Nat → Nat → Int32} {bk : Nat → Nat → Int32} (k : Nat) (hk : k < 3) (i s : Nat) (hi : i < 4) (hs : s < 3) : KX3_emission l D ca ad [.ref 0, .int (Int32.ofNat i), .int (Int32.ofNat k), .int (Int32.ofNat s)] (MW (Int32.ofNat n) (Int32.ofNat vs) wo un h (boX 3 4) ta tr ro ot Bm bk) (some (.long (emM (Bm (bkM 3 4 i) i) k s))) (MW (Int32.ofNat n) (Int32.ofNat vs) wo un h (boX 3 4) ta tr ro ot Bm bk) := by
  match i, hi with
  | 0, _ => exact m_em_6_0 (bo := boX 3 4) k s hk hs
  | 1, _ => exact m_em_6_1 (bo := boX 3 4) k s hk hs
  | 2, _ => exact m_em_6_2 (bo := boX 3 4) k s hk hs
  | 3, _ => exact m_em_4_3 (bo := boX 3 4) k s hk hs
theorem m_sum_3_4 {n vs : Nat} {wo un h : Int64} {ta tr ro ot : Nat → Int64} {Bm : Nat → Nat → Nat → Int32} {bk : Nat → Nat → Int32} (hn : n ≤ 4) (k s : Nat) (hk : k < 3) (hs : s < 3) : KX3_sum l D ca ad [.ref 0, .int (Int32.ofNat k), .int (Int32.ofNat s)] (MW (Int32.ofNat n) (Int32.ofNat vs) wo un h (boX 3 4) ta tr ro ot Bm bk) (some (.long (smG n (fun i s => emM (Bm (bkM 3 4 i) i) k s) ro s))) (MW (Int32.ofNat n) (Int32.ofNat vs) wo un h (boX 3 4) ta tr ro ot Bm bk) := m_sumG hn k s hs (m_emi_3_4 k hk)
theorem m_ent_3_5 {n vs : Nat} {wo un h : Int64} {ta tr ro ot : Nat → Int64} {Bm : Nat → Nat → Nat → Int32} {bk : Nat → Nat → Int32} (hn : n ≤ 4) (j i : Nat) (hj : j < 4) (hi : i < 4) : KX3_entryOf l D ca ad [.ref 0, .int (boX 3 5 i), .int (Int32.ofNat j), .int (Int32.ofNat i)] (MW (Int32.ofNat n) (Int32.ofNat vs) wo un h (boX 3 5) ta tr ro ot Bm bk) (some (.int (ceM n (Bm (bkM 3 5 i)) i j))) (MW (Int32.ofNat n) (Int32.ofNat vs) wo un h (boX 3 5) ta tr ro ot Bm bk) := by
  match j, hj, i, hi with
  | 0, _, 0, _ => exact m_entryOf_6_0_0 hn
  | 0, _, 1, _ => exact m_entryOf_6_0_1 hn
  | 0, _, 2, _ => exact m_entryOf_6_0_2 hn
  | 0, _, 3, _ => exact m_entryOf_5_0_3 hn
  | 1, _, 0, _ => exact m_entryOf_6_1_0 hn
  | 1, _, 1, _ => exact m_entryOf_6_1_1 hn
  | 1, _, 2, _ => exact m_entryOf_6_1_2 hn
  | 1, _, 3, _ => exact m_entryOf_5_1_3 hn
  | 2, _, 0, _ => exact m_entryOf_6_2_0 hn
  | 2, _, 1, _ => exact m_entryOf_6_2_1 hn
  | 2, _, 2, _ => exact m_entryOf_6_2_2 hn
  | 2, _, 3, _ => exact m_entryOf_5_2_3 hn
  | 3, _, 0, _ => exact m_entryOf_6_3_0 hn
  | 3, _, 1, _ => exact m_entryOf_6_3_1 hn
  | 3, _, 2, _ => exact m_entryOf_6_3_2 hn
  | 3, _, 3, _ => exact m_entryOf_5_3_3 hn
theorem m_lay_3_5 {n vs : Nat} {wo un h : Int64} {ta tr ro ot : Nat → Int64} {Bm : Nat → Nat → Nat → Int32} {bk : Nat → Nat → Int32} (hn : n ≤ 4) : KX3_lay l D ca ad [.ref 0] (MW (Int32.ofNat n) (Int32.ofNat vs) wo un h (boX 3 5) ta tr ro ot Bm bk) none (MW (Int32.ofNat n) (Int32.ofNat vs) (dtM (TnM n Bm 3 5)) un h (boX 3 5) (TnM n Bm 3 5) (TnM n Bm 3 5) ro ot Bm bk) := m_layG hn (e := fun j i => ceM n (Bm (bkM 3 5 i)) i j) (fun _ j i hj hi => m_ent_3_5 hn j i hj hi)
theorem m_emi_3_5 {n vs : Nat} {wo un h : Int64} {ta tr ro ot : Nat → Int64} {Bm : Nat → Nat → Nat → Int32} {bk : Nat → Nat → Int32} (k : Nat) (hk : k < 3) (i s : Nat) (hi : i < 4) (hs : s < 3) : KX3_emission l D ca ad [.ref 0, .int (Int32.ofNat i), .int (Int32.ofNat k), .int (Int32.ofNat s)] (MW (Int32.ofNat n) (Int32.ofNat vs) wo un h (boX 3 5) ta tr ro ot Bm bk) (some (.long (emM (Bm (bkM 3 5 i) i) k s))) (MW (Int32.ofNat n) (Int32.ofNat vs) wo un h (boX 3 5) ta tr ro ot Bm bk) := by
  match i, hi with
  | 0, _ => exact m_em_6_0 (bo := boX 3 5) k s hk hs
  | 1, _ => exact m_em_6_1 (bo := boX 3 5) k s hk hs
  | 2, _ => exact m_em_6_2 (bo := boX 3 5) k s hk hs
  | 3, _ => exact m_em_5_3 (bo := boX 3 5) k s hk hs
theorem m_sum_3_5 {n vs : Nat} {wo un h : Int64} {ta tr ro ot : Nat → Int64} {Bm : Nat → Nat → Nat → Int32} {bk : Nat → Nat → Int32} (hn : n ≤ 4) (k s : Nat) (hk : k < 3) (hs : s < 3) : KX3_sum l D ca ad [.ref 0, .int (Int32.ofNat k), .int (Int32.ofNat s)] (MW (Int32.ofNat n) (Int32.ofNat vs) wo un h (boX 3 5) ta tr ro ot Bm bk) (some (.long (smG n (fun i s => emM (Bm (bkM 3 5 i) i) k s) ro s))) (MW (Int32.ofNat n) (Int32.ofNat vs) wo un h (boX 3 5) ta tr ro ot Bm bk) := m_sumG hn k s hs (m_emi_3_5 k hk)
theorem m_ent_4_0 {n vs : Nat} {wo un h : Int64} {ta tr ro ot : Nat → Int64} {Bm : Nat → Nat → Nat → Int32} {bk : Nat → Nat → Int32} (hn : n ≤ 4) (j i : Nat) (hj : j < 4) (hi : i < 4) : KX3_entryOf l D ca ad [.ref 0, .int (boX 4 0 i), .int (Int32.ofNat j), .int (Int32.ofNat i)] (MW (Int32.ofNat n) (Int32.ofNat vs) wo un h (boX 4 0) ta tr ro ot Bm bk) (some (.int (ceM n (Bm (bkM 4 0 i)) i j))) (MW (Int32.ofNat n) (Int32.ofNat vs) wo un h (boX 4 0) ta tr ro ot Bm bk) := by
  match j, hj, i, hi with
  | 0, _, 0, _ => exact m_entryOf_6_0_0 hn
  | 0, _, 1, _ => exact m_entryOf_6_0_1 hn
  | 0, _, 2, _ => exact m_entryOf_6_0_2 hn
  | 0, _, 3, _ => exact m_entryOf_6_0_3 hn
  | 1, _, 0, _ => exact m_entryOf_6_1_0 hn
  | 1, _, 1, _ => exact m_entryOf_6_1_1 hn
  | 1, _, 2, _ => exact m_entryOf_6_1_2 hn
  | 1, _, 3, _ => exact m_entryOf_6_1_3 hn
  | 2, _, 0, _ => exact m_entryOf_6_2_0 hn
  | 2, _, 1, _ => exact m_entryOf_6_2_1 hn
  | 2, _, 2, _ => exact m_entryOf_6_2_2 hn
  | 2, _, 3, _ => exact m_entryOf_6_2_3 hn
  | 3, _, 0, _ => exact m_entryOf_6_3_0 hn
  | 3, _, 1, _ => exact m_entryOf_6_3_1 hn
  | 3, _, 2, _ => exact m_entryOf_6_3_2 hn
  | 3, _, 3, _ => exact m_entryOf_6_3_3 hn
theorem m_lay_4_0 {n vs : Nat} {wo un h : Int64} {ta tr ro ot : Nat → Int64} {Bm : Nat → Nat → Nat → Int32} {bk : Nat → Nat → Int32} (hn : n ≤ 4) : KX3_lay l D ca ad [.ref 0] (MW (Int32.ofNat n) (Int32.ofNat vs) wo un h (boX 4 0) ta tr ro ot Bm bk) none (MW (Int32.ofNat n) (Int32.ofNat vs) (dtM (TnM n Bm 4 0)) un h (boX 4 0) (TnM n Bm 4 0) (TnM n Bm 4 0) ro ot Bm bk) := m_layG hn (e := fun j i => ceM n (Bm (bkM 4 0 i)) i j) (fun _ j i hj hi => m_ent_4_0 hn j i hj hi)
theorem m_emi_4_0 {n vs : Nat} {wo un h : Int64} {ta tr ro ot : Nat → Int64} {Bm : Nat → Nat → Nat → Int32} {bk : Nat → Nat → Int32} (k : Nat) (hk : k < 3) (i s : Nat) (hi : i < 4) (hs : s < 3) : KX3_emission l D ca ad [.ref 0, .int (Int32.ofNat i), .int (Int32.ofNat k), .int (Int32.ofNat s)] (MW (Int32.ofNat n) (Int32.ofNat vs) wo un h (boX 4 0) ta tr ro ot Bm bk) (some (.long (emM (Bm (bkM 4 0 i) i) k s))) (MW (Int32.ofNat n) (Int32.ofNat vs) wo un h (boX 4 0) ta tr ro ot Bm bk) := by
  match i, hi with
  | 0, _ => exact m_em_6_0 (bo := boX 4 0) k s hk hs
  | 1, _ => exact m_em_6_1 (bo := boX 4 0) k s hk hs
  | 2, _ => exact m_em_6_2 (bo := boX 4 0) k s hk hs
  | 3, _ => exact m_em_6_3 (bo := boX 4 0) k s hk hs
theorem m_sum_4_0 {n vs : Nat} {wo un h : Int64} {ta tr ro ot : Nat → Int64} {Bm : Nat → Nat → Nat → Int32} {bk : Nat → Nat → Int32} (hn : n ≤ 4) (k s : Nat) (hk : k < 3) (hs : s < 3) : KX3_sum l D ca ad [.ref 0, .int (Int32.ofNat k), .int (Int32.ofNat s)] (MW (Int32.ofNat n) (Int32.ofNat vs) wo un h (boX 4 0) ta tr ro ot Bm bk) (some (.long (smG n (fun i s => emM (Bm (bkM 4 0 i) i) k s) ro s))) (MW (Int32.ofNat n) (Int32.ofNat vs) wo un h (boX 4 0) ta tr ro ot Bm bk) := m_sumG hn k s hs (m_emi_4_0 k hk)
set_option maxRecDepth 20000 in
theorem m_layNow {n vs : Nat} {wo un h : Int64} {bo : Nat → Int32} {ta tr ro ot : Nat → Int64} {Bm : Nat → Nat → Nat → Int32} {bk : Nat → Nat → Int32} (hn : n ≤ 4) : KX3_layNow l D ca ad [.ref 0] (MW (Int32.ofNat n) (Int32.ofNat vs) wo un h bo ta tr ro ot Bm bk) none (MW (Int32.ofNat n) (Int32.ofNat vs) (dtM (TnM n Bm 4 0)) un h (boX 4 0) (TnM n Bm 4 0) (TnM n Bm 4 0) ro ot Bm bk) := by
  refine PX3_layNow (Nat.le_of_ble_eq_true rfl) ?_
  intro G hT hC hR
  refine mB hT 30 rfl ?_
  refine mNf (lv2 := [(1, .int 2), (0, .ref 0)]) (st2 := []) rfl rfl ?_
  refine mWd (w2 := (MW (Int32.ofNat n) (Int32.ofNat vs) wo un h (up (up (up bo 0 6) 1 6) 2 6) ta tr ro ot Bm bk)) rfl ?_
  refine mB hT 16 rfl ?_
  refine mNf (lv2 := [(1, .int 4), (0, .ref 0)]) (st2 := [.ref 0]) rfl rfl ?_
  refine mWd (w2 := (MW (Int32.ofNat n) (Int32.ofNat vs) wo un h (up (up (up (up bo 0 6) 1 6) 2 6) 3 6) ta tr ro ot Bm bk)) rfl ?_
  refine mWd (w2 := (MW (Int32.ofNat n) (Int32.ofNat vs) wo un h (boX 4 0) ta tr ro ot Bm bk)) rfl ?_
  refine hC _ 0 [] _ _ _ _ _ (m_lay_4_0 hn) rfl rfl (Nat.le_of_ble_eq_true rfl) rfl ?_
  exact hR _ (by decide) _ _ _ rfl rfl
theorem m_solve {n vs : Nat} {wo un h : Int64} {bo : Nat → Int32} {ta tr ro ot : Nat → Int64} {Bm : Nat → Nat → Nat → Int32} {bk : Nat → Nat → Int32} {b : Nat} (hn : n ≤ 4) (hb : b < 4) : KX3_solve l D ca ad [.ref 0, .int (Int32.ofNat b)] (MW (Int32.ofNat n) (Int32.ofNat vs) wo un h bo ta tr ro ot Bm bk) none (MW (Int32.ofNat n) (Int32.ofNat vs) wo (absX wo) h bo ta (tsM n ta 3 (fun j => (bk b j).toInt64)) (rdM n ta wo (fun j => (bk b j).toInt64)) ot Bm bk) := by
  by_cases hs : wo < 0
  · match n, hn, b, hb with
    | 0, _, 0, _ => exact m_solve_0_0n hs (if_pos hs) (fun _ => rfl) (fun _ => if_pos hs)
    | 0, _, 1, _ => exact m_solve_0_1n hs (if_pos hs) (fun _ => rfl) (fun _ => if_pos hs)
    | 0, _, 2, _ => exact m_solve_0_2n hs (if_pos hs) (fun _ => rfl) (fun _ => if_pos hs)
    | 0, _, 3, _ => exact m_solve_0_3n hs (if_pos hs) (fun _ => rfl) (fun _ => if_pos hs)
    | 1, _, 0, _ => exact m_solve_1_0n hs (if_pos hs) (fun _ => rfl) (fun _ => if_pos hs)
    | 1, _, 1, _ => exact m_solve_1_1n hs (if_pos hs) (fun _ => rfl) (fun _ => if_pos hs)
    | 1, _, 2, _ => exact m_solve_1_2n hs (if_pos hs) (fun _ => rfl) (fun _ => if_pos hs)
    | 1, _, 3, _ => exact m_solve_1_3n hs (if_pos hs) (fun _ => rfl) (fun _ => if_pos hs)
    | 2, _, 0, _ => exact m_solve_2_0n hs (if_pos hs) (fun _ => rfl) (fun _ => if_pos hs)
    | 2, _, 1, _ => exact m_solve_2_1n hs (if_pos hs) (fun _ => rfl) (fun _ => if_pos hs)
    | 2, _, 2, _ => exact m_solve_2_2n hs (if_pos hs) (fun _ => rfl) (fun _ => if_pos hs)
    | 2, _, 3, _ => exact m_solve_2_3n hs (if_pos hs) (fun _ => rfl) (fun _ => if_pos hs)
    | 3, _, 0, _ => exact m_solve_3_0n hs (if_pos hs) (fun _ => rfl) (fun _ => if_pos hs)
    | 3, _, 1, _ => exact m_solve_3_1n hs (if_pos hs) (fun _ => rfl) (fun _ => if_pos hs)
    | 3, _, 2, _ => exact m_solve_3_2n hs (if_pos hs) (fun _ => rfl) (fun _ => if_pos hs)
    | 3, _, 3, _ => exact m_solve_3_3n hs (if_pos hs) (fun _ => rfl) (fun _ => if_pos hs)
    | 4, _, 0, _ => exact m_solve_4_0n hs (if_pos hs) (fun _ => rfl) (fun _ => if_pos hs)
    | 4, _, 1, _ => exact m_solve_4_1n hs (if_pos hs) (fun _ => rfl) (fun _ => if_pos hs)
    | 4, _, 2, _ => exact m_solve_4_2n hs (if_pos hs) (fun _ => rfl) (fun _ => if_pos hs)
    | 4, _, 3, _ => exact m_solve_4_3n hs (if_pos hs) (fun _ => rfl) (fun _ => if_pos hs)
  · match n, hn, b, hb with
    | 0, _, 0, _ => exact m_solve_0_0p hs (if_neg hs) (fun _ => rfl) (fun _ => if_neg hs)
    | 0, _, 1, _ => exact m_solve_0_1p hs (if_neg hs) (fun _ => rfl) (fun _ => if_neg hs)
    | 0, _, 2, _ => exact m_solve_0_2p hs (if_neg hs) (fun _ => rfl) (fun _ => if_neg hs)
    | 0, _, 3, _ => exact m_solve_0_3p hs (if_neg hs) (fun _ => rfl) (fun _ => if_neg hs)
    | 1, _, 0, _ => exact m_solve_1_0p hs (if_neg hs) (fun _ => rfl) (fun _ => if_neg hs)
    | 1, _, 1, _ => exact m_solve_1_1p hs (if_neg hs) (fun _ => rfl) (fun _ => if_neg hs)
    | 1, _, 2, _ => exact m_solve_1_2p hs (if_neg hs) (fun _ => rfl) (fun _ => if_neg hs)
    | 1, _, 3, _ => exact m_solve_1_3p hs (if_neg hs) (fun _ => rfl) (fun _ => if_neg hs)
    | 2, _, 0, _ => exact m_solve_2_0p hs (if_neg hs) (fun _ => rfl) (fun _ => if_neg hs)
    | 2, _, 1, _ => exact m_solve_2_1p hs (if_neg hs) (fun _ => rfl) (fun _ => if_neg hs)
    | 2, _, 2, _ => exact m_solve_2_2p hs (if_neg hs) (fun _ => rfl) (fun _ => if_neg hs)
    | 2, _, 3, _ => exact m_solve_2_3p hs (if_neg hs) (fun _ => rfl) (fun _ => if_neg hs)
    | 3, _, 0, _ => exact m_solve_3_0p hs (if_neg hs) (fun _ => rfl) (fun _ => if_neg hs)
    | 3, _, 1, _ => exact m_solve_3_1p hs (if_neg hs) (fun _ => rfl) (fun _ => if_neg hs)
    | 3, _, 2, _ => exact m_solve_3_2p hs (if_neg hs) (fun _ => rfl) (fun _ => if_neg hs)
    | 3, _, 3, _ => exact m_solve_3_3p hs (if_neg hs) (fun _ => rfl) (fun _ => if_neg hs)
    | 4, _, 0, _ => exact m_solve_4_0p hs (if_neg hs) (fun _ => rfl) (fun _ => if_neg hs)
    | 4, _, 1, _ => exact m_solve_4_1p hs (if_neg hs) (fun _ => rfl) (fun _ => if_neg hs)
    | 4, _, 2, _ => exact m_solve_4_2p hs (if_neg hs) (fun _ => rfl) (fun _ => if_neg hs)
    | 4, _, 3, _ => exact m_solve_4_3p hs (if_neg hs) (fun _ => rfl) (fun _ => if_neg hs)
end
