section
variable {l : Launch} {D : va_G} {ca : Nat → ClassId} {ad : Nat → Nat}

set_option maxRecDepth 20000 in
theorem m_keep_0 {n : Nat} {wo un h : Int64} {bo : Nat → Int32} {ta tr ro ot : Nat → Int64} {Bm : Nat → Nat → Nat → Int32} {bk : Nat → Nat → Int32} : KX3_keep l D ca ad [.ref 0] (MW (Int32.ofNat n) 0 wo un h bo ta tr ro ot Bm bk) (some (.int 0)) (MW (Int32.ofNat n) 1 wo un h bo ta tr ro ot (up Bm 0 (Bm 6)) bk) := by
  refine PX3_keep (Nat.le_of_ble_eq_true rfl) ?_
  intro G hT hC hR
  refine mB hT 8 rfl ?_
  refine hC _ 0 [_, _] _ _ _ _ _ (m_copy_6_0) rfl rfl (Nat.le_of_ble_eq_true rfl) rfl ?_
  refine mB hT 10 rfl ?_
  exact hR _ (by decide) _ _ _ rfl rfl
set_option maxRecDepth 20000 in
theorem m_recall_0 {n vs : Nat} {wo un h : Int64} {bo : Nat → Int32} {ta tr ro ot : Nat → Int64} {Bm : Nat → Nat → Nat → Int32} {bk : Nat → Nat → Int32} (hv : 0 < vs) (hvs : vs ≤ 6) : KX3_recall l D ca ad [.ref 0, .int 0] (MW (Int32.ofNat n) (Int32.ofNat vs) wo un h bo ta tr ro ot Bm bk) (some (.int 1)) (MW (Int32.ofNat n) (Int32.ofNat vs) wo un h bo ta tr ro ot (up Bm 6 (Bm 0)) bk) := by
  refine PX3_recall (Nat.le_of_ble_eq_true rfl) ?_
  intro G hT hC hR
  refine mB hT 6 rfl ?_
  refine hC.1 _ [_, _, _] _ _ _ _ (m_in_t (by decide) ((le_pred (by omega)).mpr (ofNat_lt (i := 0) hv (by omega)))) rfl (Nat.le_of_ble_eq_true rfl) rfl ?_
  refine mB hT 4 rfl ?_
  refine hC.2 _ 0 [_, _] _ _ _ _ _ (m_copy_0_6) rfl rfl (Nat.le_of_ble_eq_true rfl) rfl ?_
  refine mB hT 1 rfl ?_
  exact hR _ (by decide) _ _ _ rfl rfl
set_option maxRecDepth 20000 in
theorem m_keep_1 {n : Nat} {wo un h : Int64} {bo : Nat → Int32} {ta tr ro ot : Nat → Int64} {Bm : Nat → Nat → Nat → Int32} {bk : Nat → Nat → Int32} : KX3_keep l D ca ad [.ref 0] (MW (Int32.ofNat n) 1 wo un h bo ta tr ro ot Bm bk) (some (.int 1)) (MW (Int32.ofNat n) 2 wo un h bo ta tr ro ot (up Bm 1 (Bm 6)) bk) := by
  refine PX3_keep (Nat.le_of_ble_eq_true rfl) ?_
  intro G hT hC hR
  refine mB hT 8 rfl ?_
  refine hC _ 0 [_, _] _ _ _ _ _ (m_copy_6_1) rfl rfl (Nat.le_of_ble_eq_true rfl) rfl ?_
  refine mB hT 10 rfl ?_
  exact hR _ (by decide) _ _ _ rfl rfl
set_option maxRecDepth 20000 in
theorem m_recall_1 {n vs : Nat} {wo un h : Int64} {bo : Nat → Int32} {ta tr ro ot : Nat → Int64} {Bm : Nat → Nat → Nat → Int32} {bk : Nat → Nat → Int32} (hv : 1 < vs) (hvs : vs ≤ 6) : KX3_recall l D ca ad [.ref 0, .int 1] (MW (Int32.ofNat n) (Int32.ofNat vs) wo un h bo ta tr ro ot Bm bk) (some (.int 1)) (MW (Int32.ofNat n) (Int32.ofNat vs) wo un h bo ta tr ro ot (up Bm 6 (Bm 1)) bk) := by
  refine PX3_recall (Nat.le_of_ble_eq_true rfl) ?_
  intro G hT hC hR
  refine mB hT 6 rfl ?_
  refine hC.1 _ [_, _, _] _ _ _ _ (m_in_t (by decide) ((le_pred (by omega)).mpr (ofNat_lt (i := 1) hv (by omega)))) rfl (Nat.le_of_ble_eq_true rfl) rfl ?_
  refine mB hT 4 rfl ?_
  refine hC.2 _ 0 [_, _] _ _ _ _ _ (m_copy_1_6) rfl rfl (Nat.le_of_ble_eq_true rfl) rfl ?_
  refine mB hT 1 rfl ?_
  exact hR _ (by decide) _ _ _ rfl rfl
set_option maxRecDepth 20000 in
theorem m_keep_2 {n : Nat} {wo un h : Int64} {bo : Nat → Int32} {ta tr ro ot : Nat → Int64} {Bm : Nat → Nat → Nat → Int32} {bk : Nat → Nat → Int32} : KX3_keep l D ca ad [.ref 0] (MW (Int32.ofNat n) 2 wo un h bo ta tr ro ot Bm bk) (some (.int 2)) (MW (Int32.ofNat n) 3 wo un h bo ta tr ro ot (up Bm 2 (Bm 6)) bk) := by
  refine PX3_keep (Nat.le_of_ble_eq_true rfl) ?_
  intro G hT hC hR
  refine mB hT 8 rfl ?_
  refine hC _ 0 [_, _] _ _ _ _ _ (m_copy_6_2) rfl rfl (Nat.le_of_ble_eq_true rfl) rfl ?_
  refine mB hT 10 rfl ?_
  exact hR _ (by decide) _ _ _ rfl rfl
set_option maxRecDepth 20000 in
theorem m_recall_2 {n vs : Nat} {wo un h : Int64} {bo : Nat → Int32} {ta tr ro ot : Nat → Int64} {Bm : Nat → Nat → Nat → Int32} {bk : Nat → Nat → Int32} (hv : 2 < vs) (hvs : vs ≤ 6) : KX3_recall l D ca ad [.ref 0, .int 2] (MW (Int32.ofNat n) (Int32.ofNat vs) wo un h bo ta tr ro ot Bm bk) (some (.int 1)) (MW (Int32.ofNat n) (Int32.ofNat vs) wo un h bo ta tr ro ot (up Bm 6 (Bm 2)) bk) := by
  refine PX3_recall (Nat.le_of_ble_eq_true rfl) ?_
  intro G hT hC hR
  refine mB hT 6 rfl ?_
  refine hC.1 _ [_, _, _] _ _ _ _ (m_in_t (by decide) ((le_pred (by omega)).mpr (ofNat_lt (i := 2) hv (by omega)))) rfl (Nat.le_of_ble_eq_true rfl) rfl ?_
  refine mB hT 4 rfl ?_
  refine hC.2 _ 0 [_, _] _ _ _ _ _ (m_copy_2_6) rfl rfl (Nat.le_of_ble_eq_true rfl) rfl ?_
  refine mB hT 1 rfl ?_
  exact hR _ (by decide) _ _ _ rfl rfl
set_option maxRecDepth 20000 in
theorem m_keep_3 {n : Nat} {wo un h : Int64} {bo : Nat → Int32} {ta tr ro ot : Nat → Int64} {Bm : Nat → Nat → Nat → Int32} {bk : Nat → Nat → Int32} : KX3_keep l D ca ad [.ref 0] (MW (Int32.ofNat n) 3 wo un h bo ta tr ro ot Bm bk) (some (.int 3)) (MW (Int32.ofNat n) 4 wo un h bo ta tr ro ot (up Bm 3 (Bm 6)) bk) := by
  refine PX3_keep (Nat.le_of_ble_eq_true rfl) ?_
  intro G hT hC hR
  refine mB hT 8 rfl ?_
  refine hC _ 0 [_, _] _ _ _ _ _ (m_copy_6_3) rfl rfl (Nat.le_of_ble_eq_true rfl) rfl ?_
  refine mB hT 10 rfl ?_
  exact hR _ (by decide) _ _ _ rfl rfl
set_option maxRecDepth 20000 in
theorem m_recall_3 {n vs : Nat} {wo un h : Int64} {bo : Nat → Int32} {ta tr ro ot : Nat → Int64} {Bm : Nat → Nat → Nat → Int32} {bk : Nat → Nat → Int32} (hv : 3 < vs) (hvs : vs ≤ 6) : KX3_recall l D ca ad [.ref 0, .int 3] (MW (Int32.ofNat n) (Int32.ofNat vs) wo un h bo ta tr ro ot Bm bk) (some (.int 1)) (MW (Int32.ofNat n) (Int32.ofNat vs) wo un h bo ta tr ro ot (up Bm 6 (Bm 3)) bk) := by
  refine PX3_recall (Nat.le_of_ble_eq_true rfl) ?_
  intro G hT hC hR
  refine mB hT 6 rfl ?_
  refine hC.1 _ [_, _, _] _ _ _ _ (m_in_t (by decide) ((le_pred (by omega)).mpr (ofNat_lt (i := 3) hv (by omega)))) rfl (Nat.le_of_ble_eq_true rfl) rfl ?_
  refine mB hT 4 rfl ?_
  refine hC.2 _ 0 [_, _] _ _ _ _ _ (m_copy_3_6) rfl rfl (Nat.le_of_ble_eq_true rfl) rfl ?_
  refine mB hT 1 rfl ?_
  exact hR _ (by decide) _ _ _ rfl rfl
set_option maxRecDepth 20000 in
theorem m_keep_4 {n : Nat} {wo un h : Int64} {bo : Nat → Int32} {ta tr ro ot : Nat → Int64} {Bm : Nat → Nat → Nat → Int32} {bk : Nat → Nat → Int32} : KX3_keep l D ca ad [.ref 0] (MW (Int32.ofNat n) 4 wo un h bo ta tr ro ot Bm bk) (some (.int 4)) (MW (Int32.ofNat n) 5 wo un h bo ta tr ro ot (up Bm 4 (Bm 6)) bk) := by
  refine PX3_keep (Nat.le_of_ble_eq_true rfl) ?_
  intro G hT hC hR
  refine mB hT 8 rfl ?_
  refine hC _ 0 [_, _] _ _ _ _ _ (m_copy_6_4) rfl rfl (Nat.le_of_ble_eq_true rfl) rfl ?_
  refine mB hT 10 rfl ?_
  exact hR _ (by decide) _ _ _ rfl rfl
set_option maxRecDepth 20000 in
theorem m_recall_4 {n vs : Nat} {wo un h : Int64} {bo : Nat → Int32} {ta tr ro ot : Nat → Int64} {Bm : Nat → Nat → Nat → Int32} {bk : Nat → Nat → Int32} (hv : 4 < vs) (hvs : vs ≤ 6) : KX3_recall l D ca ad [.ref 0, .int 4] (MW (Int32.ofNat n) (Int32.ofNat vs) wo un h bo ta tr ro ot Bm bk) (some (.int 1)) (MW (Int32.ofNat n) (Int32.ofNat vs) wo un h bo ta tr ro ot (up Bm 6 (Bm 4)) bk) := by
  refine PX3_recall (Nat.le_of_ble_eq_true rfl) ?_
  intro G hT hC hR
  refine mB hT 6 rfl ?_
  refine hC.1 _ [_, _, _] _ _ _ _ (m_in_t (by decide) ((le_pred (by omega)).mpr (ofNat_lt (i := 4) hv (by omega)))) rfl (Nat.le_of_ble_eq_true rfl) rfl ?_
  refine mB hT 4 rfl ?_
  refine hC.2 _ 0 [_, _] _ _ _ _ _ (m_copy_4_6) rfl rfl (Nat.le_of_ble_eq_true rfl) rfl ?_
  refine mB hT 1 rfl ?_
  exact hR _ (by decide) _ _ _ rfl rfl
set_option maxRecDepth 20000 in
theorem m_keep_5 {n : Nat} {wo un h : Int64} {bo : Nat → Int32} {ta tr ro ot : Nat → Int64} {Bm : Nat → Nat → Nat → Int32} {bk : Nat → Nat → Int32} : KX3_keep l D ca ad [.ref 0] (MW (Int32.ofNat n) 5 wo un h bo ta tr ro ot Bm bk) (some (.int 5)) (MW (Int32.ofNat n) 6 wo un h bo ta tr ro ot (up Bm 5 (Bm 6)) bk) := by
  refine PX3_keep (Nat.le_of_ble_eq_true rfl) ?_
  intro G hT hC hR
  refine mB hT 8 rfl ?_
  refine hC _ 0 [_, _] _ _ _ _ _ (m_copy_6_5) rfl rfl (Nat.le_of_ble_eq_true rfl) rfl ?_
  refine mB hT 10 rfl ?_
  exact hR _ (by decide) _ _ _ rfl rfl
set_option maxRecDepth 20000 in
theorem m_recall_5 {n vs : Nat} {wo un h : Int64} {bo : Nat → Int32} {ta tr ro ot : Nat → Int64} {Bm : Nat → Nat → Nat → Int32} {bk : Nat → Nat → Int32} (hv : 5 < vs) (hvs : vs ≤ 6) : KX3_recall l D ca ad [.ref 0, .int 5] (MW (Int32.ofNat n) (Int32.ofNat vs) wo un h bo ta tr ro ot Bm bk) (some (.int 1)) (MW (Int32.ofNat n) (Int32.ofNat vs) wo un h bo ta tr ro ot (up Bm 6 (Bm 5)) bk) := by
  refine PX3_recall (Nat.le_of_ble_eq_true rfl) ?_
  intro G hT hC hR
  refine mB hT 6 rfl ?_
  refine hC.1 _ [_, _, _] _ _ _ _ (m_in_t (by decide) ((le_pred (by omega)).mpr (ofNat_lt (i := 5) hv (by omega)))) rfl (Nat.le_of_ble_eq_true rfl) rfl ?_
  refine mB hT 4 rfl ?_
  refine hC.2 _ 0 [_, _] _ _ _ _ _ (m_copy_5_6) rfl rfl (Nat.le_of_ble_eq_true rfl) rfl ?_
  refine mB hT 1 rfl ?_
  exact hR _ (by decide) _ _ _ rfl rfl
theorem m_keep {n vs : Nat} {wo un h : Int64} {bo : Nat → Int32} {ta tr ro ot : Nat → Int64} {Bm : Nat → Nat → Nat → Int32} {bk : Nat → Nat → Int32} (hv : vs < 6) : KX3_keep l D ca ad [.ref 0] (MW (Int32.ofNat n) (Int32.ofNat vs) wo un h bo ta tr ro ot Bm bk) (some (.int (Int32.ofNat vs))) (MW (Int32.ofNat n) (Int32.ofNat (vs + 1)) wo un h bo ta tr ro ot (up Bm vs (Bm 6)) bk) := by
  match vs, hv with
  | 0, _ => exact m_keep_0
  | 1, _ => exact m_keep_1
  | 2, _ => exact m_keep_2
  | 3, _ => exact m_keep_3
  | 4, _ => exact m_keep_4
  | 5, _ => exact m_keep_5
theorem m_recall {n vs : Nat} {wo un h : Int64} {bo : Nat → Int32} {ta tr ro ot : Nat → Int64} {Bm : Nat → Nat → Nat → Int32} {bk : Nat → Nat → Int32} {v : Nat} (hv : v < vs) (hvs : vs ≤ 6) : KX3_recall l D ca ad [.ref 0, .int (Int32.ofNat v)] (MW (Int32.ofNat n) (Int32.ofNat vs) wo un h bo ta tr ro ot Bm bk) (some (.int 1)) (MW (Int32.ofNat n) (Int32.ofNat vs) wo un h bo ta tr ro ot (up Bm 6 (Bm v)) bk) := by
  match v, hv with
  | 0, hv => exact m_recall_0 hv hvs
  | 1, hv => exact m_recall_1 hv hvs
  | 2, hv => exact m_recall_2 hv hvs
  | 3, hv => exact m_recall_3 hv hvs
  | 4, hv => exact m_recall_4 hv hvs
  | 5, hv => exact m_recall_5 hv hvs
  | v + 6, hv => omega
end
