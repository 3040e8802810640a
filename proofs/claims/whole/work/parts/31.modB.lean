section
variable {l : Launch} {D : va_G} {ca : Nat → ClassId} {ad : Nat → Nat}

set_option maxRecDepth 20000 in
theorem m_entryOf_0_0_0 {n vs : Nat} {wo un h : Int64} {bo : Nat → Int32} {ta tr ro ot : Nat → Int64} {Bm : Nat → Nat → Nat → Int32} {bk : Nat → Nat → Int32} (hn : n ≤ 4) : KX3_entryOf l D ca ad [.ref 0, .int 0, .int 0, .int 0] (MW (Int32.ofNat n) (Int32.ofNat vs) wo un h bo ta tr ro ot Bm bk) (some (.int (ceM n (Bm 0) 0 0))) (MW (Int32.ofNat n) (Int32.ofNat vs) wo un h bo ta tr ro ot Bm bk) := by
  refine PX3_entryOf (Nat.le_of_ble_eq_true rfl) ?_
  intro G hT hC hR
  refine mB hT 36 rfl ?_
  refine mIf (fun h1 => ?_) (fun h1 => ?_)
  · refine mNf (lv2 := [(5, .int (Bm 0 0 0)), (4, .int (Bm 0 0 4)), (0, .ref 0), (1, .int 0), (2, .int 0), (3, .int 0)]) (st2 := []) rfl rfl ?_
    refine mB hT 16 rfl ?_
    exact hR _ (by decide) _ _ _ (congrArg (fun z => [Value.int z]) (if_pos h1).symm) rfl
  · refine mNf (lv2 := [(5, .int (Bm 0 0 0)), (4, .int (Bm 0 0 4)), (0, .ref 0), (1, .int 0), (2, .int 0), (3, .int 0)]) (st2 := []) rfl rfl ?_
    refine mB hT 4 rfl ?_
    refine hC.1 _ 0 [_, _] _ _ _ _ _ (m_all_0_0 hn) rfl rfl (Nat.le_of_ble_eq_true rfl) rfl ?_
    refine mB hT 5 rfl ?_
    refine hC.2 _ 0 [_, _] _ _ _ _ _ (m_main_0_0) rfl rfl (Nat.le_of_ble_eq_true rfl) rfl ?_
    refine mB hT 2 rfl ?_
    exact hR _ (by decide) _ _ _ (congrArg (fun z => [Value.int z]) (if_neg h1).symm) rfl
set_option maxRecDepth 20000 in
theorem m_entryOf_0_0_1 {n vs : Nat} {wo un h : Int64} {bo : Nat → Int32} {ta tr ro ot : Nat → Int64} {Bm : Nat → Nat → Nat → Int32} {bk : Nat → Nat → Int32} (hn : n ≤ 4) : KX3_entryOf l D ca ad [.ref 0, .int 0, .int 0, .int 1] (MW (Int32.ofNat n) (Int32.ofNat vs) wo un h bo ta tr ro ot Bm bk) (some (.int (ceM n (Bm 0) 1 0))) (MW (Int32.ofNat n) (Int32.ofNat vs) wo un h bo ta tr ro ot Bm bk) := by
  refine PX3_entryOf (Nat.le_of_ble_eq_true rfl) ?_
  intro G hT hC hR
  refine mB hT 28 rfl ?_
  refine mIf (fun h1 => ?_) (fun h1 => ?_)
  · refine mNf (lv2 := [(5, .int 0), (4, .int (Bm 0 1 4)), (0, .ref 0), (1, .int 0), (2, .int 0), (3, .int 1)]) (st2 := []) rfl rfl ?_
    refine mB hT 16 rfl ?_
    exact hR _ (by decide) _ _ _ (congrArg (fun z => [Value.int z]) (if_pos h1).symm) rfl
  · refine mNf (lv2 := [(5, .int 0), (4, .int (Bm 0 1 4)), (0, .ref 0), (1, .int 0), (2, .int 0), (3, .int 1)]) (st2 := []) rfl rfl ?_
    refine mB hT 4 rfl ?_
    refine hC.1 _ 0 [_, _] _ _ _ _ _ (m_all_0_1 hn) rfl rfl (Nat.le_of_ble_eq_true rfl) rfl ?_
    refine mB hT 5 rfl ?_
    refine hC.2 _ 0 [_, _] _ _ _ _ _ (m_main_0_1) rfl rfl (Nat.le_of_ble_eq_true rfl) rfl ?_
    refine mB hT 2 rfl ?_
    exact hR _ (by decide) _ _ _ (congrArg (fun z => [Value.int z]) (if_neg h1).symm) rfl
set_option maxRecDepth 20000 in
theorem m_entryOf_0_0_2 {n vs : Nat} {wo un h : Int64} {bo : Nat → Int32} {ta tr ro ot : Nat → Int64} {Bm : Nat → Nat → Nat → Int32} {bk : Nat → Nat → Int32} (hn : n ≤ 4) : KX3_entryOf l D ca ad [.ref 0, .int 0, .int 0, .int 2] (MW (Int32.ofNat n) (Int32.ofNat vs) wo un h bo ta tr ro ot Bm bk) (some (.int (ceM n (Bm 0) 2 0))) (MW (Int32.ofNat n) (Int32.ofNat vs) wo un h bo ta tr ro ot Bm bk) := by
  refine PX3_entryOf (Nat.le_of_ble_eq_true rfl) ?_
  intro G hT hC hR
  refine mB hT 28 rfl ?_
  refine mIf (fun h1 => ?_) (fun h1 => ?_)
  · refine mNf (lv2 := [(5, .int 0), (4, .int (Bm 0 2 4)), (0, .ref 0), (1, .int 0), (2, .int 0), (3, .int 2)]) (st2 := []) rfl rfl ?_
    refine mB hT 16 rfl ?_
    exact hR _ (by decide) _ _ _ (congrArg (fun z => [Value.int z]) (if_pos h1).symm) rfl
  · refine mNf (lv2 := [(5, .int 0), (4, .int (Bm 0 2 4)), (0, .ref 0), (1, .int 0), (2, .int 0), (3, .int 2)]) (st2 := []) rfl rfl ?_
    refine mB hT 4 rfl ?_
    refine hC.1 _ 0 [_, _] _ _ _ _ _ (m_all_0_2 hn) rfl rfl (Nat.le_of_ble_eq_true rfl) rfl ?_
    refine mB hT 5 rfl ?_
    refine hC.2 _ 0 [_, _] _ _ _ _ _ (m_main_0_2) rfl rfl (Nat.le_of_ble_eq_true rfl) rfl ?_
    refine mB hT 2 rfl ?_
    exact hR _ (by decide) _ _ _ (congrArg (fun z => [Value.int z]) (if_neg h1).symm) rfl
set_option maxRecDepth 20000 in
theorem m_entryOf_0_0_3 {n vs : Nat} {wo un h : Int64} {bo : Nat → Int32} {ta tr ro ot : Nat → Int64} {Bm : Nat → Nat → Nat → Int32} {bk : Nat → Nat → Int32} (hn : n ≤ 4) : KX3_entryOf l D ca ad [.ref 0, .int 0, .int 0, .int 3] (MW (Int32.ofNat n) (Int32.ofNat vs) wo un h bo ta tr ro ot Bm bk) (some (.int (ceM n (Bm 0) 3 0))) (MW (Int32.ofNat n) (Int32.ofNat vs) wo un h bo ta tr ro ot Bm bk) := by
  refine PX3_entryOf (Nat.le_of_ble_eq_true rfl) ?_
  intro G hT hC hR
  refine mB hT 28 rfl ?_
  refine mIf (fun h1 => ?_) (fun h1 => ?_)
  · refine mNf (lv2 := [(5, .int 0), (4, .int (Bm 0 3 4)), (0, .ref 0), (1, .int 0), (2, .int 0), (3, .int 3)]) (st2 := []) rfl rfl ?_
    refine mB hT 16 rfl ?_
    exact hR _ (by decide) _ _ _ (congrArg (fun z => [Value.int z]) (if_pos h1).symm) rfl
  · refine mNf (lv2 := [(5, .int 0), (4, .int (Bm 0 3 4)), (0, .ref 0), (1, .int 0), (2, .int 0), (3, .int 3)]) (st2 := []) rfl rfl ?_
    refine mB hT 4 rfl ?_
    refine hC.1 _ 0 [_, _] _ _ _ _ _ (m_all_0_3 hn) rfl rfl (Nat.le_of_ble_eq_true rfl) rfl ?_
    refine mB hT 5 rfl ?_
    refine hC.2 _ 0 [_, _] _ _ _ _ _ (m_main_0_3) rfl rfl (Nat.le_of_ble_eq_true rfl) rfl ?_
    refine mB hT 2 rfl ?_
    exact hR _ (by decide) _ _ _ (congrArg (fun z => [Value.int z]) (if_neg h1).symm) rfl
set_option maxRecDepth 20000 in
theorem m_entryOf_0_1_0 {n vs : Nat} {wo un h : Int64} {bo : Nat → Int32} {ta tr ro ot : Nat → Int64} {Bm : Nat → Nat → Nat → Int32} {bk : Nat → Nat → Int32} (hn : n ≤ 4) : KX3_entryOf l D ca ad [.ref 0, .int 0, .int 1, .int 0] (MW (Int32.ofNat n) (Int32.ofNat vs) wo un h bo ta tr ro ot Bm bk) (some (.int (ceM n (Bm 0) 0 1))) (MW (Int32.ofNat n) (Int32.ofNat vs) wo un h bo ta tr ro ot Bm bk) := by
  refine PX3_entryOf (Nat.le_of_ble_eq_true rfl) ?_
  intro G hT hC hR
  refine mB hT 28 rfl ?_
  refine mIf (fun h1 => ?_) (fun h1 => ?_)
  · refine mNf (lv2 := [(5, .int 0), (4, .int (Bm 0 0 5)), (0, .ref 0), (1, .int 0), (2, .int 1), (3, .int 0)]) (st2 := []) rfl rfl ?_
    refine mB hT 16 rfl ?_
    exact hR _ (by decide) _ _ _ (congrArg (fun z => [Value.int z]) (if_pos h1).symm) rfl
  · refine mNf (lv2 := [(5, .int 0), (4, .int (Bm 0 0 5)), (0, .ref 0), (1, .int 0), (2, .int 1), (3, .int 0)]) (st2 := []) rfl rfl ?_
    refine mB hT 4 rfl ?_
    refine hC.1 _ 0 [_, _] _ _ _ _ _ (m_all_0_0 hn) rfl rfl (Nat.le_of_ble_eq_true rfl) rfl ?_
    refine mB hT 5 rfl ?_
    refine hC.2 _ 0 [_, _] _ _ _ _ _ (m_main_0_0) rfl rfl (Nat.le_of_ble_eq_true rfl) rfl ?_
    refine mB hT 2 rfl ?_
    exact hR _ (by decide) _ _ _ (congrArg (fun z => [Value.int z]) (if_neg h1).symm) rfl
set_option maxRecDepth 20000 in
theorem m_entryOf_0_1_1 {n vs : Nat} {wo un h : Int64} {bo : Nat → Int32} {ta tr ro ot : Nat → Int64} {Bm : Nat → Nat → Nat → Int32} {bk : Nat → Nat → Int32} (hn : n ≤ 4) : KX3_entryOf l D ca ad [.ref 0, .int 0, .int 1, .int 1] (MW (Int32.ofNat n) (Int32.ofNat vs) wo un h bo ta tr ro ot Bm bk) (some (.int (ceM n (Bm 0) 1 1))) (MW (Int32.ofNat n) (Int32.ofNat vs) wo un h bo ta tr ro ot Bm bk) := by
  refine PX3_entryOf (Nat.le_of_ble_eq_true rfl) ?_
  intro G hT hC hR
  refine mB hT 36 rfl ?_
  refine mIf (fun h1 => ?_) (fun h1 => ?_)
  · refine mNf (lv2 := [(5, .int (Bm 0 1 0)), (4, .int (Bm 0 1 5)), (0, .ref 0), (1, .int 0), (2, .int 1), (3, .int 1)]) (st2 := []) rfl rfl ?_
    refine mB hT 16 rfl ?_
    exact hR _ (by decide) _ _ _ (congrArg (fun z => [Value.int z]) (if_pos h1).symm) rfl
  · refine mNf (lv2 := [(5, .int (Bm 0 1 0)), (4, .int (Bm 0 1 5)), (0, .ref 0), (1, .int 0), (2, .int 1), (3, .int 1)]) (st2 := []) rfl rfl ?_
    refine mB hT 4 rfl ?_
    refine hC.1 _ 0 [_, _] _ _ _ _ _ (m_all_0_1 hn) rfl rfl (Nat.le_of_ble_eq_true rfl) rfl ?_
    refine mB hT 5 rfl ?_
    refine hC.2 _ 0 [_, _] _ _ _ _ _ (m_main_0_1) rfl rfl (Nat.le_of_ble_eq_true rfl) rfl ?_
    refine mB hT 2 rfl ?_
    exact hR _ (by decide) _ _ _ (congrArg (fun z => [Value.int z]) (if_neg h1).symm) rfl
set_option maxRecDepth 20000 in
theorem m_entryOf_0_1_2 {n vs : Nat} {wo un h : Int64} {bo : Nat → Int32} {ta tr ro ot : Nat → Int64} {Bm : Nat → Nat → Nat → Int32} {bk : Nat → Nat → Int32} (hn : n ≤ 4) : KX3_entryOf l D ca ad [.ref 0, .int 0, .int 1, .int 2] (MW (Int32.ofNat n) (Int32.ofNat vs) wo un h bo ta tr ro ot Bm bk) (some (.int (ceM n (Bm 0) 2 1))) (MW (Int32.ofNat n) (Int32.ofNat vs) wo un h bo ta tr ro ot Bm bk) := by
  refine PX3_entryOf (Nat.le_of_ble_eq_true rfl) ?_
  intro G hT hC hR
  refine mB hT 28 rfl ?_
  refine mIf (fun h1 => ?_) (fun h1 => ?_)
  · refine mNf (lv2 := [(5, .int 0), (4, .int (Bm 0 2 5)), (0, .ref 0), (1, .int 0), (2, .int 1), (3, .int 2)]) (st2 := []) rfl rfl ?_
    refine mB hT 16 rfl ?_
    exact hR _ (by decide) _ _ _ (congrArg (fun z => [Value.int z]) (if_pos h1).symm) rfl
  · refine mNf (lv2 := [(5, .int 0), (4, .int (Bm 0 2 5)), (0, .ref 0), (1, .int 0), (2, .int 1), (3, .int 2)]) (st2 := []) rfl rfl ?_
    refine mB hT 4 rfl ?_
    refine hC.1 _ 0 [_, _] _ _ _ _ _ (m_all_0_2 hn) rfl rfl (Nat.le_of_ble_eq_true rfl) rfl ?_
    refine mB hT 5 rfl ?_
    refine hC.2 _ 0 [_, _] _ _ _ _ _ (m_main_0_2) rfl rfl (Nat.le_of_ble_eq_true rfl) rfl ?_
    refine mB hT 2 rfl ?_
    exact hR _ (by decide) _ _ _ (congrArg (fun z => [Value.int z]) (if_neg h1).symm) rfl
set_option maxRecDepth 20000 in
theorem m_entryOf_0_1_3 {n vs : Nat} {wo un h : Int64} {bo : Nat → Int32} {ta tr ro ot : Nat → Int64} {Bm : Nat → Nat → Nat → Int32} {bk : Nat → Nat → Int32} (hn : n ≤ 4) : KX3_entryOf l D ca ad [.ref 0, .int 0, .int 1, .int 3] (MW (Int32.ofNat n) (Int32.ofNat vs) wo un h bo ta tr ro ot Bm bk) (some (.int (ceM n (Bm 0) 3 1))) (MW (Int32.ofNat n) (Int32.ofNat vs) wo un h bo ta tr ro ot Bm bk) := by
  refine PX3_entryOf (Nat.le_of_ble_eq_true rfl) ?_
  intro G hT hC hR
  refine mB hT 28 rfl ?_
  refine mIf (fun h1 => ?_) (fun h1 => ?_)
  · refine mNf (lv2 := [(5, .int 0), (4, .int (Bm 0 3 5)), (0, .ref 0), (1, .int 0), (2, .int 1), (3, .int 3)]) (st2 := []) rfl rfl ?_
    refine mB hT 16 rfl ?_
    exact hR _ (by decide) _ _ _ (congrArg (fun z => [Value.int z]) (if_pos h1).symm) rfl
  · refine mNf (lv2 := [(5, .int 0), (4, .int (Bm 0 3 5)), (0, .ref 0), (1, .int 0), (2, .int 1), (3, .int 3)]) (st2 := []) rfl rfl ?_
    refine mB hT 4 rfl ?_
    refine hC.1 _ 0 [_, _] _ _ _ _ _ (m_all_0_3 hn) rfl rfl (Nat.le_of_ble_eq_true rfl) rfl ?_
    refine mB hT 5 rfl ?_
    refine hC.2 _ 0 [_, _] _ _ _ _ _ (m_main_0_3) rfl rfl (Nat.le_of_ble_eq_true rfl) rfl ?_
    refine mB hT 2 rfl ?_
    exact hR _ (by decide) _ _ _ (congrArg (fun z => [Value.int z]) (if_neg h1).symm) rfl
set_option maxRecDepth 20000 in
theorem m_entryOf_0_2_0 {n vs : Nat} {wo un h : Int64} {bo : Nat → Int32} {ta tr ro ot : Nat → Int64} {Bm : Nat → Nat → Nat → Int32} {bk : Nat → Nat → Int32} (hn : n ≤ 4) : KX3_entryOf l D ca ad [.ref 0, .int 0, .int 2, .int 0] (MW (Int32.ofNat n) (Int32.ofNat vs) wo un h bo ta tr ro ot Bm bk) (some (.int (ceM n (Bm 0) 0 2))) (MW (Int32.ofNat n) (Int32.ofNat vs) wo un h bo ta tr ro ot Bm bk) := by
  refine PX3_entryOf (Nat.le_of_ble_eq_true rfl) ?_
  intro G hT hC hR
  refine mB hT 28 rfl ?_
  refine mIf (fun h1 => ?_) (fun h1 => ?_)
  · refine mNf (lv2 := [(5, .int 0), (4, .int (Bm 0 0 6)), (0, .ref 0), (1, .int 0), (2, .int 2), (3, .int 0)]) (st2 := []) rfl rfl ?_
    refine mB hT 16 rfl ?_
    exact hR _ (by decide) _ _ _ (congrArg (fun z => [Value.int z]) (if_pos h1).symm) rfl
  · refine mNf (lv2 := [(5, .int 0), (4, .int (Bm 0 0 6)), (0, .ref 0), (1, .int 0), (2, .int 2), (3, .int 0)]) (st2 := []) rfl rfl ?_
    refine mB hT 4 rfl ?_
    refine hC.1 _ 0 [_, _] _ _ _ _ _ (m_all_0_0 hn) rfl rfl (Nat.le_of_ble_eq_true rfl) rfl ?_
    refine mB hT 5 rfl ?_
    refine hC.2 _ 0 [_, _] _ _ _ _ _ (m_main_0_0) rfl rfl (Nat.le_of_ble_eq_true rfl) rfl ?_
    refine mB hT 2 rfl ?_
    exact hR _ (by decide) _ _ _ (congrArg (fun z => [Value.int z]) (if_neg h1).symm) rfl
set_option maxRecDepth 20000 in
theorem m_entryOf_0_2_1 {n vs : Nat} {wo un h : Int64} {bo : Nat → Int32} {ta tr ro ot : Nat → Int64} {Bm : Nat → Nat → Nat → Int32} {bk : Nat → Nat → Int32} (hn : n ≤ 4) : KX3_entryOf l D ca ad [.ref 0, .int 0, .int 2, .int 1] (MW (Int32.ofNat n) (Int32.ofNat vs) wo un h bo ta tr ro ot Bm bk) (some (.int (ceM n (Bm 0) 1 2))) (MW (Int32.ofNat n) (Int32.ofNat vs) wo un h bo ta tr ro ot Bm bk) := by
  refine PX3_entryOf (Nat.le_of_ble_eq_true rfl) ?_
  intro G hT hC hR
  refine mB hT 28 rfl ?_
  refine mIf (fun h1 => ?_) (fun h1 => ?_)
  · refine mNf (lv2 := [(5, .int 0), (4, .int (Bm 0 1 6)), (0, .ref 0), (1, .int 0), (2, .int 2), (3, .int 1)]) (st2 := []) rfl rfl ?_
    refine mB hT 16 rfl ?_
    exact hR _ (by decide) _ _ _ (congrArg (fun z => [Value.int z]) (if_pos h1).symm) rfl
  · refine mNf (lv2 := [(5, .int 0), (4, .int (Bm 0 1 6)), (0, .ref 0), (1, .int 0), (2, .int 2), (3, .int 1)]) (st2 := []) rfl rfl ?_
    refine mB hT 4 rfl ?_
    refine hC.1 _ 0 [_, _] _ _ _ _ _ (m_all_0_1 hn) rfl rfl (Nat.le_of_ble_eq_true rfl) rfl ?_
    refine mB hT 5 rfl ?_
    refine hC.2 _ 0 [_, _] _ _ _ _ _ (m_main_0_1) rfl rfl (Nat.le_of_ble_eq_true rfl) rfl ?_
    refine mB hT 2 rfl ?_
    exact hR _ (by decide) _ _ _ (congrArg (fun z => [Value.int z]) (if_neg h1).symm) rfl
set_option maxRecDepth 20000 in
theorem m_entryOf_0_2_2 {n vs : Nat} {wo un h : Int64} {bo : Nat → Int32} {ta tr ro ot : Nat → Int64} {Bm : Nat → Nat → Nat → Int32} {bk : Nat → Nat → Int32} (hn : n ≤ 4) : KX3_entryOf l D ca ad [.ref 0, .int 0, .int 2, .int 2] (MW (Int32.ofNat n) (Int32.ofNat vs) wo un h bo ta tr ro ot Bm bk) (some (.int (ceM n (Bm 0) 2 2))) (MW (Int32.ofNat n) (Int32.ofNat vs) wo un h bo ta tr ro ot Bm bk) := by
  refine PX3_entryOf (Nat.le_of_ble_eq_true rfl) ?_
  intro G hT hC hR
  refine mB hT 36 rfl ?_
  refine mIf (fun h1 => ?_) (fun h1 => ?_)
  · refine mNf (lv2 := [(5, .int (Bm 0 2 0)), (4, .int (Bm 0 2 6)), (0, .ref 0), (1, .int 0), (2, .int 2), (3, .int 2)]) (st2 := []) rfl rfl ?_
    refine mB hT 16 rfl ?_
    exact hR _ (by decide) _ _ _ (congrArg (fun z => [Value.int z]) (if_pos h1).symm) rfl
  · refine mNf (lv2 := [(5, .int (Bm 0 2 0)), (4, .int (Bm 0 2 6)), (0, .ref 0), (1, .int 0), (2, .int 2), (3, .int 2)]) (st2 := []) rfl rfl ?_
    refine mB hT 4 rfl ?_
    refine hC.1 _ 0 [_, _] _ _ _ _ _ (m_all_0_2 hn) rfl rfl (Nat.le_of_ble_eq_true rfl) rfl ?_
    refine mB hT 5 rfl ?_
    refine hC.2 _ 0 [_, _] _ _ _ _ _ (m_main_0_2) rfl rfl (Nat.le_of_ble_eq_true rfl) rfl ?_
    refine mB hT 2 rfl ?_
    exact hR _ (by decide) _ _ _ (congrArg (fun z => [Value.int z]) (if_neg h1).symm) rfl
set_option maxRecDepth 20000 in
theorem m_entryOf_0_2_3 {n vs : Nat} {wo un h : Int64} {bo : Nat → Int32} {ta tr ro ot : Nat → Int64} {Bm : Nat → Nat → Nat → Int32} {bk : Nat → Nat → Int32} (hn : n ≤ 4) : KX3_entryOf l D ca ad [.ref 0, .int 0, .int 2, .int 3] (MW (Int32.ofNat n) (Int32.ofNat vs) wo un h bo ta tr ro ot Bm bk) (some (.int (ceM n (Bm 0) 3 2))) (MW (Int32.ofNat n) (Int32.ofNat vs) wo un h bo ta tr ro ot Bm bk) := by
  refine PX3_entryOf (Nat.le_of_ble_eq_true rfl) ?_
  intro G hT hC hR
  refine mB hT 28 rfl ?_
  refine mIf (fun h1 => ?_) (fun h1 => ?_)
  · refine mNf (lv2 := [(5, .int 0), (4, .int (Bm 0 3 6)), (0, .ref 0), (1, .int 0), (2, .int 2), (3, .int 3)]) (st2 := []) rfl rfl ?_
    refine mB hT 16 rfl ?_
    exact hR _ (by decide) _ _ _ (congrArg (fun z => [Value.int z]) (if_pos h1).symm) rfl
  · refine mNf (lv2 := [(5, .int 0), (4, .int (Bm 0 3 6)), (0, .ref 0), (1, .int 0), (2, .int 2), (3, .int 3)]) (st2 := []) rfl rfl ?_
    refine mB hT 4 rfl ?_
    refine hC.1 _ 0 [_, _] _ _ _ _ _ (m_all_0_3 hn) rfl rfl (Nat.le_of_ble_eq_true rfl) rfl ?_
    refine mB hT 5 rfl ?_
    refine hC.2 _ 0 [_, _] _ _ _ _ _ (m_main_0_3) rfl rfl (Nat.le_of_ble_eq_true rfl) rfl ?_
    refine mB hT 2 rfl ?_
    exact hR _ (by decide) _ _ _ (congrArg (fun z => [Value.int z]) (if_neg h1).symm) rfl
set_option maxRecDepth 20000 in
theorem m_entryOf_0_3_0 {n vs : Nat} {wo un h : Int64} {bo : Nat → Int32} {ta tr ro ot : Nat → Int64} {Bm : Nat → Nat → Nat → Int32} {bk : Nat → Nat → Int32} (hn : n ≤ 4) : KX3_entryOf l D ca ad [.ref 0, .int 0, .int 3, .int 0] (MW (Int32.ofNat n) (Int32.ofNat vs) wo un h bo ta tr ro ot Bm bk) (some (.int (ceM n (Bm 0) 0 3))) (MW (Int32.ofNat n) (Int32.ofNat vs) wo un h bo ta tr ro ot Bm bk) := by
  refine PX3_entryOf (Nat.le_of_ble_eq_true rfl) ?_
  intro G hT hC hR
  refine mB hT 28 rfl ?_
  refine mIf (fun h1 => ?_) (fun h1 => ?_)
  · refine mNf (lv2 := [(5, .int 0), (4, .int (Bm 0 0 7)), (0, .ref 0), (1, .int 0), (2, .int 3), (3, .int 0)]) (st2 := []) rfl rfl ?_
    refine mB hT 16 rfl ?_
    exact hR _ (by decide) _ _ _ (congrArg (fun z => [Value.int z]) (if_pos h1).symm) rfl
  · refine mNf (lv2 := [(5, .int 0), (4, .int (Bm 0 0 7)), (0, .ref 0), (1, .int 0), (2, .int 3), (3, .int 0)]) (st2 := []) rfl rfl ?_
    refine mB hT 4 rfl ?_
    refine hC.1 _ 0 [_, _] _ _ _ _ _ (m_all_0_0 hn) rfl rfl (Nat.le_of_ble_eq_true rfl) rfl ?_
    refine mB hT 5 rfl ?_
    refine hC.2 _ 0 [_, _] _ _ _ _ _ (m_main_0_0) rfl rfl (Nat.le_of_ble_eq_true rfl) rfl ?_
    refine mB hT 2 rfl ?_
    exact hR _ (by decide) _ _ _ (congrArg (fun z => [Value.int z]) (if_neg h1).symm) rfl
set_option maxRecDepth 20000 in
theorem m_entryOf_0_3_1 {n vs : Nat} {wo un h : Int64} {bo : Nat → Int32} {ta tr ro ot : Nat → Int64} {Bm : Nat → Nat → Nat → Int32} {bk : Nat → Nat → Int32} (hn : n ≤ 4) : KX3_entryOf l D ca ad [.ref 0, .int 0, .int 3, .int 1] (MW (Int32.ofNat n) (Int32.ofNat vs) wo un h bo ta tr ro ot Bm bk) (some (.int (ceM n (Bm 0) 1 3))) (MW (Int32.ofNat n) (Int32.ofNat vs) wo un h bo ta tr ro ot Bm bk) := by
  refine PX3_entryOf (Nat.le_of_ble_eq_true rfl) ?_
  intro G hT hC hR
  refine mB hT 28 rfl ?_
  refine mIf (fun h1 => ?_) (fun h1 => ?_)
  · refine mNf (lv2 := [(5, .int 0), (4, .int (Bm 0 1 7)), (0, .ref 0), (1, .int 0), (2, .int 3), (3, .int 1)]) (st2 := []) rfl rfl ?_
    refine mB hT 16 rfl ?_
    exact hR _ (by decide) _ _ _ (congrArg (fun z => [Value.int z]) (if_pos h1).symm) rfl
  · refine mNf (lv2 := [(5, .int 0), (4, .int (Bm 0 1 7)), (0, .ref 0), (1, .int 0), (2, .int 3), (3, .int 1)]) (st2 := []) rfl rfl ?_
    refine mB hT 4 rfl ?_
    refine hC.1 _ 0 [_, _] _ _ _ _ _ (m_all_0_1 hn) rfl rfl (Nat.le_of_ble_eq_true rfl) rfl ?_
    refine mB hT 5 rfl ?_
    refine hC.2 _ 0 [_, _] _ _ _ _ _ (m_main_0_1) rfl rfl (Nat.le_of_ble_eq_true rfl) rfl ?_
    refine mB hT 2 rfl ?_
    exact hR _ (by decide) _ _ _ (congrArg (fun z => [Value.int z]) (if_neg h1).symm) rfl
set_option maxRecDepth 20000 in
theorem m_entryOf_0_3_2 {n vs : Nat} {wo un h : Int64} {bo : Nat → Int32} {ta tr ro ot : Nat → Int64} {Bm : Nat → Nat → Nat → Int32} {bk : Nat → Nat → Int32} (hn : n ≤ 4) : KX3_entryOf l D ca ad [.ref 0, .int 0, .int 3, .int 2] (MW (Int32.ofNat n) (Int32.ofNat vs) wo un h bo ta tr ro ot Bm bk) (some (.int (ceM n (Bm 0) 2 3))) (MW (Int32.ofNat n) (Int32.ofNat vs) wo un h bo ta tr ro ot Bm bk) := by
  refine PX3_entryOf (Nat.le_of_ble_eq_true rfl) ?_
  intro G hT hC hR
  refine mB hT 28 rfl ?_
  refine mIf (fun h1 => ?_) (fun h1 => ?_)
  · refine mNf (lv2 := [(5, .int 0), (4, .int (Bm 0 2 7)), (0, .ref 0), (1, .int 0), (2, .int 3), (3, .int 2)]) (st2 := []) rfl rfl ?_
    refine mB hT 16 rfl ?_
    exact hR _ (by decide) _ _ _ (congrArg (fun z => [Value.int z]) (if_pos h1).symm) rfl
  · refine mNf (lv2 := [(5, .int 0), (4, .int (Bm 0 2 7)), (0, .ref 0), (1, .int 0), (2, .int 3), (3, .int 2)]) (st2 := []) rfl rfl ?_
    refine mB hT 4 rfl ?_
    refine hC.1 _ 0 [_, _] _ _ _ _ _ (m_all_0_2 hn) rfl rfl (Nat.le_of_ble_eq_true rfl) rfl ?_
    refine mB hT 5 rfl ?_
    refine hC.2 _ 0 [_, _] _ _ _ _ _ (m_main_0_2) rfl rfl (Nat.le_of_ble_eq_true rfl) rfl ?_
    refine mB hT 2 rfl ?_
    exact hR _ (by decide) _ _ _ (congrArg (fun z => [Value.int z]) (if_neg h1).symm) rfl
set_option maxRecDepth 20000 in
theorem m_entryOf_0_3_3 {n vs : Nat} {wo un h : Int64} {bo : Nat → Int32} {ta tr ro ot : Nat → Int64} {Bm : Nat → Nat → Nat → Int32} {bk : Nat → Nat → Int32} (hn : n ≤ 4) : KX3_entryOf l D ca ad [.ref 0, .int 0, .int 3, .int 3] (MW (Int32.ofNat n) (Int32.ofNat vs) wo un h bo ta tr ro ot Bm bk) (some (.int (ceM n (Bm 0) 3 3))) (MW (Int32.ofNat n) (Int32.ofNat vs) wo un h bo ta tr ro ot Bm bk) := by
  refine PX3_entryOf (Nat.le_of_ble_eq_true rfl) ?_
  intro G hT hC hR
  refine mB hT 36 rfl ?_
  refine mIf (fun h1 => ?_) (fun h1 => ?_)
  · refine mNf (lv2 := [(5, .int (Bm 0 3 0)), (4, .int (Bm 0 3 7)), (0, .ref 0), (1, .int 0), (2, .int 3), (3, .int 3)]) (st2 := []) rfl rfl ?_
    refine mB hT 16 rfl ?_
    exact hR _ (by decide) _ _ _ (congrArg (fun z => [Value.int z]) (if_pos h1).symm) rfl
  · refine mNf (lv2 := [(5, .int (Bm 0 3 0)), (4, .int (Bm 0 3 7)), (0, .ref 0), (1, .int 0), (2, .int 3), (3, .int 3)]) (st2 := []) rfl rfl ?_
    refine mB hT 4 rfl ?_
    refine hC.1 _ 0 [_, _] _ _ _ _ _ (m_all_0_3 hn) rfl rfl (Nat.le_of_ble_eq_true rfl) rfl ?_
    refine mB hT 5 rfl ?_
    refine hC.2 _ 0 [_, _] _ _ _ _ _ (m_main_0_3) rfl rfl (Nat.le_of_ble_eq_true rfl) rfl ?_
    refine mB hT 2 rfl ?_
    exact hR _ (by decide) _ _ _ (congrArg (fun z => [Value.int z]) (if_neg h1).symm) rfl
set_option maxRecDepth 20000 in
theorem m_entryOf_1_0_0 {n vs : Nat} {wo un h : Int64} {bo : Nat → Int32} {ta tr ro ot : Nat → Int64} {Bm : Nat → Nat → Nat → Int32} {bk : Nat → Nat → Int32} (hn : n ≤ 4) : KX3_entryOf l D ca ad [.ref 0, .int 1, .int 0, .int 0] (MW (Int32.ofNat n) (Int32.ofNat vs) wo un h bo ta tr ro ot Bm bk) (some (.int (ceM n (Bm 1) 0 0))) (MW (Int32.ofNat n) (Int32.ofNat vs) wo un h bo ta tr ro ot Bm bk) := by
  refine PX3_entryOf (Nat.le_of_ble_eq_true rfl) ?_
  intro G hT hC hR
  refine mB hT 36 rfl ?_
  refine mIf (fun h1 => ?_) (fun h1 => ?_)
  · refine mNf (lv2 := [(5, .int (Bm 1 0 0)), (4, .int (Bm 1 0 4)), (0, .ref 0), (1, .int 1), (2, .int 0), (3, .int 0)]) (st2 := []) rfl rfl ?_
    refine mB hT 16 rfl ?_
    exact hR _ (by decide) _ _ _ (congrArg (fun z => [Value.int z]) (if_pos h1).symm) rfl
  · refine mNf (lv2 := [(5, .int (Bm 1 0 0)), (4, .int (Bm 1 0 4)), (0, .ref 0), (1, .int 1), (2, .int 0), (3, .int 0)]) (st2 := []) rfl rfl ?_
    refine mB hT 4 rfl ?_
    refine hC.1 _ 0 [_, _] _ _ _ _ _ (m_all_1_0 hn) rfl rfl (Nat.le_of_ble_eq_true rfl) rfl ?_
    refine mB hT 5 rfl ?_
    refine hC.2 _ 0 [_, _] _ _ _ _ _ (m_main_1_0) rfl rfl (Nat.le_of_ble_eq_true rfl) rfl ?_
    refine mB hT 2 rfl ?_
    exact hR _ (by decide) _ _ _ (congrArg (fun z => [Value.int z]) (if_neg h1).symm) rfl
set_option maxRecDepth 20000 in
theorem m_entryOf_1_0_1 {n vs : Nat} {wo un h : Int64} {bo : Nat → Int32} {ta tr ro ot : Nat → Int64} {Bm : Nat → Nat → Nat → Int32} {bk : Nat → Nat → Int32} (hn : n ≤ 4) : KX3_entryOf l D ca ad [.ref 0, .int 1, .int 0, .int 1] (MW (Int32.ofNat n) (Int32.ofNat vs) wo un h bo ta tr ro ot Bm bk) (some (.int (ceM n (Bm 1) 1 0))) (MW (Int32.ofNat n) (Int32.ofNat vs) wo un h bo ta tr ro ot Bm bk) := by
  refine PX3_entryOf (Nat.le_of_ble_eq_true rfl) ?_
  intro G hT hC hR
  refine mB hT 28 rfl ?_
  refine mIf (fun h1 => ?_) (fun h1 => ?_)
  · refine mNf (lv2 := [(5, .int 0), (4, .int (Bm 1 1 4)), (0, .ref 0), (1, .int 1), (2, .int 0), (3, .int 1)]) (st2 := []) rfl rfl ?_
    refine mB hT 16 rfl ?_
    exact hR _ (by decide) _ _ _ (congrArg (fun z => [Value.int z]) (if_pos h1).symm) rfl
  · refine mNf (lv2 := [(5, .int 0), (4, .int (Bm 1 1 4)), (0, .ref 0), (1, .int 1), (2, .int 0), (3, .int 1)]) (st2 := []) rfl rfl ?_
    refine mB hT 4 rfl ?_
    refine hC.1 _ 0 [_, _] _ _ _ _ _ (m_all_1_1 hn) rfl rfl (Nat.le_of_ble_eq_true rfl) rfl ?_
    refine mB hT 5 rfl ?_
    refine hC.2 _ 0 [_, _] _ _ _ _ _ (m_main_1_1) rfl rfl (Nat.le_of_ble_eq_true rfl) rfl ?_
    refine mB hT 2 rfl ?_
    exact hR _ (by decide) _ _ _ (congrArg (fun z => [Value.int z]) (if_neg h1).symm) rfl
set_option maxRecDepth 20000 in
theorem m_entryOf_1_0_2 {n vs : Nat} {wo un h : Int64} {bo : Nat → Int32} {ta tr ro ot : Nat → Int64} {Bm : Nat → Nat → Nat → Int32} {bk : Nat → Nat → Int32} (hn : n ≤ 4) : KX3_entryOf l D ca ad [.ref 0, .int 1, .int 0, .int 2] (MW (Int32.ofNat n) (Int32.ofNat vs) wo un h bo ta tr ro ot Bm bk) (some (.int (ceM n (Bm 1) 2 0))) (MW (Int32.ofNat n) (Int32.ofNat vs) wo un h bo ta tr ro ot Bm bk) := by
  refine PX3_entryOf (Nat.le_of_ble_eq_true rfl) ?_
  intro G hT hC hR
  refine mB hT 28 rfl ?_
  refine mIf (fun h1 => ?_) (fun h1 => ?_)
  · refine mNf (lv2 := [(5, .int 0), (4, .int (Bm 1 2 4)), (0, .ref 0), (1, .int 1), (2, .int 0), (3, .int 2)]) (st2 := []) rfl rfl ?_
    refine mB hT 16 rfl ?_
    exact hR _ (by decide) _ _ _ (congrArg (fun z => [Value.int z]) (if_pos h1).symm) rfl
  · refine mNf (lv2 := [(5, .int 0), (4, .int (Bm 1 2 4)), (0, .ref 0), (1, .int 1), (2, .int 0), (3, .int 2)]) (st2 := []) rfl rfl ?_
    refine mB hT 4 rfl ?_
    refine hC.1 _ 0 [_, _] _ _ _ _ _ (m_all_1_2 hn) rfl rfl (Nat.le_of_ble_eq_true rfl) rfl ?_
    refine mB hT 5 rfl ?_
    refine hC.2 _ 0 [_, _] _ _ _ _ _ (m_main_1_2) rfl rfl (Nat.le_of_ble_eq_true rfl) rfl ?_
    refine mB hT 2 rfl ?_
    exact hR _ (by decide) _ _ _ (congrArg (fun z => [Value.int z]) (if_neg h1).symm) rfl
set_option maxRecDepth 20000 in
theorem m_entryOf_1_0_3 {n vs : Nat} {wo un h : Int64} {bo : Nat → Int32} {ta tr ro ot : Nat → Int64} {Bm : Nat → Nat → Nat → Int32} {bk : Nat → Nat → Int32} (hn : n ≤ 4) : KX3_entryOf l D ca ad [.ref 0, .int 1, .int 0, .int 3] (MW (Int32.ofNat n) (Int32.ofNat vs) wo un h bo ta tr ro ot Bm bk) (some (.int (ceM n (Bm 1) 3 0))) (MW (Int32.ofNat n) (Int32.ofNat vs) wo un h bo ta tr ro ot Bm bk) := by
  refine PX3_entryOf (Nat.le_of_ble_eq_true rfl) ?_
  intro G hT hC hR
  refine mB hT 28 rfl ?_
  refine mIf (fun h1 => ?_) (fun h1 => ?_)
  · refine mNf (lv2 := [(5, .int 0), (4, .int (Bm 1 3 4)), (0, .ref 0), (1, .int 1), (2, .int 0), (3, .int 3)]) (st2 := []) rfl rfl ?_
    refine mB hT 16 rfl ?_
    exact hR _ (by decide) _ _ _ (congrArg (fun z => [Value.int z]) (if_pos h1).symm) rfl
  · refine mNf (lv2 := [(5, .int 0), (4, .int (Bm 1 3 4)), (0, .ref 0), (1, .int 1), (2, .int 0), (3, .int 3)]) (st2 := []) rfl rfl ?_
    refine mB hT 4 rfl ?_
    refine hC.1 _ 0 [_, _] _ _ _ _ _ (m_all_1_3 hn) rfl rfl (Nat.le_of_ble_eq_true rfl) rfl ?_
    refine mB hT 5 rfl ?_
    refine hC.2 _ 0 [_, _] _ _ _ _ _ (m_main_1_3) rfl rfl (Nat.le_of_ble_eq_true rfl) rfl ?_
    refine mB hT 2 rfl ?_
    exact hR _ (by decide) _ _ _ (congrArg (fun z => [Value.int z]) (if_neg h1).symm) rfl
set_option maxRecDepth 20000 in
theorem m_entryOf_1_1_0 {n vs : Nat} {wo un h : Int64} {bo : Nat → Int32} {ta tr ro ot : Nat → Int64} {Bm : Nat → Nat → Nat → Int32} {bk : Nat → Nat → Int32} (hn : n ≤ 4) : KX3_entryOf l D ca ad [.ref 0, .int 1, .int 1, .int 0] (MW (Int32.ofNat n) (Int32.ofNat vs) wo un h bo ta tr ro ot Bm bk) (some (.int (ceM n (Bm 1) 0 1))) (MW (Int32.ofNat n) (Int32.ofNat vs) wo un h bo ta tr ro ot Bm bk) := by
  refine PX3_entryOf (Nat.le_of_ble_eq_true rfl) ?_
  intro G hT hC hR
  refine mB hT 28 rfl ?_
  refine mIf (fun h1 => ?_) (fun h1 => ?_)
  · refine mNf (lv2 := [(5, .int 0), (4, .int (Bm 1 0 5)), (0, .ref 0), (1, .int 1), (2, .int 1), (3, .int 0)]) (st2 := []) rfl rfl ?_
    refine mB hT 16 rfl ?_
    exact hR _ (by decide) _ _ _ (congrArg (fun z => [Value.int z]) (if_pos h1).symm) rfl
  · refine mNf (lv2 := [(5, .int 0), (4, .int (Bm 1 0 5)), (0, .ref 0), (1, .int 1), (2, .int 1), (3, .int 0)]) (st2 := []) rfl rfl ?_
    refine mB hT 4 rfl ?_
    refine hC.1 _ 0 [_, _] _ _ _ _ _ (m_all_1_0 hn) rfl rfl (Nat.le_of_ble_eq_true rfl) rfl ?_
    refine mB hT 5 rfl ?_
    refine hC.2 _ 0 [_, _] _ _ _ _ _ (m_main_1_0) rfl rfl (Nat.le_of_ble_eq_true rfl) rfl ?_
    refine mB hT 2 rfl ?_
    exact hR _ (by decide) _ _ _ (congrArg (fun z => [Value.int z]) (if_neg h1).symm) rfl
set_option maxRecDepth 20000 in
theorem m_entryOf_1_1_1 {n vs : Nat} {wo un h : Int64} {bo : Nat → Int32} {ta tr ro ot : Nat → Int64} {Bm : Nat → Nat → Nat → Int32} {bk : Nat → Nat → Int32} (hn : n ≤ 4) : KX3_entryOf l D ca ad [.ref 0, .int 1, .int 1, .int 1] (MW (Int32.ofNat n) (Int32.ofNat vs) wo un h bo ta tr ro ot Bm bk) (some (.int (ceM n (Bm 1) 1 1))) (MW (Int32.ofNat n) (Int32.ofNat vs) wo un h bo ta tr ro ot Bm bk) := by
  refine PX3_entryOf (Nat.le_of_ble_eq_true rfl) ?_
  intro G hT hC hR
  refine mB hT 36 rfl ?_
  refine mIf (fun h1 => ?_) (fun h1 => ?_)
  · refine mNf (lv2 := [(5, .int (Bm 1 1 0)), (4, .int (Bm 1 1 5)), (0, .ref 0), (1, .int 1), (2, .int 1), (3, .int 1)]) (st2 := []) rfl rfl ?_
    refine mB hT 16 rfl ?_
    exact hR _ (by decide) _ _ _ (congrArg (fun z => [Value.int z]) (if_pos h1).symm) rfl
  · refine mNf (lv2 := [(5, .int (Bm 1 1 0)), (4, .int (Bm 1 1 5)), (0, .ref 0), (1, .int 1), (2, .int 1), (3, .int 1)]) (st2 := []) rfl rfl ?_
    refine mB hT 4 rfl ?_
    refine hC.1 _ 0 [_, _] _ _ _ _ _ (m_all_1_1 hn) rfl rfl (Nat.le_of_ble_eq_true rfl) rfl ?_
    refine mB hT 5 rfl ?_
    refine hC.2 _ 0 [_, _] _ _ _ _ _ (m_main_1_1) rfl rfl (Nat.le_of_ble_eq_true rfl) rfl ?_
    refine mB hT 2 rfl ?_
    exact hR _ (by decide) _ _ _ (congrArg (fun z => [Value.int z]) (if_neg h1).symm) rfl
set_option maxRecDepth 20000 in
theorem m_entryOf_1_1_2 {n vs : Nat} {wo un h : Int64} {bo : Nat → Int32} {ta tr ro ot : Nat → Int64} {Bm : Nat → Nat → Nat → Int32} {bk : Nat → Nat → Int32} (hn : n ≤ 4) : KX3_entryOf l D ca ad [.ref 0, .int 1, .int 1, .int 2] (MW (Int32.ofNat n) (Int32.ofNat vs) wo un h bo ta tr ro ot Bm bk) (some (.int (ceM n (Bm 1) 2 1))) (MW (Int32.ofNat n) (Int32.ofNat vs) wo un h bo ta tr ro ot Bm bk) := by
  refine PX3_entryOf (Nat.le_of_ble_eq_true rfl) ?_
  intro G hT hC hR
  refine mB hT 28 rfl ?_
  refine mIf (fun h1 => ?_) (fun h1 => ?_)
  · refine mNf (lv2 := [(5, .int 0), (4, .int (Bm 1 2 5)), (0, .ref 0), (1, .int 1), (2, .int 1), (3, .int 2)]) (st2 := []) rfl rfl ?_
    refine mB hT 16 rfl ?_
    exact hR _ (by decide) _ _ _ (congrArg (fun z => [Value.int z]) (if_pos h1).symm) rfl
  · refine mNf (lv2 := [(5, .int 0), (4, .int (Bm 1 2 5)), (0, .ref 0), (1, .int 1), (2, .int 1), (3, .int 2)]) (st2 := []) rfl rfl ?_
    refine mB hT 4 rfl ?_
    refine hC.1 _ 0 [_, _] _ _ _ _ _ (m_all_1_2 hn) rfl rfl (Nat.le_of_ble_eq_true rfl) rfl ?_
    refine mB hT 5 rfl ?_
    refine hC.2 _ 0 [_, _] _ _ _ _ _ (m_main_1_2) rfl rfl (Nat.le_of_ble_eq_true rfl) rfl ?_
    refine mB hT 2 rfl ?_
    exact hR _ (by decide) _ _ _ (congrArg (fun z => [Value.int z]) (if_neg h1).symm) rfl
set_option maxRecDepth 20000 in
theorem m_entryOf_1_1_3 {n vs : Nat} {wo un h : Int64} {bo : Nat → Int32} {ta tr ro ot : Nat → Int64} {Bm : Nat → Nat → Nat → Int32} {bk : Nat → Nat → Int32} (hn : n ≤ 4) : KX3_entryOf l D ca ad [.ref 0, .int 1, .int 1, .int 3] (MW (Int32.ofNat n) (Int32.ofNat vs) wo un h bo ta tr ro ot Bm bk) (some (.int (ceM n (Bm 1) 3 1))) (MW (Int32.ofNat n) (Int32.ofNat vs) wo un h bo ta tr ro ot Bm bk) := by
  refine PX3_entryOf (Nat.le_of_ble_eq_true rfl) ?_
  intro G hT hC hR
  refine mB hT 28 rfl ?_
  refine mIf (fun h1 => ?_) (fun h1 => ?_)
  · refine mNf (lv2 := [(5, .int 0), (4, .int (Bm 1 3 5)), (0, .ref 0), (1, .int 1), (2, .int 1), (3, .int 3)]) (st2 := []) rfl rfl ?_
    refine mB hT 16 rfl ?_
    exact hR _ (by decide) _ _ _ (congrArg (fun z => [Value.int z]) (if_pos h1).symm) rfl
  · refine mNf (lv2 := [(5, .int 0), (4, .int (Bm 1 3 5)), (0, .ref 0), (1, .int 1), (2, .int 1), (3, .int 3)]) (st2 := []) rfl rfl ?_
    refine mB hT 4 rfl ?_
    refine hC.1 _ 0 [_, _] _ _ _ _ _ (m_all_1_3 hn) rfl rfl (Nat.le_of_ble_eq_true rfl) rfl ?_
    refine mB hT 5 rfl ?_
    refine hC.2 _ 0 [_, _] _ _ _ _ _ (m_main_1_3) rfl rfl (Nat.le_of_ble_eq_true rfl) rfl ?_
    refine mB hT 2 rfl ?_
    exact hR _ (by decide) _ _ _ (congrArg (fun z => [Value.int z]) (if_neg h1).symm) rfl
set_option maxRecDepth 20000 in
theorem m_entryOf_1_2_0 {n vs : Nat} {wo un h : Int64} {bo : Nat → Int32} {ta tr ro ot : Nat → Int64} {Bm : Nat → Nat → Nat → Int32} {bk : Nat → Nat → Int32} (hn : n ≤ 4) : KX3_entryOf l D ca ad [.ref 0, .int 1, .int 2, .int 0] (MW (Int32.ofNat n) (Int32.ofNat vs) wo un h bo ta tr ro ot Bm bk) (some (.int (ceM n (Bm 1) 0 2))) (MW (Int32.ofNat n) (Int32.ofNat vs) wo un h bo ta tr ro ot Bm bk) := by
  refine PX3_entryOf (Nat.le_of_ble_eq_true rfl) ?_
  intro G hT hC hR
  refine mB hT 28 rfl ?_
  refine mIf (fun h1 => ?_) (fun h1 => ?_)
  · refine mNf (lv2 := [(5, .int 0), (4, .int (Bm 1 0 6)), (0, .ref 0), (1, .int 1), (2, .int 2), (3, .int 0)]) (st2 := []) rfl rfl ?_
    refine mB hT 16 rfl ?_
    exact hR _ (by decide) _ _ _ (congrArg (fun z => [Value.int z]) (if_pos h1).symm) rfl
  · refine mNf (lv2 := [(5, .int 0), (4, .int (Bm 1 0 6)), (0, .ref 0), (1, .int 1), (2, .int 2), (3, .int 0)]) (st2 := []) rfl rfl ?_
    refine mB hT 4 rfl ?_
    refine hC.1 _ 0 [_, _] _ _ _ _ _ (m_all_1_0 hn) rfl rfl (Nat.le_of_ble_eq_true rfl) rfl ?_
    refine mB hT 5 rfl ?_
    refine hC.2 _ 0 [_, _] _ _ _ _ _ (m_main_1_0) rfl rfl (Nat.le_of_ble_eq_true rfl) rfl ?_
    refine mB hT 2 rfl ?_
    exact hR _ (by decide) _ _ _ (congrArg (fun z => [Value.int z]) (if_neg h1).symm) rfl
set_option maxRecDepth 20000 in
theorem m_entryOf_1_2_1 {n vs : Nat} {wo un h : Int64} {bo : Nat → Int32} {ta tr ro ot : Nat → Int64} {Bm : Nat → Nat → Nat → Int32} {bk : Nat → Nat → Int32} (hn : n ≤ 4) : KX3_entryOf l D ca ad [.ref 0, .int 1, .int 2, .int 1] (MW (Int32.ofNat n) (Int32.ofNat vs) wo un h bo ta tr ro ot Bm bk) (some (.int (ceM n (Bm 1) 1 2))) (MW (Int32.ofNat n) (Int32.ofNat vs) wo un h bo ta tr ro ot Bm bk) := by
  refine PX3_entryOf (Nat.le_of_ble_eq_true rfl) ?_
  intro G hT hC hR
  refine mB hT 28 rfl ?_
  refine mIf (fun h1 => ?_) (fun h1 => ?_)
  · refine mNf (lv2 := [(5, .int 0), (4, .int (Bm 1 1 6)), (0, .ref 0), (1, .int 1), (2, .int 2), (3, .int 1)]) (st2 := []) rfl rfl ?_
    refine mB hT 16 rfl ?_
    exact hR _ (by decide) _ _ _ (congrArg (fun z => [Value.int z]) (if_pos h1).symm) rfl
  · refine mNf (lv2 := [(5, .int 0), (4, .int (Bm 1 1 6)), (0, .ref 0), (1, .int 1), (2, .int 2), (3, .int 1)]) (st2 := []) rfl rfl ?_
    refine mB hT 4 rfl ?_
    refine hC.1 _ 0 [_, _] _ _ _ _ _ (m_all_1_1 hn) rfl rfl (Nat.le_of_ble_eq_true rfl) rfl ?_
    refine mB hT 5 rfl ?_
    refine hC.2 _ 0 [_, _] _ _ _ _ _ (m_main_1_1) rfl rfl (Nat.le_of_ble_eq_true rfl) rfl ?_
    refine mB hT 2 rfl ?_
    exact hR _ (by decide) _ _ _ (congrArg (fun z => [Value.int z]) (if_neg h1).symm) rfl
set_option maxRecDepth 20000 in
theorem m_entryOf_1_2_2 {n vs : Nat} {wo un h : Int64} {bo : Nat → Int32} {ta tr ro ot : Nat → Int64} {Bm : Nat → Nat → Nat → Int32} {bk : Nat → Nat → Int32} (hn : n ≤ 4) : KX3_entryOf l D ca ad [.ref 0, .int 1, .int 2, .int 2] (MW (Int32.ofNat n) (Int32.ofNat vs) wo un h bo ta tr ro ot Bm bk) (some (.int (ceM n (Bm 1) 2 2))) (MW (Int32.ofNat n) (Int32.ofNat vs) wo un h bo ta tr ro ot Bm bk) := by
  refine PX3_entryOf (Nat.le_of_ble_eq_true rfl) ?_
  intro G hT hC hR
  refine mB hT 36 rfl ?_
  refine mIf (fun h1 => ?_) (fun h1 => ?_)
  · refine mNf (lv2 := [(5, .int (Bm 1 2 0)), (4, .int (Bm 1 2 6)), (0, .ref 0), (1, .int 1), (2, .int 2), (3, .int 2)]) (st2 := []) rfl rfl ?_
    refine mB hT 16 rfl ?_
    exact hR _ (by decide) _ _ _ (congrArg (fun z => [Value.int z]) (if_pos h1).symm) rfl
  · refine mNf (lv2 := [(5, .int (Bm 1 2 0)), (4, .int (Bm 1 2 6)), (0, .ref 0), (1, .int 1), (2, .int 2), (3, .int 2)]) (st2 := []) rfl rfl ?_
    refine mB hT 4 rfl ?_
    refine hC.1 _ 0 [_, _] _ _ _ _ _ (m_all_1_2 hn) rfl rfl (Nat.le_of_ble_eq_true rfl) rfl ?_
    refine mB hT 5 rfl ?_
    refine hC.2 _ 0 [_, _] _ _ _ _ _ (m_main_1_2) rfl rfl (Nat.le_of_ble_eq_true rfl) rfl ?_
    refine mB hT 2 rfl ?_
    exact hR _ (by decide) _ _ _ (congrArg (fun z => [Value.int z]) (if_neg h1).symm) rfl
set_option maxRecDepth 20000 in
theorem m_entryOf_1_2_3 {n vs : Nat} {wo un h : Int64} {bo : Nat → Int32} {ta tr ro ot : Nat → Int64} {Bm : Nat → Nat → Nat → Int32} {bk : Nat → Nat → Int32} (hn : n ≤ 4) : KX3_entryOf l D ca ad [.ref 0, .int 1, .int 2, .int 3] (MW (Int32.ofNat n) (Int32.ofNat vs) wo un h bo ta tr ro ot Bm bk) (some (.int (ceM n (Bm 1) 3 2))) (MW (Int32.ofNat n) (Int32.ofNat vs) wo un h bo ta tr ro ot Bm bk) := by
  refine PX3_entryOf (Nat.le_of_ble_eq_true rfl) ?_
  intro G hT hC hR
  refine mB hT 28 rfl ?_
  refine mIf (fun h1 => ?_) (fun h1 => ?_)
  · refine mNf (lv2 := [(5, .int 0), (4, .int (Bm 1 3 6)), (0, .ref 0), (1, .int 1), (2, .int 2), (3, .int 3)]) (st2 := []) rfl rfl ?_
    refine mB hT 16 rfl ?_
    exact hR _ (by decide) _ _ _ (congrArg (fun z => [Value.int z]) (if_pos h1).symm) rfl
  · refine mNf (lv2 := [(5, .int 0), (4, .int (Bm 1 3 6)), (0, .ref 0), (1, .int 1), (2, .int 2), (3, .int 3)]) (st2 := []) rfl rfl ?_
    refine mB hT 4 rfl ?_
    refine hC.1 _ 0 [_, _] _ _ _ _ _ (m_all_1_3 hn) rfl rfl (Nat.le_of_ble_eq_true rfl) rfl ?_
    refine mB hT 5 rfl ?_
    refine hC.2 _ 0 [_, _] _ _ _ _ _ (m_main_1_3) rfl rfl (Nat.le_of_ble_eq_true rfl) rfl ?_
    refine mB hT 2 rfl ?_
    exact hR _ (by decide) _ _ _ (congrArg (fun z => [Value.int z]) (if_neg h1).symm) rfl
set_option maxRecDepth 20000 in
theorem m_entryOf_1_3_0 {n vs : Nat} {wo un h : Int64} {bo : Nat → Int32} {ta tr ro ot : Nat → Int64} {Bm : Nat → Nat → Nat → Int32} {bk : Nat → Nat → Int32} (hn : n ≤ 4) : KX3_entryOf l D ca ad [.ref 0, .int 1, .int 3, .int 0] (MW (Int32.ofNat n) (Int32.ofNat vs) wo un h bo ta tr ro ot Bm bk) (some (.int (ceM n (Bm 1) 0 3))) (MW (Int32.ofNat n) (Int32.ofNat vs) wo un h bo ta tr ro ot Bm bk) := by
  refine PX3_entryOf (Nat.le_of_ble_eq_true rfl) ?_
  intro G hT hC hR
  refine mB hT 28 rfl ?_
  refine mIf (fun h1 => ?_) (fun h1 => ?_)
  · refine mNf (lv2 := [(5, .int 0), (4, .int (Bm 1 0 7)), (0, .ref 0), (1, .int 1), (2, .int 3), (3, .int 0)]) (st2 := []) rfl rfl ?_
    refine mB hT 16 rfl ?_
    exact hR _ (by decide) _ _ _ (congrArg (fun z => [Value.int z]) (if_pos h1).symm) rfl
  · refine mNf (lv2 := [(5, .int 0), (4, .int (Bm 1 0 7)), (0, .ref 0), (1, .int 1), (2, .int 3), (3, .int 0)]) (st2 := []) rfl rfl ?_
    refine mB hT 4 rfl ?_
    refine hC.1 _ 0 [_, _] _ _ _ _ _ (m_all_1_0 hn) rfl rfl (Nat.le_of_ble_eq_true rfl) rfl ?_
    refine mB hT 5 rfl ?_
    refine hC.2 _ 0 [_, _] _ _ _ _ _ (m_main_1_0) rfl rfl (Nat.le_of_ble_eq_true rfl) rfl ?_
    refine mB hT 2 rfl ?_
    exact hR _ (by decide) _ _ _ (congrArg (fun z => [Value.int z]) (if_neg h1).symm) rfl
set_option maxRecDepth 20000 in
theorem m_entryOf_1_3_1 {n vs : Nat} {wo un h : Int64} {bo : Nat → Int32} {ta tr ro ot : Nat → Int64} {Bm : Nat → Nat → Nat → Int32} {bk : Nat → Nat → Int32} (hn : n ≤ 4) : KX3_entryOf l D ca ad [.ref 0, .int 1, .int 3, .int 1] (MW (Int32.ofNat n) (Int32.ofNat vs) wo un h bo ta tr ro ot Bm bk) (some (.int (ceM n (Bm 1) 1 3))) (MW (Int32.ofNat n) (Int32.ofNat vs) wo un h bo ta tr ro ot Bm bk) := by
  refine PX3_entryOf (Nat.le_of_ble_eq_true rfl) ?_
  intro G hT hC hR
  refine mB hT 28 rfl ?_
  refine mIf (fun h1 => ?_) (fun h1 => ?_)
  · refine mNf (lv2 := [(5, .int 0), (4, .int (Bm 1 1 7)), (0, .ref 0), (1, .int 1), (2, .int 3), (3, .int 1)]) (st2 := []) rfl rfl ?_
    refine mB hT 16 rfl ?_
    exact hR _ (by decide) _ _ _ (congrArg (fun z => [Value.int z]) (if_pos h1).symm) rfl
  · refine mNf (lv2 := [(5, .int 0), (4, .int (Bm 1 1 7)), (0, .ref 0), (1, .int 1), (2, .int 3), (3, .int 1)]) (st2 := []) rfl rfl ?_
    refine mB hT 4 rfl ?_
    refine hC.1 _ 0 [_, _] _ _ _ _ _ (m_all_1_1 hn) rfl rfl (Nat.le_of_ble_eq_true rfl) rfl ?_
    refine mB hT 5 rfl ?_
    refine hC.2 _ 0 [_, _] _ _ _ _ _ (m_main_1_1) rfl rfl (Nat.le_of_ble_eq_true rfl) rfl ?_
    refine mB hT 2 rfl ?_
    exact hR _ (by decide) _ _ _ (congrArg (fun z => [Value.int z]) (if_neg h1).symm) rfl
set_option maxRecDepth 20000 in
theorem m_entryOf_1_3_2 {n vs : Nat} {wo un h : Int64} {bo : Nat → Int32} {ta tr ro ot : Nat → Int64} {Bm : Nat → Nat → Nat → Int32} {bk : Nat → Nat → Int32} (hn : n ≤ 4) : KX3_entryOf l D ca ad [.ref 0, .int 1, .int 3, .int 2] (MW (Int32.ofNat n) (Int32.ofNat vs) wo un h bo ta tr ro ot Bm bk) (some (.int (ceM n (Bm 1) 2 3))) (MW (Int32.ofNat n) (Int32.ofNat vs) wo un h bo ta tr ro ot Bm bk) := by
  refine PX3_entryOf (Nat.le_of_ble_eq_true rfl) ?_
  intro G hT hC hR
  refine mB hT 28 rfl ?_
  refine mIf (fun h1 => ?_) (fun h1 => ?_)
  · refine mNf (lv2 := [(5, .int 0), (4, .int (Bm 1 2 7)), (0, .ref 0), (1, .int 1), (2, .int 3), (3, .int 2)]) (st2 := []) rfl rfl ?_
    refine mB hT 16 rfl ?_
    exact hR _ (by decide) _ _ _ (congrArg (fun z => [Value.int z]) (if_pos h1).symm) rfl
  · refine mNf (lv2 := [(5, .int 0), (4, .int (Bm 1 2 7)), (0, .ref 0), (1, .int 1), (2, .int 3), (3, .int 2)]) (st2 := []) rfl rfl ?_
    refine mB hT 4 rfl ?_
    refine hC.1 _ 0 [_, _] _ _ _ _ _ (m_all_1_2 hn) rfl rfl (Nat.le_of_ble_eq_true rfl) rfl ?_
    refine mB hT 5 rfl ?_
    refine hC.2 _ 0 [_, _] _ _ _ _ _ (m_main_1_2) rfl rfl (Nat.le_of_ble_eq_true rfl) rfl ?_
    refine mB hT 2 rfl ?_
    exact hR _ (by decide) _ _ _ (congrArg (fun z => [Value.int z]) (if_neg h1).symm) rfl
set_option maxRecDepth 20000 in
theorem m_entryOf_1_3_3 {n vs : Nat} {wo un h : Int64} {bo : Nat → Int32} {ta tr ro ot : Nat → Int64} {Bm : Nat → Nat → Nat → Int32} {bk : Nat → Nat → Int32} (hn : n ≤ 4) : KX3_entryOf l D ca ad [.ref 0, .int 1, .int 3, .int 3] (MW (Int32.ofNat n) (Int32.ofNat vs) wo un h bo ta tr ro ot Bm bk) (some (.int (ceM n (Bm 1) 3 3))) (MW (Int32.ofNat n) (Int32.ofNat vs) wo un h bo ta tr ro ot Bm bk) := by
  refine PX3_entryOf (Nat.le_of_ble_eq_true rfl) ?_
  intro G hT hC hR
  refine mB hT 36 rfl ?_
  refine mIf (fun h1 => ?_) (fun h1 => ?_)
  · refine mNf (lv2 := [(5, .int (Bm 1 3 0)), (4, .int (Bm 1 3 7)), (0, .ref 0), (1, .int 1), (2, .int 3), (3, .int 3)]) (st2 := []) rfl rfl ?_
    refine mB hT 16 rfl ?_
    exact hR _ (by decide) _ _ _ (congrArg (fun z => [Value.int z]) (if_pos h1).symm) rfl
  · refine mNf (lv2 := [(5, .int (Bm 1 3 0)), (4, .int (Bm 1 3 7)), (0, .ref 0), (1, .int 1), (2, .int 3), (3, .int 3)]) (st2 := []) rfl rfl ?_
    refine mB hT 4 rfl ?_
    refine hC.1 _ 0 [_, _] _ _ _ _ _ (m_all_1_3 hn) rfl rfl (Nat.le_of_ble_eq_true rfl) rfl ?_
    refine mB hT 5 rfl ?_
    refine hC.2 _ 0 [_, _] _ _ _ _ _ (m_main_1_3) rfl rfl (Nat.le_of_ble_eq_true rfl) rfl ?_
    refine mB hT 2 rfl ?_
    exact hR _ (by decide) _ _ _ (congrArg (fun z => [Value.int z]) (if_neg h1).symm) rfl
set_option maxRecDepth 20000 in
theorem m_entryOf_2_0_0 {n vs : Nat} {wo un h : Int64} {bo : Nat → Int32} {ta tr ro ot : Nat → Int64} {Bm : Nat → Nat → Nat → Int32} {bk : Nat → Nat → Int32} (hn : n ≤ 4) : KX3_entryOf l D ca ad [.ref 0, .int 2, .int 0, .int 0] (MW (Int32.ofNat n) (Int32.ofNat vs) wo un h bo ta tr ro ot Bm bk) (some (.int (ceM n (Bm 2) 0 0))) (MW (Int32.ofNat n) (Int32.ofNat vs) wo un h bo ta tr ro ot Bm bk) := by
  refine PX3_entryOf (Nat.le_of_ble_eq_true rfl) ?_
  intro G hT hC hR
  refine mB hT 36 rfl ?_
  refine mIf (fun h1 => ?_) (fun h1 => ?_)
  · refine mNf (lv2 := [(5, .int (Bm 2 0 0)), (4, .int (Bm 2 0 4)), (0, .ref 0), (1, .int 2), (2, .int 0), (3, .int 0)]) (st2 := []) rfl rfl ?_
    refine mB hT 16 rfl ?_
    exact hR _ (by decide) _ _ _ (congrArg (fun z => [Value.int z]) (if_pos h1).symm) rfl
  · refine mNf (lv2 := [(5, .int (Bm 2 0 0)), (4, .int (Bm 2 0 4)), (0, .ref 0), (1, .int 2), (2, .int 0), (3, .int 0)]) (st2 := []) rfl rfl ?_
    refine mB hT 4 rfl ?_
    refine hC.1 _ 0 [_, _] _ _ _ _ _ (m_all_2_0 hn) rfl rfl (Nat.le_of_ble_eq_true rfl) rfl ?_
    refine mB hT 5 rfl ?_
    refine hC.2 _ 0 [_, _] _ _ _ _ _ (m_main_2_0) rfl rfl (Nat.le_of_ble_eq_true rfl) rfl ?_
    refine mB hT 2 rfl ?_
    exact hR _ (by decide) _ _ _ (congrArg (fun z => [Value.int z]) (if_neg h1).symm) rfl
set_option maxRecDepth 20000 in
theorem m_entryOf_2_0_1 {n vs : Nat} {wo un h : Int64} {bo : Nat → Int32} {ta tr ro ot : Nat → Int64} {Bm : Nat → Nat → Nat → Int32} {bk : Nat → Nat → Int32} (hn : n ≤ 4) : KX3_entryOf l D ca ad [.ref 0, .int 2, .int 0, .int 1] (MW (Int32.ofNat n) (Int32.ofNat vs) wo un h bo ta tr ro ot Bm bk) (some (.int (ceM n (Bm 2) 1 0))) (MW (Int32.ofNat n) (Int32.ofNat vs) wo un h bo ta tr ro ot Bm bk) := by
  refine PX3_entryOf (Nat.le_of_ble_eq_true rfl) ?_
  intro G hT hC hR
  refine mB hT 28 rfl ?_
  refine mIf (fun h1 => ?_) (fun h1 => ?_)
  · refine mNf (lv2 := [(5, .int 0), (4, .int (Bm 2 1 4)), (0, .ref 0), (1, .int 2), (2, .int 0), (3, .int 1)]) (st2 := []) rfl rfl ?_
    refine mB hT 16 rfl ?_
    exact hR _ (by decide) _ _ _ (congrArg (fun z => [Value.int z]) (if_pos h1).symm) rfl
  · refine mNf (lv2 := [(5, .int 0), (4, .int (Bm 2 1 4)), (0, .ref 0), (1, .int 2), (2, .int 0), (3, .int 1)]) (st2 := []) rfl rfl ?_
    refine mB hT 4 rfl ?_
    refine hC.1 _ 0 [_, _] _ _ _ _ _ (m_all_2_1 hn) rfl rfl (Nat.le_of_ble_eq_true rfl) rfl ?_
    refine mB hT 5 rfl ?_
    refine hC.2 _ 0 [_, _] _ _ _ _ _ (m_main_2_1) rfl rfl (Nat.le_of_ble_eq_true rfl) rfl ?_
    refine mB hT 2 rfl ?_
    exact hR _ (by decide) _ _ _ (congrArg (fun z => [Value.int z]) (if_neg h1).symm) rfl
set_option maxRecDepth 20000 in
theorem m_entryOf_2_0_2 {n vs : Nat} {wo un h : Int64} {bo : Nat → Int32} {ta tr ro ot : Nat → Int64} {Bm : Nat → Nat → Nat → Int32} {bk : Nat → Nat → Int32} (hn : n ≤ 4) : KX3_entryOf l D ca ad [.ref 0, .int 2, .int 0, .int 2] (MW (Int32.ofNat n) (Int32.ofNat vs) wo un h bo ta tr ro ot Bm bk) (some (.int (ceM n (Bm 2) 2 0))) (MW (Int32.ofNat n) (Int32.ofNat vs) wo un h bo ta tr ro ot Bm bk) := by
  refine PX3_entryOf (Nat.le_of_ble_eq_true rfl) ?_
  intro G hT hC hR
  refine mB hT 28 rfl ?_
  refine mIf (fun h1 => ?_) (fun h1 => ?_)
  · refine mNf (lv2 := [(5, .int 0), (4, .int (Bm 2 2 4)), (0, .ref 0), (1, .int 2), (2, .int 0), (3, .int 2)]) (st2 := []) rfl rfl ?_
    refine mB hT 16 rfl ?_
    exact hR _ (by decide) _ _ _ (congrArg (fun z => [Value.int z]) (if_pos h1).symm) rfl
  · refine mNf (lv2 := [(5, .int 0), (4, .int (Bm 2 2 4)), (0, .ref 0), (1, .int 2), (2, .int 0), (3, .int 2)]) (st2 := []) rfl rfl ?_
    refine mB hT 4 rfl ?_
    refine hC.1 _ 0 [_, _] _ _ _ _ _ (m_all_2_2 hn) rfl rfl (Nat.le_of_ble_eq_true rfl) rfl ?_
    refine mB hT 5 rfl ?_
    refine hC.2 _ 0 [_, _] _ _ _ _ _ (m_main_2_2) rfl rfl (Nat.le_of_ble_eq_true rfl) rfl ?_
    refine mB hT 2 rfl ?_
    exact hR _ (by decide) _ _ _ (congrArg (fun z => [Value.int z]) (if_neg h1).symm) rfl
set_option maxRecDepth 20000 in
theorem m_entryOf_2_0_3 {n vs : Nat} {wo un h : Int64} {bo : Nat → Int32} {ta tr ro ot : Nat → Int64} {Bm : Nat → Nat → Nat → Int32} {bk : Nat → Nat → Int32} (hn : n ≤ 4) : KX3_entryOf l D ca ad [.ref 0, .int 2, .int 0, .int 3] (MW (Int32.ofNat n) (Int32.ofNat vs) wo un h bo ta tr ro ot Bm bk) (some (.int (ceM n (Bm 2) 3 0))) (MW (Int32.ofNat n) (Int32.ofNat vs) wo un h bo ta tr ro ot Bm bk) := by
  refine PX3_entryOf (Nat.le_of_ble_eq_true rfl) ?_
  intro G hT hC hR
  refine mB hT 28 rfl ?_
  refine mIf (fun h1 => ?_) (fun h1 => ?_)
  · refine mNf (lv2 := [(5, .int 0), (4, .int (Bm 2 3 4)), (0, .ref 0), (1, .int 2), (2, .int 0), (3, .int 3)]) (st2 := []) rfl rfl ?_
    refine mB hT 16 rfl ?_
    exact hR _ (by decide) _ _ _ (congrArg (fun z => [Value.int z]) (if_pos h1).symm) rfl
  · refine mNf (lv2 := [(5, .int 0), (4, .int (Bm 2 3 4)), (0, .ref 0), (1, .int 2), (2, .int 0), (3, .int 3)]) (st2 := []) rfl rfl ?_
    refine mB hT 4 rfl ?_
    refine hC.1 _ 0 [_, _] _ _ _ _ _ (m_all_2_3 hn) rfl rfl (Nat.le_of_ble_eq_true rfl) rfl ?_
    refine mB hT 5 rfl ?_
    refine hC.2 _ 0 [_, _] _ _ _ _ _ (m_main_2_3) rfl rfl (Nat.le_of_ble_eq_true rfl) rfl ?_
    refine mB hT 2 rfl ?_
    exact hR _ (by decide) _ _ _ (congrArg (fun z => [Value.int z]) (if_neg h1).symm) rfl
set_option maxRecDepth 20000 in
theorem m_entryOf_2_1_0 {n vs : Nat} {wo un h : Int64} {bo : Nat → Int32} {ta tr ro ot : Nat → Int64} {Bm : Nat → Nat → Nat → Int32} {bk : Nat → Nat → Int32} (hn : n ≤ 4) : KX3_entryOf l D ca ad [.ref 0, .int 2, .int 1, .int 0] (MW (Int32.ofNat n) (Int32.ofNat vs) wo un h bo ta tr ro ot Bm bk) (some (.int (ceM n (Bm 2) 0 1))) (MW (Int32.ofNat n) (Int32.ofNat vs) wo un h bo ta tr ro ot Bm bk) := by
  refine PX3_entryOf (Nat.le_of_ble_eq_true rfl) ?_
  intro G hT hC hR
  refine mB hT 28 rfl ?_
  refine mIf (fun h1 => ?_) (fun h1 => ?_)
  · refine mNf (lv2 := [(5, .int 0), (4, .int (Bm 2 0 5)), (0, .ref 0), (1, .int 2), (2, .int 1), (3, .int 0)]) (st2 := []) rfl rfl ?_
    refine mB hT 16 rfl ?_
    exact hR _ (by decide) _ _ _ (congrArg (fun z => [Value.int z]) (if_pos h1).symm) rfl
  · refine mNf (lv2 := [(5, .int 0), (4, .int (Bm 2 0 5)), (0, .ref 0), (1, .int 2), (2, .int 1), (3, .int 0)]) (st2 := []) rfl rfl ?_
    refine mB hT 4 rfl ?_
    refine hC.1 _ 0 [_, _] _ _ _ _ _ (m_all_2_0 hn) rfl rfl (Nat.le_of_ble_eq_true rfl) rfl ?_
    refine mB hT 5 rfl ?_
    refine hC.2 _ 0 [_, _] _ _ _ _ _ (m_main_2_0) rfl rfl (Nat.le_of_ble_eq_true rfl) rfl ?_
    refine mB hT 2 rfl ?_
    exact hR _ (by decide) _ _ _ (congrArg (fun z => [Value.int z]) (if_neg h1).symm) rfl
set_option maxRecDepth 20000 in
theorem m_entryOf_2_1_1 {n vs : Nat} {wo un h : Int64} {bo : Nat → Int32} {ta tr ro ot : Nat → Int64} {Bm : Nat → Nat → Nat → Int32} {bk : Nat → Nat → Int32} (hn : n ≤ 4) : KX3_entryOf l D ca ad [.ref 0, .int 2, .int 1, .int 1] (MW (Int32.ofNat n) (Int32.ofNat vs) wo un h bo ta tr ro ot Bm bk) (some (.int (ceM n (Bm 2) 1 1))) (MW (Int32.ofNat n) (Int32.ofNat vs) wo un h bo ta tr ro ot Bm bk) := by
  refine PX3_entryOf (Nat.le_of_ble_eq_true rfl) ?_
  intro G hT hC hR
  refine mB hT 36 rfl ?_
  refine mIf (fun h1 => ?_) (fun h1 => ?_)
  · refine mNf (lv2 := [(5, .int (Bm 2 1 0)), (4, .int (Bm 2 1 5)), (0, .ref 0), (1, .int 2), (2, .int 1), (3, .int 1)]) (st2 := []) rfl rfl ?_
    refine mB hT 16 rfl ?_
    exact hR _ (by decide) _ _ _ (congrArg (fun z => [Value.int z]) (if_pos h1).symm) rfl
  · refine mNf (lv2 := [(5, .int (Bm 2 1 0)), (4, .int (Bm 2 1 5)), (0, .ref 0), (1, .int 2), (2, .int 1), (3, .int 1)]) (st2 := []) rfl rfl ?_
    refine mB hT 4 rfl ?_
    refine hC.1 _ 0 [_, _] _ _ _ _ _ (m_all_2_1 hn) rfl rfl (Nat.le_of_ble_eq_true rfl) rfl ?_
    refine mB hT 5 rfl ?_
    refine hC.2 _ 0 [_, _] _ _ _ _ _ (m_main_2_1) rfl rfl (Nat.le_of_ble_eq_true rfl) rfl ?_
    refine mB hT 2 rfl ?_
    exact hR _ (by decide) _ _ _ (congrArg (fun z => [Value.int z]) (if_neg h1).symm) rfl
set_option maxRecDepth 20000 in
theorem m_entryOf_2_1_2 {n vs : Nat} {wo un h : Int64} {bo : Nat → Int32} {ta tr ro ot : Nat → Int64} {Bm : Nat → Nat → Nat → Int32} {bk : Nat → Nat → Int32} (hn : n ≤ 4) : KX3_entryOf l D ca ad [.ref 0, .int 2, .int 1, .int 2] (MW (Int32.ofNat n) (Int32.ofNat vs) wo un h bo ta tr ro ot Bm bk) (some (.int (ceM n (Bm 2) 2 1))) (MW (Int32.ofNat n) (Int32.ofNat vs) wo un h bo ta tr ro ot Bm bk) := by
  refine PX3_entryOf (Nat.le_of_ble_eq_true rfl) ?_
  intro G hT hC hR
  refine mB hT 28 rfl ?_
  refine mIf (fun h1 => ?_) (fun h1 => ?_)
  · refine mNf (lv2 := [(5, .int 0), (4, .int (Bm 2 2 5)), (0, .ref 0), (1, .int 2), (2, .int 1), (3, .int 2)]) (st2 := []) rfl rfl ?_
    refine mB hT 16 rfl ?_
    exact hR _ (by decide) _ _ _ (congrArg (fun z => [Value.int z]) (if_pos h1).symm) rfl
  · refine mNf (lv2 := [(5, .int 0), (4, .int (Bm 2 2 5)), (0, .ref 0), (1, .int 2), (2, .int 1), (3, .int 2)]) (st2 := []) rfl rfl ?_
    refine mB hT 4 rfl ?_
    refine hC.1 _ 0 [_, _] _ _ _ _ _ (m_all_2_2 hn) rfl rfl (Nat.le_of_ble_eq_true rfl) rfl ?_
    refine mB hT 5 rfl ?_
    refine hC.2 _ 0 [_, _] _ _ _ _ _ (m_main_2_2) rfl rfl (Nat.le_of_ble_eq_true rfl) rfl ?_
    refine mB hT 2 rfl ?_
    exact hR _ (by decide) _ _ _ (congrArg (fun z => [Value.int z]) (if_neg h1).symm) rfl
set_option maxRecDepth 20000 in
theorem m_entryOf_2_1_3 {n vs : Nat} {wo un h : Int64} {bo : Nat → Int32} {ta tr ro ot : Nat → Int64} {Bm : Nat → Nat → Nat → Int32} {bk : Nat → Nat → Int32} (hn : n ≤ 4) : KX3_entryOf l D ca ad [.ref 0, .int 2, .int 1, .int 3] (MW (Int32.ofNat n) (Int32.ofNat vs) wo un h bo ta tr ro ot Bm bk) (some (.int (ceM n (Bm 2) 3 1))) (MW (Int32.ofNat n) (Int32.ofNat vs) wo un h bo ta tr ro ot Bm bk) := by
  refine PX3_entryOf (Nat.le_of_ble_eq_true rfl) ?_
  intro G hT hC hR
  refine mB hT 28 rfl ?_
  refine mIf (fun h1 => ?_) (fun h1 => ?_)
  · refine mNf (lv2 := [(5, .int 0), (4, .int (Bm 2 3 5)), (0, .ref 0), (1, .int 2), (2, .int 1), (3, .int 3)]) (st2 := []) rfl rfl ?_
    refine mB hT 16 rfl ?_
    exact hR _ (by decide) _ _ _ (congrArg (fun z => [Value.int z]) (if_pos h1).symm) rfl
  · refine mNf (lv2 := [(5, .int 0), (4, .int (Bm 2 3 5)), (0, .ref 0), (1, .int 2), (2, .int 1), (3, .int 3)]) (st2 := []) rfl rfl ?_
    refine mB hT 4 rfl ?_
    refine hC.1 _ 0 [_, _] _ _ _ _ _ (m_all_2_3 hn) rfl rfl (Nat.le_of_ble_eq_true rfl) rfl ?_
    refine mB hT 5 rfl ?_
    refine hC.2 _ 0 [_, _] _ _ _ _ _ (m_main_2_3) rfl rfl (Nat.le_of_ble_eq_true rfl) rfl ?_
    refine mB hT 2 rfl ?_
    exact hR _ (by decide) _ _ _ (congrArg (fun z => [Value.int z]) (if_neg h1).symm) rfl
set_option maxRecDepth 20000 in
theorem m_entryOf_2_2_0 {n vs : Nat} {wo un h : Int64} {bo : Nat → Int32} {ta tr ro ot : Nat → Int64} {Bm : Nat → Nat → Nat → Int32} {bk : Nat → Nat → Int32} (hn : n ≤ 4) : KX3_entryOf l D ca ad [.ref 0, .int 2, .int 2, .int 0] (MW (Int32.ofNat n) (Int32.ofNat vs) wo un h bo ta tr ro ot Bm bk) (some (.int (ceM n (Bm 2) 0 2))) (MW (Int32.ofNat n) (Int32.ofNat vs) wo un h bo ta tr ro ot Bm bk) := by
  refine PX3_entryOf (Nat.le_of_ble_eq_true rfl) ?_
  intro G hT hC hR
  refine mB hT 28 rfl ?_
  refine mIf (fun h1 => ?_) (fun h1 => ?_)
  · refine mNf (lv2 := [(5, .int 0), (4, .int (Bm 2 0 6)), (0, .ref 0), (1, .int 2), (2, .int 2), (3, .int 0)]) (st2 := []) rfl rfl ?_
    refine mB hT 16 rfl ?_
    exact hR _ (by decide) _ _ _ (congrArg (fun z => [Value.int z]) (if_pos h1).symm) rfl
  · refine mNf (lv2 := [(5, .int 0), (4, .int (Bm 2 0 6)), (0, .ref 0), (1, .int 2), (2, .int 2), (3, .int 0)]) (st2 := []) rfl rfl ?_
    refine mB hT 4 rfl ?_
    refine hC.1 _ 0 [_, _] _ _ _ _ _ (m_all_2_0 hn) rfl rfl (Nat.le_of_ble_eq_true rfl) rfl ?_
    refine mB hT 5 rfl ?_
    refine hC.2 _ 0 [_, _] _ _ _ _ _ (m_main_2_0) rfl rfl (Nat.le_of_ble_eq_true rfl) rfl ?_
    refine mB hT 2 rfl ?_
    exact hR _ (by decide) _ _ _ (congrArg (fun z => [Value.int z]) (if_neg h1).symm) rfl
set_option maxRecDepth 20000 in
theorem m_entryOf_2_2_1 {n vs : Nat} {wo un h : Int64} {bo : Nat → Int32} {ta tr ro ot : Nat → Int64} {Bm : Nat → Nat → Nat → Int32} {bk : Nat → Nat → Int32} (hn : n ≤ 4) : KX3_entryOf l D ca ad [.ref 0, .int 2, .int 2, .int 1] (MW (Int32.ofNat n) (Int32.ofNat vs) wo un h bo ta tr ro ot Bm bk) (some (.int (ceM n (Bm 2) 1 2))) (MW (Int32.ofNat n) (Int32.ofNat vs) wo un h bo ta tr ro ot Bm bk) := by
  refine PX3_entryOf (Nat.le_of_ble_eq_true rfl) ?_
  intro G hT hC hR
  refine mB hT 28 rfl ?_
  refine mIf (fun h1 => ?_) (fun h1 => ?_)
  · refine mNf (lv2 := [(5, .int 0), (4, .int (Bm 2 1 6)), (0, .ref 0), (1, .int 2), (2, .int 2), (3, .int 1)]) (st2 := []) rfl rfl ?_
    refine mB hT 16 rfl ?_
    exact hR _ (by decide) _ _ _ (congrArg (fun z => [Value.int z]) (if_pos h1).symm) rfl
  · refine mNf (lv2 := [(5, .int 0), (4, .int (Bm 2 1 6)), (0, .ref 0), (1, .int 2), (2, .int 2), (3, .int 1)]) (st2 := []) rfl rfl ?_
    refine mB hT 4 rfl ?_
    refine hC.1 _ 0 [_, _] _ _ _ _ _ (m_all_2_1 hn) rfl rfl (Nat.le_of_ble_eq_true rfl) rfl ?_
    refine mB hT 5 rfl ?_
    refine hC.2 _ 0 [_, _] _ _ _ _ _ (m_main_2_1) rfl rfl (Nat.le_of_ble_eq_true rfl) rfl ?_
    refine mB hT 2 rfl ?_
    exact hR _ (by decide) _ _ _ (congrArg (fun z => [Value.int z]) (if_neg h1).symm) rfl
set_option maxRecDepth 20000 in
theorem m_entryOf_2_2_2 {n vs : Nat} {wo un h : Int64} {bo : Nat → Int32} {ta tr ro ot : Nat → Int64} {Bm : Nat → Nat → Nat → Int32} {bk : Nat → Nat → Int32} (hn : n ≤ 4) : KX3_entryOf l D ca ad [.ref 0, .int 2, .int 2, .int 2] (MW (Int32.ofNat n) (Int32.ofNat vs) wo un h bo ta tr ro ot Bm bk) (some (.int (ceM n (Bm 2) 2 2))) (MW (Int32.ofNat n) (Int32.ofNat vs) wo un h bo ta tr ro ot Bm bk) := by
  refine PX3_entryOf (Nat.le_of_ble_eq_true rfl) ?_
  intro G hT hC hR
  refine mB hT 36 rfl ?_
  refine mIf (fun h1 => ?_) (fun h1 => ?_)
  · refine mNf (lv2 := [(5, .int (Bm 2 2 0)), (4, .int (Bm 2 2 6)), (0, .ref 0), (1, .int 2), (2, .int 2), (3, .int 2)]) (st2 := []) rfl rfl ?_
    refine mB hT 16 rfl ?_
    exact hR _ (by decide) _ _ _ (congrArg (fun z => [Value.int z]) (if_pos h1).symm) rfl
  · refine mNf (lv2 := [(5, .int (Bm 2 2 0)), (4, .int (Bm 2 2 6)), (0, .ref 0), (1, .int 2), (2, .int 2), (3, .int 2)]) (st2 := []) rfl rfl ?_
    refine mB hT 4 rfl ?_
    refine hC.1 _ 0 [_, _] _ _ _ _ _ (m_all_2_2 hn) rfl rfl (Nat.le_of_ble_eq_true rfl) rfl ?_
    refine mB hT 5 rfl ?_
    refine hC.2 _ 0 [_, _] _ _ _ _ _ (m_main_2_2) rfl rfl (Nat.le_of_ble_eq_true rfl) rfl ?_
    refine mB hT 2 rfl ?_
    exact hR _ (by decide) _ _ _ (congrArg (fun z => [Value.int z]) (if_neg h1).symm) rfl
set_option maxRecDepth 20000 in
theorem m_entryOf_2_2_3 {n vs : Nat} {wo un h : Int64} {bo : Nat → Int32} {ta tr ro ot : Nat → Int64} {Bm : Nat → Nat → Nat → Int32} {bk : Nat → Nat → Int32} (hn : n ≤ 4) : KX3_entryOf l D ca ad [.ref 0, .int 2, .int 2, .int 3] (MW (Int32.ofNat n) (Int32.ofNat vs) wo un h bo ta tr ro ot Bm bk) (some (.int (ceM n (Bm 2) 3 2))) (MW (Int32.ofNat n) (Int32.ofNat vs) wo un h bo ta tr ro ot Bm bk) := by
  refine PX3_entryOf (Nat.le_of_ble_eq_true rfl) ?_
  intro G hT hC hR
  refine mB hT 28 rfl ?_
  refine mIf (fun h1 => ?_) (fun h1 => ?_)
  · refine mNf (lv2 := [(5, .int 0), (4, .int (Bm 2 3 6)), (0, .ref 0), (1, .int 2), (2, .int 2), (3, .int 3)]) (st2 := []) rfl rfl ?_
    refine mB hT 16 rfl ?_
    exact hR _ (by decide) _ _ _ (congrArg (fun z => [Value.int z]) (if_pos h1).symm) rfl
  · refine mNf (lv2 := [(5, .int 0), (4, .int (Bm 2 3 6)), (0, .ref 0), (1, .int 2), (2, .int 2), (3, .int 3)]) (st2 := []) rfl rfl ?_
    refine mB hT 4 rfl ?_
    refine hC.1 _ 0 [_, _] _ _ _ _ _ (m_all_2_3 hn) rfl rfl (Nat.le_of_ble_eq_true rfl) rfl ?_
    refine mB hT 5 rfl ?_
    refine hC.2 _ 0 [_, _] _ _ _ _ _ (m_main_2_3) rfl rfl (Nat.le_of_ble_eq_true rfl) rfl ?_
    refine mB hT 2 rfl ?_
    exact hR _ (by decide) _ _ _ (congrArg (fun z => [Value.int z]) (if_neg h1).symm) rfl
set_option maxRecDepth 20000 in
theorem m_entryOf_2_3_0 {n vs : Nat} {wo un h : Int64} {bo : Nat → Int32} {ta tr ro ot : Nat → Int64} {Bm : Nat → Nat → Nat → Int32} {bk : Nat → Nat → Int32} (hn : n ≤ 4) : KX3_entryOf l D ca ad [.ref 0, .int 2, .int 3, .int 0] (MW (Int32.ofNat n) (Int32.ofNat vs) wo un h bo ta tr ro ot Bm bk) (some (.int (ceM n (Bm 2) 0 3))) (MW (Int32.ofNat n) (Int32.ofNat vs) wo un h bo ta tr ro ot Bm bk) := by
  refine PX3_entryOf (Nat.le_of_ble_eq_true rfl) ?_
  intro G hT hC hR
  refine mB hT 28 rfl ?_
  refine mIf (fun h1 => ?_) (fun h1 => ?_)
  · refine mNf (lv2 := [(5, .int 0), (4, .int (Bm 2 0 7)), (0, .ref 0), (1, .int 2), (2, .int 3), (3, .int 0)]) (st2 := []) rfl rfl ?_
    refine mB hT 16 rfl ?_
    exact hR _ (by decide) _ _ _ (congrArg (fun z => [Value.int z]) (if_pos h1).symm) rfl
  · refine mNf (lv2 := [(5, .int 0), (4, .int (Bm 2 0 7)), (0, .ref 0), (1, .int 2), (2, .int 3), (3, .int 0)]) (st2 := []) rfl rfl ?_
    refine mB hT 4 rfl ?_
    refine hC.1 _ 0 [_, _] _ _ _ _ _ (m_all_2_0 hn) rfl rfl (Nat.le_of_ble_eq_true rfl) rfl ?_
    refine mB hT 5 rfl ?_
    refine hC.2 _ 0 [_, _] _ _ _ _ _ (m_main_2_0) rfl rfl (Nat.le_of_ble_eq_true rfl) rfl ?_
    refine mB hT 2 rfl ?_
    exact hR _ (by decide) _ _ _ (congrArg (fun z => [Value.int z]) (if_neg h1).symm) rfl
set_option maxRecDepth 20000 in
theorem m_entryOf_2_3_1 {n vs : Nat} {wo un h : Int64} {bo : Nat → Int32} {ta tr ro ot : Nat → Int64} {Bm : Nat → Nat → Nat → Int32} {bk : Nat → Nat → Int32} (hn : n ≤ 4) : KX3_entryOf l D ca ad [.ref 0, .int 2, .int 3, .int 1] (MW (Int32.ofNat n) (Int32.ofNat vs) wo un h bo ta tr ro ot Bm bk) (some (.int (ceM n (Bm 2) 1 3))) (MW (Int32.ofNat n) (Int32.ofNat vs) wo un h bo ta tr ro ot Bm bk) := by
  refine PX3_entryOf (Nat.le_of_ble_eq_true rfl) ?_
  intro G hT hC hR
  refine mB hT 28 rfl ?_
  refine mIf (fun h1 => ?_) (fun h1 => ?_)
  · refine mNf (lv2 := [(5, .int 0), (4, .int (Bm 2 1 7)), (0, .ref 0), (1, .int 2), (2, .int 3), (3, .int 1)]) (st2 := []) rfl rfl ?_
    refine mB hT 16 rfl ?_
    exact hR _ (by decide) _ _ _ (congrArg (fun z => [Value.int z]) (if_pos h1).symm) rfl
  · refine mNf (lv2 := [(5, .int 0), (4, .int (Bm 2 1 7)), (0, .ref 0), (1, .int 2), (2, .int 3), (3, .int 1)]) (st2 := []) rfl rfl ?_
    refine mB hT 4 rfl ?_
    refine hC.1 _ 0 [_, _] _ _ _ _ _ (m_all_2_1 hn) rfl rfl (Nat.le_of_ble_eq_true rfl) rfl ?_
    refine mB hT 5 rfl ?_
    refine hC.2 _ 0 [_, _] _ _ _ _ _ (m_main_2_1) rfl rfl (Nat.le_of_ble_eq_true rfl) rfl ?_
    refine mB hT 2 rfl ?_
    exact hR _ (by decide) _ _ _ (congrArg (fun z => [Value.int z]) (if_neg h1).symm) rfl
set_option maxRecDepth 20000 in
theorem m_entryOf_2_3_2 {n vs : Nat} {wo un h : Int64} {bo : Nat → Int32} {ta tr ro ot : Nat → Int64} {Bm : Nat → Nat → Nat → Int32} {bk : Nat → Nat → Int32} (hn : n ≤ 4) : KX3_entryOf l D ca ad [.ref 0, .int 2, .int 3, .int 2] (MW (Int32.ofNat n) (Int32.ofNat vs) wo un h bo ta tr ro ot Bm bk) (some (.int (ceM n (Bm 2) 2 3))) (MW (Int32.ofNat n) (Int32.ofNat vs) wo un h bo ta tr ro ot Bm bk) := by
  refine PX3_entryOf (Nat.le_of_ble_eq_true rfl) ?_
  intro G hT hC hR
  refine mB hT 28 rfl ?_
  refine mIf (fun h1 => ?_) (fun h1 => ?_)
  · refine mNf (lv2 := [(5, .int 0), (4, .int (Bm 2 2 7)), (0, .ref 0), (1, .int 2), (2, .int 3), (3, .int 2)]) (st2 := []) rfl rfl ?_
    refine mB hT 16 rfl ?_
    exact hR _ (by decide) _ _ _ (congrArg (fun z => [Value.int z]) (if_pos h1).symm) rfl
  · refine mNf (lv2 := [(5, .int 0), (4, .int (Bm 2 2 7)), (0, .ref 0), (1, .int 2), (2, .int 3), (3, .int 2)]) (st2 := []) rfl rfl ?_
    refine mB hT 4 rfl ?_
    refine hC.1 _ 0 [_, _] _ _ _ _ _ (m_all_2_2 hn) rfl rfl (Nat.le_of_ble_eq_true rfl) rfl ?_
    refine mB hT 5 rfl ?_
    refine hC.2 _ 0 [_, _] _ _ _ _ _ (m_main_2_2) rfl rfl (Nat.le_of_ble_eq_true rfl) rfl ?_
    refine mB hT 2 rfl ?_
    exact hR _ (by decide) _ _ _ (congrArg (fun z => [Value.int z]) (if_neg h1).symm) rfl
set_option maxRecDepth 20000 in
theorem m_entryOf_2_3_3 {n vs : Nat} {wo un h : Int64} {bo : Nat → Int32} {ta tr ro ot : Nat → Int64} {Bm : Nat → Nat → Nat → Int32} {bk : Nat → Nat → Int32} (hn : n ≤ 4) : KX3_entryOf l D ca ad [.ref 0, .int 2, .int 3, .int 3] (MW (Int32.ofNat n) (Int32.ofNat vs) wo un h bo ta tr ro ot Bm bk) (some (.int (ceM n (Bm 2) 3 3))) (MW (Int32.ofNat n) (Int32.ofNat vs) wo un h bo ta tr ro ot Bm bk) := by
  refine PX3_entryOf (Nat.le_of_ble_eq_true rfl) ?_
  intro G hT hC hR
  refine mB hT 36 rfl ?_
  refine mIf (fun h1 => ?_) (fun h1 => ?_)
  · refine mNf (lv2 := [(5, .int (Bm 2 3 0)), (4, .int (Bm 2 3 7)), (0, .ref 0), (1, .int 2), (2, .int 3), (3, .int 3)]) (st2 := []) rfl rfl ?_
    refine mB hT 16 rfl ?_
    exact hR _ (by decide) _ _ _ (congrArg (fun z => [Value.int z]) (if_pos h1).symm) rfl
  · refine mNf (lv2 := [(5, .int (Bm 2 3 0)), (4, .int (Bm 2 3 7)), (0, .ref 0), (1, .int 2), (2, .int 3), (3, .int 3)]) (st2 := []) rfl rfl ?_
    refine mB hT 4 rfl ?_
    refine hC.1 _ 0 [_, _] _ _ _ _ _ (m_all_2_3 hn) rfl rfl (Nat.le_of_ble_eq_true rfl) rfl ?_
    refine mB hT 5 rfl ?_
    refine hC.2 _ 0 [_, _] _ _ _ _ _ (m_main_2_3) rfl rfl (Nat.le_of_ble_eq_true rfl) rfl ?_
    refine mB hT 2 rfl ?_
    exact hR _ (by decide) _ _ _ (congrArg (fun z => [Value.int z]) (if_neg h1).symm) rfl
set_option maxRecDepth 20000 in
theorem m_entryOf_3_0_0 {n vs : Nat} {wo un h : Int64} {bo : Nat → Int32} {ta tr ro ot : Nat → Int64} {Bm : Nat → Nat → Nat → Int32} {bk : Nat → Nat → Int32} (hn : n ≤ 4) : KX3_entryOf l D ca ad [.ref 0, .int 3, .int 0, .int 0] (MW (Int32.ofNat n) (Int32.ofNat vs) wo un h bo ta tr ro ot Bm bk) (some (.int (ceM n (Bm 3) 0 0))) (MW (Int32.ofNat n) (Int32.ofNat vs) wo un h bo ta tr ro ot Bm bk) := by
  refine PX3_entryOf (Nat.le_of_ble_eq_true rfl) ?_
  intro G hT hC hR
  refine mB hT 36 rfl ?_
  refine mIf (fun h1 => ?_) (fun h1 => ?_)
  · refine mNf (lv2 := [(5, .int (Bm 3 0 0)), (4, .int (Bm 3 0 4)), (0, .ref 0), (1, .int 3), (2, .int 0), (3, .int 0)]) (st2 := []) rfl rfl ?_
    refine mB hT 16 rfl ?_
    exact hR _ (by decide) _ _ _ (congrArg (fun z => [Value.int z]) (if_pos h1).symm) rfl
  · refine mNf (lv2 := [(5, .int (Bm 3 0 0)), (4, .int (Bm 3 0 4)), (0, .ref 0), (1, .int 3), (2, .int 0), (3, .int 0)]) (st2 := []) rfl rfl ?_
    refine mB hT 4 rfl ?_
    refine hC.1 _ 0 [_, _] _ _ _ _ _ (m_all_3_0 hn) rfl rfl (Nat.le_of_ble_eq_true rfl) rfl ?_
    refine mB hT 5 rfl ?_
    refine hC.2 _ 0 [_, _] _ _ _ _ _ (m_main_3_0) rfl rfl (Nat.le_of_ble_eq_true rfl) rfl ?_
    refine mB hT 2 rfl ?_
    exact hR _ (by decide) _ _ _ (congrArg (fun z => [Value.int z]) (if_neg h1).symm) rfl
set_option maxRecDepth 20000 in
theorem m_entryOf_3_0_1 {n vs : Nat} {wo un h : Int64} {bo : Nat → Int32} {ta tr ro ot : Nat → Int64} {Bm : Nat → Nat → Nat → Int32} {bk : Nat → Nat → Int32} (hn : n ≤ 4) : KX3_entryOf l D ca ad [.ref 0, .int 3, .int 0, .int 1] (MW (Int32.ofNat n) (Int32.ofNat vs) wo un h bo ta tr ro ot Bm bk) (some (.int (ceM n (Bm 3) 1 0))) (MW (Int32.ofNat n) (Int32.ofNat vs) wo un h bo ta tr ro ot Bm bk) := by
  refine PX3_entryOf (Nat.le_of_ble_eq_true rfl) ?_
  intro G hT hC hR
  refine mB hT 28 rfl ?_
  refine mIf (fun h1 => ?_) (fun h1 => ?_)
  · refine mNf (lv2 := [(5, .int 0), (4, .int (Bm 3 1 4)), (0, .ref 0), (1, .int 3), (2, .int 0), (3, .int 1)]) (st2 := []) rfl rfl ?_
    refine mB hT 16 rfl ?_
    exact hR _ (by decide) _ _ _ (congrArg (fun z => [Value.int z]) (if_pos h1).symm) rfl
  · refine mNf (lv2 := [(5, .int 0), (4, .int (Bm 3 1 4)), (0, .ref 0), (1, .int 3), (2, .int 0), (3, .int 1)]) (st2 := []) rfl rfl ?_
    refine mB hT 4 rfl ?_
    refine hC.1 _ 0 [_, _] _ _ _ _ _ (m_all_3_1 hn) rfl rfl (Nat.le_of_ble_eq_true rfl) rfl ?_
    refine mB hT 5 rfl ?_
    refine hC.2 _ 0 [_, _] _ _ _ _ _ (m_main_3_1) rfl rfl (Nat.le_of_ble_eq_true rfl) rfl ?_
    refine mB hT 2 rfl ?_
    exact hR _ (by decide) _ _ _ (congrArg (fun z => [Value.int z]) (if_neg h1).symm) rfl
set_option maxRecDepth 20000 in
theorem m_entryOf_3_0_2 {n vs : Nat} {wo un h : Int64} {bo : Nat → Int32} {ta tr ro ot : Nat → Int64} {Bm : Nat → Nat → Nat → Int32} {bk : Nat → Nat → Int32} (hn : n ≤ 4) : KX3_entryOf l D ca ad [.ref 0, .int 3, .int 0, .int 2] (MW (Int32.ofNat n) (Int32.ofNat vs) wo un h bo ta tr ro ot Bm bk) (some (.int (ceM n (Bm 3) 2 0))) (MW (Int32.ofNat n) (Int32.ofNat vs) wo un h bo ta tr ro ot Bm bk) := by
  refine PX3_entryOf (Nat.le_of_ble_eq_true rfl) ?_
  intro G hT hC hR
  refine mB hT 28 rfl ?_
  refine mIf (fun h1 => ?_) (fun h1 => ?_)
  · refine mNf (lv2 := [(5, .int 0), (4, .int (Bm 3 2 4)), (0, .ref 0), (1, .int 3), (2, .int 0), (3, .int 2)]) (st2 := []) rfl rfl ?_
    refine mB hT 16 rfl ?_
    exact hR _ (by decide) _ _ _ (congrArg (fun z => [Value.int z]) (if_pos h1).symm) rfl
  · refine mNf (lv2 := [(5, .int 0), (4, .int (Bm 3 2 4)), (0, .ref 0), (1, .int 3), (2, .int 0), (3, .int 2)]) (st2 := []) rfl rfl ?_
    refine mB hT 4 rfl ?_
    refine hC.1 _ 0 [_, _] _ _ _ _ _ (m_all_3_2 hn) rfl rfl (Nat.le_of_ble_eq_true rfl) rfl ?_
    refine mB hT 5 rfl ?_
    refine hC.2 _ 0 [_, _] _ _ _ _ _ (m_main_3_2) rfl rfl (Nat.le_of_ble_eq_true rfl) rfl ?_
    refine mB hT 2 rfl ?_
    exact hR _ (by decide) _ _ _ (congrArg (fun z => [Value.int z]) (if_neg h1).symm) rfl
set_option maxRecDepth 20000 in
theorem m_entryOf_3_0_3 {n vs : Nat} {wo un h : Int64} {bo : Nat → Int32} {ta tr ro ot : Nat → Int64} {Bm : Nat → Nat → Nat → Int32} {bk : Nat → Nat → Int32} (hn : n ≤ 4) : KX3_entryOf l D ca ad [.ref 0, .int 3, .int 0, .int 3] (MW (Int32.ofNat n) (Int32.ofNat vs) wo un h bo ta tr ro ot Bm bk) (some (.int (ceM n (Bm 3) 3 0))) (MW (Int32.ofNat n) (Int32.ofNat vs) wo un h bo ta tr ro ot Bm bk) := by
  refine PX3_entryOf (Nat.le_of_ble_eq_true rfl) ?_
  intro G hT hC hR
  refine mB hT 28 rfl ?_
  refine mIf (fun h1 => ?_) (fun h1 => ?_)
  · refine mNf (lv2 := [(5, .int 0), (4, .int (Bm 3 3 4)), (0, .ref 0), (1, .int 3), (2, .int 0), (3, .int 3)]) (st2 := []) rfl rfl ?_
    refine mB hT 16 rfl ?_
    exact hR _ (by decide) _ _ _ (congrArg (fun z => [Value.int z]) (if_pos h1).symm) rfl
  · refine mNf (lv2 := [(5, .int 0), (4, .int (Bm 3 3 4)), (0, .ref 0), (1, .int 3), (2, .int 0), (3, .int 3)]) (st2 := []) rfl rfl ?_
    refine mB hT 4 rfl ?_
    refine hC.1 _ 0 [_, _] _ _ _ _ _ (m_all_3_3 hn) rfl rfl (Nat.le_of_ble_eq_true rfl) rfl ?_
    refine mB hT 5 rfl ?_
    refine hC.2 _ 0 [_, _] _ _ _ _ _ (m_main_3_3) rfl rfl (Nat.le_of_ble_eq_true rfl) rfl ?_
    refine mB hT 2 rfl ?_
    exact hR _ (by decide) _ _ _ (congrArg (fun z => [Value.int z]) (if_neg h1).symm) rfl
set_option maxRecDepth 20000 in
theorem m_entryOf_3_1_0 {n vs : Nat} {wo un h : Int64} {bo : Nat → Int32} {ta tr ro ot : Nat → Int64} {Bm : Nat → Nat → Nat → Int32} {bk : Nat → Nat → Int32} (hn : n ≤ 4) : KX3_entryOf l D ca ad [.ref 0, .int 3, .int 1, .int 0] (MW (Int32.ofNat n) (Int32.ofNat vs) wo un h bo ta tr ro ot Bm bk) (some (.int (ceM n (Bm 3) 0 1))) (MW (Int32.ofNat n) (Int32.ofNat vs) wo un h bo ta tr ro ot Bm bk) := by
  refine PX3_entryOf (Nat.le_of_ble_eq_true rfl) ?_
  intro G hT hC hR
  refine mB hT 28 rfl ?_
  refine mIf (fun h1 => ?_) (fun h1 => ?_)
  · refine mNf (lv2 := [(5, .int 0), (4, .int (Bm 3 0 5)), (0, .ref 0), (1, .int 3), (2, .int 1), (3, .int 0)]) (st2 := []) rfl rfl ?_
    refine mB hT 16 rfl ?_
    exact hR _ (by decide) _ _ _ (congrArg (fun z => [Value.int z]) (if_pos h1).symm) rfl
  · refine mNf (lv2 := [(5, .int 0), (4, .int (Bm 3 0 5)), (0, .ref 0), (1, .int 3), (2, .int 1), (3, .int 0)]) (st2 := []) rfl rfl ?_
    refine mB hT 4 rfl ?_
    refine hC.1 _ 0 [_, _] _ _ _ _ _ (m_all_3_0 hn) rfl rfl (Nat.le_of_ble_eq_true rfl) rfl ?_
    refine mB hT 5 rfl ?_
    refine hC.2 _ 0 [_, _] _ _ _ _ _ (m_main_3_0) rfl rfl (Nat.le_of_ble_eq_true rfl) rfl ?_
    refine mB hT 2 rfl ?_
    exact hR _ (by decide) _ _ _ (congrArg (fun z => [Value.int z]) (if_neg h1).symm) rfl
set_option maxRecDepth 20000 in
theorem m_entryOf_3_1_1 {n vs : Nat} {wo un h : Int64} {bo : Nat → Int32} {ta tr ro ot : Nat → Int64} {Bm : Nat → Nat → Nat → Int32} {bk : Nat → Nat → Int32} (hn : n ≤ 4) : KX3_entryOf l D ca ad [.ref 0, .int 3, .int 1, .int 1] (MW (Int32.ofNat n) (Int32.ofNat vs) wo un h bo ta tr ro ot Bm bk) (some (.int (ceM n (Bm 3) 1 1))) (MW (Int32.ofNat n) (Int32.ofNat vs) wo un h bo ta tr ro ot Bm bk) := by
  refine PX3_entryOf (Nat.le_of_ble_eq_true rfl) ?_
  intro G hT hC hR
  refine mB hT 36 rfl ?_
  refine mIf (fun h1 => ?_) (fun h1 => ?_)
  · refine mNf (lv2 := [(5, .int (Bm 3 1 0)), (4, .int (Bm 3 1 5)), (0, .ref 0), (1, .int 3), (2, .int 1), (3, .int 1)]) (st2 := []) rfl rfl ?_
    refine mB hT 16 rfl ?_
    exact hR _ (by decide) _ _ _ (congrArg (fun z => [Value.int z]) (if_pos h1).symm) rfl
  · refine mNf (lv2 := [(5, .int (Bm 3 1 0)), (4, .int (Bm 3 1 5)), (0, .ref 0), (1, .int 3), (2, .int 1), (3, .int 1)]) (st2 := []) rfl rfl ?_
    refine mB hT 4 rfl ?_
    refine hC.1 _ 0 [_, _] _ _ _ _ _ (m_all_3_1 hn) rfl rfl (Nat.le_of_ble_eq_true rfl) rfl ?_
    refine mB hT 5 rfl ?_
    refine hC.2 _ 0 [_, _] _ _ _ _ _ (m_main_3_1) rfl rfl (Nat.le_of_ble_eq_true rfl) rfl ?_
    refine mB hT 2 rfl ?_
    exact hR _ (by decide) _ _ _ (congrArg (fun z => [Value.int z]) (if_neg h1).symm) rfl
set_option maxRecDepth 20000 in
theorem m_entryOf_3_1_2 {n vs : Nat} {wo un h : Int64} {bo : Nat → Int32} {ta tr ro ot : Nat → Int64} {Bm : Nat → Nat → Nat → Int32} {bk : Nat → Nat → Int32} (hn : n ≤ 4) : KX3_entryOf l D ca ad [.ref 0, .int 3, .int 1, .int 2] (MW (Int32.ofNat n) (Int32.ofNat vs) wo un h bo ta tr ro ot Bm bk) (some (.int (ceM n (Bm 3) 2 1))) (MW (Int32.ofNat n) (Int32.ofNat vs) wo un h bo ta tr ro ot Bm bk) := by
  refine PX3_entryOf (Nat.le_of_ble_eq_true rfl) ?_
  intro G hT hC hR
  refine mB hT 28 rfl ?_
  refine mIf (fun h1 => ?_) (fun h1 => ?_)
  · refine mNf (lv2 := [(5, .int 0), (4, .int (Bm 3 2 5)), (0, .ref 0), (1, .int 3), (2, .int 1), (3, .int 2)]) (st2 := []) rfl rfl ?_
    refine mB hT 16 rfl ?_
    exact hR _ (by decide) _ _ _ (congrArg (fun z => [Value.int z]) (if_pos h1).symm) rfl
  · refine mNf (lv2 := [(5, .int 0), (4, .int (Bm 3 2 5)), (0, .ref 0), (1, .int 3), (2, .int 1), (3, .int 2)]) (st2 := []) rfl rfl ?_
    refine mB hT 4 rfl ?_
    refine hC.1 _ 0 [_, _] _ _ _ _ _ (m_all_3_2 hn) rfl rfl (Nat.le_of_ble_eq_true rfl) rfl ?_
    refine mB hT 5 rfl ?_
    refine hC.2 _ 0 [_, _] _ _ _ _ _ (m_main_3_2) rfl rfl (Nat.le_of_ble_eq_true rfl) rfl ?_
    refine mB hT 2 rfl ?_
    exact hR _ (by decide) _ _ _ (congrArg (fun z => [Value.int z]) (if_neg h1).symm) rfl
set_option maxRecDepth 20000 in
theorem m_entryOf_3_1_3 {n vs : Nat} {wo un h : Int64} {bo : Nat → Int32} {ta tr ro ot : Nat → Int64} {Bm : Nat → Nat → Nat → Int32} {bk : Nat → Nat → Int32} (hn : n ≤ 4) : KX3_entryOf l D ca ad [.ref 0, .int 3, .int 1, .int 3] (MW (Int32.ofNat n) (Int32.ofNat vs) wo un h bo ta tr ro ot Bm bk) (some (.int (ceM n (Bm 3) 3 1))) (MW (Int32.ofNat n) (Int32.ofNat vs) wo un h bo ta tr ro ot Bm bk) := by
  refine PX3_entryOf (Nat.le_of_ble_eq_true rfl) ?_
  intro G hT hC hR
  refine mB hT 28 rfl ?_
  refine mIf (fun h1 => ?_) (fun h1 => ?_)
  · refine mNf (lv2 := [(5, .int 0), (4, .int (Bm 3 3 5)), (0, .ref 0), (1, .int 3), (2, .int 1), (3, .int 3)]) (st2 := []) rfl rfl ?_
    refine mB hT 16 rfl ?_
    exact hR _ (by decide) _ _ _ (congrArg (fun z => [Value.int z]) (if_pos h1).symm) rfl
  · refine mNf (lv2 := [(5, .int 0), (4, .int (Bm 3 3 5)), (0, .ref 0), (1, .int 3), (2, .int 1), (3, .int 3)]) (st2 := []) rfl rfl ?_
    refine mB hT 4 rfl ?_
    refine hC.1 _ 0 [_, _] _ _ _ _ _ (m_all_3_3 hn) rfl rfl (Nat.le_of_ble_eq_true rfl) rfl ?_
    refine mB hT 5 rfl ?_
    refine hC.2 _ 0 [_, _] _ _ _ _ _ (m_main_3_3) rfl rfl (Nat.le_of_ble_eq_true rfl) rfl ?_
    refine mB hT 2 rfl ?_
    exact hR _ (by decide) _ _ _ (congrArg (fun z => [Value.int z]) (if_neg h1).symm) rfl
set_option maxRecDepth 20000 in
theorem m_entryOf_3_2_0 {n vs : Nat} {wo un h : Int64} {bo : Nat → Int32} {ta tr ro ot : Nat → Int64} {Bm : Nat → Nat → Nat → Int32} {bk : Nat → Nat → Int32} (hn : n ≤ 4) : KX3_entryOf l D ca ad [.ref 0, .int 3, .int 2, .int 0] (MW (Int32.ofNat n) (Int32.ofNat vs) wo un h bo ta tr ro ot Bm bk) (some (.int (ceM n (Bm 3) 0 2))) (MW (Int32.ofNat n) (Int32.ofNat vs) wo un h bo ta tr ro ot Bm bk) := by
  refine PX3_entryOf (Nat.le_of_ble_eq_true rfl) ?_
  intro G hT hC hR
  refine mB hT 28 rfl ?_
  refine mIf (fun h1 => ?_) (fun h1 => ?_)
  · refine mNf (lv2 := [(5, .int 0), (4, .int (Bm 3 0 6)), (0, .ref 0), (1, .int 3), (2, .int 2), (3, .int 0)]) (st2 := []) rfl rfl ?_
    refine mB hT 16 rfl ?_
    exact hR _ (by decide) _ _ _ (congrArg (fun z => [Value.int z]) (if_pos h1).symm) rfl
  · refine mNf (lv2 := [(5, .int 0), (4, .int (Bm 3 0 6)), (0, .ref 0), (1, .int 3), (2, .int 2), (3, .int 0)]) (st2 := []) rfl rfl ?_
    refine mB hT 4 rfl ?_
    refine hC.1 _ 0 [_, _] _ _ _ _ _ (m_all_3_0 hn) rfl rfl (Nat.le_of_ble_eq_true rfl) rfl ?_
    refine mB hT 5 rfl ?_
    refine hC.2 _ 0 [_, _] _ _ _ _ _ (m_main_3_0) rfl rfl (Nat.le_of_ble_eq_true rfl) rfl ?_
    refine mB hT 2 rfl ?_
    exact hR _ (by decide) _ _ _ (congrArg (fun z => [Value.int z]) (if_neg h1).symm) rfl
set_option maxRecDepth 20000 in
theorem m_entryOf_3_2_1 {n vs : Nat} {wo un h : Int64} {bo : Nat → Int32} {ta tr ro ot : Nat → Int64} {Bm : Nat → Nat → Nat → Int32} {bk : Nat → Nat → Int32} (hn : n ≤ 4) : KX3_entryOf l D ca ad [.ref 0, .int 3, .int 2, .int 1] (MW (Int32.ofNat n) (Int32.ofNat vs) wo un h bo ta tr ro ot Bm bk) (some (.int (ceM n (Bm 3) 1 2))) (MW (Int32.ofNat n) (Int32.ofNat vs) wo un h bo ta tr ro ot Bm bk) := by
  refine PX3_entryOf (Nat.le_of_ble_eq_true rfl) ?_
  intro G hT hC hR
  refine mB hT 28 rfl ?_
  refine mIf (fun h1 => ?_) (fun h1 => ?_)
  · refine mNf (lv2 := [(5, .int 0), (4, .int (Bm 3 1 6)), (0, .ref 0), (1, .int 3), (2, .int 2), (3, .int 1)]) (st2 := []) rfl rfl ?_
    refine mB hT 16 rfl ?_
    exact hR _ (by decide) _ _ _ (congrArg (fun z => [Value.int z]) (if_pos h1).symm) rfl
  · refine mNf (lv2 := [(5, .int 0), (4, .int (Bm 3 1 6)), (0, .ref 0), (1, .int 3), (2, .int 2), (3, .int 1)]) (st2 := []) rfl rfl ?_
    refine mB hT 4 rfl ?_
    refine hC.1 _ 0 [_, _] _ _ _ _ _ (m_all_3_1 hn) rfl rfl (Nat.le_of_ble_eq_true rfl) rfl ?_
    refine mB hT 5 rfl ?_
    refine hC.2 _ 0 [_, _] _ _ _ _ _ (m_main_3_1) rfl rfl (Nat.le_of_ble_eq_true rfl) rfl ?_
    refine mB hT 2 rfl ?_
    exact hR _ (by decide) _ _ _ (congrArg (fun z => [Value.int z]) (if_neg h1).symm) rfl
set_option maxRecDepth 20000 in
theorem m_entryOf_3_2_2 {n vs : Nat} {wo un h : Int64} {bo : Nat → Int32} {ta tr ro ot : Nat → Int64} {Bm : Nat → Nat → Nat → Int32} {bk : Nat → Nat → Int32} (hn : n ≤ 4) : KX3_entryOf l D ca ad [.ref 0, .int 3, .int 2, .int 2] (MW (Int32.ofNat n) (Int32.ofNat vs) wo un h bo ta tr ro ot Bm bk) (some (.int (ceM n (Bm 3) 2 2))) (MW (Int32.ofNat n) (Int32.ofNat vs) wo un h bo ta tr ro ot Bm bk) := by
  refine PX3_entryOf (Nat.le_of_ble_eq_true rfl) ?_
  intro G hT hC hR
  refine mB hT 36 rfl ?_
  refine mIf (fun h1 => ?_) (fun h1 => ?_)
  · refine mNf (lv2 := [(5, .int (Bm 3 2 0)), (4, .int (Bm 3 2 6)), (0, .ref 0), (1, .int 3), (2, .int 2), (3, .int 2)]) (st2 := []) rfl rfl ?_
    refine mB hT 16 rfl ?_
    exact hR _ (by decide) _ _ _ (congrArg (fun z => [Value.int z]) (if_pos h1).symm) rfl
  · refine mNf (lv2 := [(5, .int (Bm 3 2 0)), (4, .int (Bm 3 2 6)), (0, .ref 0), (1, .int 3), (2, .int 2), (3, .int 2)]) (st2 := []) rfl rfl ?_
    refine mB hT 4 rfl ?_
    refine hC.1 _ 0 [_, _] _ _ _ _ _ (m_all_3_2 hn) rfl rfl (Nat.le_of_ble_eq_true rfl) rfl ?_
    refine mB hT 5 rfl ?_
    refine hC.2 _ 0 [_, _] _ _ _ _ _ (m_main_3_2) rfl rfl (Nat.le_of_ble_eq_true rfl) rfl ?_
    refine mB hT 2 rfl ?_
    exact hR _ (by decide) _ _ _ (congrArg (fun z => [Value.int z]) (if_neg h1).symm) rfl
set_option maxRecDepth 20000 in
theorem m_entryOf_3_2_3 {n vs : Nat} {wo un h : Int64} {bo : Nat → Int32} {ta tr ro ot : Nat → Int64} {Bm : Nat → Nat → Nat → Int32} {bk : Nat → Nat → Int32} (hn : n ≤ 4) : KX3_entryOf l D ca ad [.ref 0, .int 3, .int 2, .int 3] (MW (Int32.ofNat n) (Int32.ofNat vs) wo un h bo ta tr ro ot Bm bk) (some (.int (ceM n (Bm 3) 3 2))) (MW (Int32.ofNat n) (Int32.ofNat vs) wo un h bo ta tr ro ot Bm bk) := by
  refine PX3_entryOf (Nat.le_of_ble_eq_true rfl) ?_
  intro G hT hC hR
  refine mB hT 28 rfl ?_
  refine mIf (fun h1 => ?_) (fun h1 => ?_)
  · refine mNf (lv2 := [(5, .int 0), (4, .int (Bm 3 3 6)), (0, .ref 0), (1, .int 3), (2, .int 2), (3, .int 3)]) (st2 := []) rfl rfl ?_
    refine mB hT 16 rfl ?_
    exact hR _ (by decide) _ _ _ (congrArg (fun z => [Value.int z]) (if_pos h1).symm) rfl
  · refine mNf (lv2 := [(5, .int 0), (4, .int (Bm 3 3 6)), (0, .ref 0), (1, .int 3), (2, .int 2), (3, .int 3)]) (st2 := []) rfl rfl ?_
    refine mB hT 4 rfl ?_
    refine hC.1 _ 0 [_, _] _ _ _ _ _ (m_all_3_3 hn) rfl rfl (Nat.le_of_ble_eq_true rfl) rfl ?_
    refine mB hT 5 rfl ?_
    refine hC.2 _ 0 [_, _] _ _ _ _ _ (m_main_3_3) rfl rfl (Nat.le_of_ble_eq_true rfl) rfl ?_
    refine mB hT 2 rfl ?_
    exact hR _ (by decide) _ _ _ (congrArg (fun z => [Value.int z]) (if_neg h1).symm) rfl
set_option maxRecDepth 20000 in
theorem m_entryOf_3_3_0 {n vs : Nat} {wo un h : Int64} {bo : Nat → Int32} {ta tr ro ot : Nat → Int64} {Bm : Nat → Nat → Nat → Int32} {bk : Nat → Nat → Int32} (hn : n ≤ 4) : KX3_entryOf l D ca ad [.ref 0, .int 3, .int 3, .int 0] (MW (Int32.ofNat n) (Int32.ofNat vs) wo un h bo ta tr ro ot Bm bk) (some (.int (ceM n (Bm 3) 0 3))) (MW (Int32.ofNat n) (Int32.ofNat vs) wo un h bo ta tr ro ot Bm bk) := by
  refine PX3_entryOf (Nat.le_of_ble_eq_true rfl) ?_
  intro G hT hC hR
  refine mB hT 28 rfl ?_
  refine mIf (fun h1 => ?_) (fun h1 => ?_)
  · refine mNf (lv2 := [(5, .int 0), (4, .int (Bm 3 0 7)), (0, .ref 0), (1, .int 3), (2, .int 3), (3, .int 0)]) (st2 := []) rfl rfl ?_
    refine mB hT 16 rfl ?_
    exact hR _ (by decide) _ _ _ (congrArg (fun z => [Value.int z]) (if_pos h1).symm) rfl
  · refine mNf (lv2 := [(5, .int 0), (4, .int (Bm 3 0 7)), (0, .ref 0), (1, .int 3), (2, .int 3), (3, .int 0)]) (st2 := []) rfl rfl ?_
    refine mB hT 4 rfl ?_
    refine hC.1 _ 0 [_, _] _ _ _ _ _ (m_all_3_0 hn) rfl rfl (Nat.le_of_ble_eq_true rfl) rfl ?_
    refine mB hT 5 rfl ?_
    refine hC.2 _ 0 [_, _] _ _ _ _ _ (m_main_3_0) rfl rfl (Nat.le_of_ble_eq_true rfl) rfl ?_
    refine mB hT 2 rfl ?_
    exact hR _ (by decide) _ _ _ (congrArg (fun z => [Value.int z]) (if_neg h1).symm) rfl
set_option maxRecDepth 20000 in
theorem m_entryOf_3_3_1 {n vs : Nat} {wo un h : Int64} {bo : Nat → Int32} {ta tr ro ot : Nat → Int64} {Bm : Nat → Nat → Nat → Int32} {bk : Nat → Nat → Int32} (hn : n ≤ 4) : KX3_entryOf l D ca ad [.ref 0, .int 3, .int 3, .int 1] (MW (Int32.ofNat n) (Int32.ofNat vs) wo un h bo ta tr ro ot Bm bk) (some (.int (ceM n (Bm 3) 1 3))) (MW (Int32.ofNat n) (Int32.ofNat vs) wo un h bo ta tr ro ot Bm bk) := by
  refine PX3_entryOf (Nat.le_of_ble_eq_true rfl) ?_
  intro G hT hC hR
  refine mB hT 28 rfl ?_
  refine mIf (fun h1 => ?_) (fun h1 => ?_)
  · refine mNf (lv2 := [(5, .int 0), (4, .int (Bm 3 1 7)), (0, .ref 0), (1, .int 3), (2, .int 3), (3, .int 1)]) (st2 := []) rfl rfl ?_
    refine mB hT 16 rfl ?_
    exact hR _ (by decide) _ _ _ (congrArg (fun z => [Value.int z]) (if_pos h1).symm) rfl
  · refine mNf (lv2 := [(5, .int 0), (4, .int (Bm 3 1 7)), (0, .ref 0), (1, .int 3), (2, .int 3), (3, .int 1)]) (st2 := []) rfl rfl ?_
    refine mB hT 4 rfl ?_
    refine hC.1 _ 0 [_, _] _ _ _ _ _ (m_all_3_1 hn) rfl rfl (Nat.le_of_ble_eq_true rfl) rfl ?_
    refine mB hT 5 rfl ?_
    refine hC.2 _ 0 [_, _] _ _ _ _ _ (m_main_3_1) rfl rfl (Nat.le_of_ble_eq_true rfl) rfl ?_
    refine mB hT 2 rfl ?_
    exact hR _ (by decide) _ _ _ (congrArg (fun z => [Value.int z]) (if_neg h1).symm) rfl
set_option maxRecDepth 20000 in
theorem m_entryOf_3_3_2 {n vs : Nat} {wo un h : Int64} {bo : Nat → Int32} {ta tr ro ot : Nat → Int64} {Bm : Nat → Nat → Nat → Int32} {bk : Nat → Nat → Int32} (hn : n ≤ 4) : KX3_entryOf l D ca ad [.ref 0, .int 3, .int 3, .int 2] (MW (Int32.ofNat n) (Int32.ofNat vs) wo un h bo ta tr ro ot Bm bk) (some (.int (ceM n (Bm 3) 2 3))) (MW (Int32.ofNat n) (Int32.ofNat vs) wo un h bo ta tr ro ot Bm bk) := by
  refine PX3_entryOf (Nat.le_of_ble_eq_true rfl) ?_
  intro G hT hC hR
  refine mB hT 28 rfl ?_
  refine mIf (fun h1 => ?_) (fun h1 => ?_)
  · refine mNf (lv2 := [(5, .int 0), (4, .int (Bm 3 2 7)), (0, .ref 0), (1, .int 3), (2, .int 3), (3, .int 2)]) (st2 := []) rfl rfl ?_
    refine mB hT 16 rfl ?_
    exact hR _ (by decide) _ _ _ (congrArg (fun z => [Value.int z]) (if_pos h1).symm) rfl
  · refine mNf (lv2 := [(5, .int 0), (4, .int (Bm 3 2 7)), (0, .ref 0), (1, .int 3), (2, .int 3), (3, .int 2)]) (st2 := []) rfl rfl ?_
    refine mB hT 4 rfl ?_
    refine hC.1 _ 0 [_, _] _ _ _ _ _ (m_all_3_2 hn) rfl rfl (Nat.le_of_ble_eq_true rfl) rfl ?_
    refine mB hT 5 rfl ?_
    refine hC.2 _ 0 [_, _] _ _ _ _ _ (m_main_3_2) rfl rfl (Nat.le_of_ble_eq_true rfl) rfl ?_
    refine mB hT 2 rfl ?_
    exact hR _ (by decide) _ _ _ (congrArg (fun z => [Value.int z]) (if_neg h1).symm) rfl
set_option maxRecDepth 20000 in
theorem m_entryOf_3_3_3 {n vs : Nat} {wo un h : Int64} {bo : Nat → Int32} {ta tr ro ot : Nat → Int64} {Bm : Nat → Nat → Nat → Int32} {bk : Nat → Nat → Int32} (hn : n ≤ 4) : KX3_entryOf l D ca ad [.ref 0, .int 3, .int 3, .int 3] (MW (Int32.ofNat n) (Int32.ofNat vs) wo un h bo ta tr ro ot Bm bk) (some (.int (ceM n (Bm 3) 3 3))) (MW (Int32.ofNat n) (Int32.ofNat vs) wo un h bo ta tr ro ot Bm bk) := by
  refine PX3_entryOf (Nat.le_of_ble_eq_true rfl) ?_
  intro G hT hC hR
  refine mB hT 36 rfl ?_
  refine mIf (fun h1 => ?_) (fun h1 => ?_)
  · refine mNf (lv2 := [(5, .int (Bm 3 3 0)), (4, .int (Bm 3 3 7)), (0, .ref 0), (1, .int 3), (2, .int 3), (3, .int 3)]) (st2 := []) rfl rfl ?_
    refine mB hT 16 rfl ?_
    exact hR _ (by decide) _ _ _ (congrArg (fun z => [Value.int z]) (if_pos h1).symm) rfl
  · refine mNf (lv2 := [(5, .int (Bm 3 3 0)), (4, .int (Bm 3 3 7)), (0, .ref 0), (1, .int 3), (2, .int 3), (3, .int 3)]) (st2 := []) rfl rfl ?_
    refine mB hT 4 rfl ?_
    refine hC.1 _ 0 [_, _] _ _ _ _ _ (m_all_3_3 hn) rfl rfl (Nat.le_of_ble_eq_true rfl) rfl ?_
    refine mB hT 5 rfl ?_
    refine hC.2 _ 0 [_, _] _ _ _ _ _ (m_main_3_3) rfl rfl (Nat.le_of_ble_eq_true rfl) rfl ?_
    refine mB hT 2 rfl ?_
    exact hR _ (by decide) _ _ _ (congrArg (fun z => [Value.int z]) (if_neg h1).symm) rfl
set_option maxRecDepth 20000 in
theorem m_entryOf_4_0_0 {n vs : Nat} {wo un h : Int64} {bo : Nat → Int32} {ta tr ro ot : Nat → Int64} {Bm : Nat → Nat → Nat → Int32} {bk : Nat → Nat → Int32} (hn : n ≤ 4) : KX3_entryOf l D ca ad [.ref 0, .int 4, .int 0, .int 0] (MW (Int32.ofNat n) (Int32.ofNat vs) wo un h bo ta tr ro ot Bm bk) (some (.int (ceM n (Bm 4) 0 0))) (MW (Int32.ofNat n) (Int32.ofNat vs) wo un h bo ta tr ro ot Bm bk) := by
  refine PX3_entryOf (Nat.le_of_ble_eq_true rfl) ?_
  intro G hT hC hR
  refine mB hT 36 rfl ?_
  refine mIf (fun h1 => ?_) (fun h1 => ?_)
  · refine mNf (lv2 := [(5, .int (Bm 4 0 0)), (4, .int (Bm 4 0 4)), (0, .ref 0), (1, .int 4), (2, .int 0), (3, .int 0)]) (st2 := []) rfl rfl ?_
    refine mB hT 16 rfl ?_
    exact hR _ (by decide) _ _ _ (congrArg (fun z => [Value.int z]) (if_pos h1).symm) rfl
  · refine mNf (lv2 := [(5, .int (Bm 4 0 0)), (4, .int (Bm 4 0 4)), (0, .ref 0), (1, .int 4), (2, .int 0), (3, .int 0)]) (st2 := []) rfl rfl ?_
    refine mB hT 4 rfl ?_
    refine hC.1 _ 0 [_, _] _ _ _ _ _ (m_all_4_0 hn) rfl rfl (Nat.le_of_ble_eq_true rfl) rfl ?_
    refine mB hT 5 rfl ?_
    refine hC.2 _ 0 [_, _] _ _ _ _ _ (m_main_4_0) rfl rfl (Nat.le_of_ble_eq_true rfl) rfl ?_
    refine mB hT 2 rfl ?_
    exact hR _ (by decide) _ _ _ (congrArg (fun z => [Value.int z]) (if_neg h1).symm) rfl
set_option maxRecDepth 20000 in
theorem m_entryOf_4_0_1 {n vs : Nat} {wo un h : Int64} {bo : Nat → Int32} {ta tr ro ot : Nat → Int64} {Bm : Nat → Nat → Nat → Int32} {bk : Nat → Nat → Int32} (hn : n ≤ 4) : KX3_entryOf l D ca ad [.ref 0, .int 4, .int 0, .int 1] (MW (Int32.ofNat n) (Int32.ofNat vs) wo un h bo ta tr ro ot Bm bk) (some (.int (ceM n (Bm 4) 1 0))) (MW (Int32.ofNat n) (Int32.ofNat vs) wo un h bo ta tr ro ot Bm bk) := by
  refine PX3_entryOf (Nat.le_of_ble_eq_true rfl) ?_
  intro G hT hC hR
  refine mB hT 28 rfl ?_
  refine mIf (fun h1 => ?_) (fun h1 => ?_)
  · refine mNf (lv2 := [(5, .int 0), (4, .int (Bm 4 1 4)), (0, .ref 0), (1, .int 4), (2, .int 0), (3, .int 1)]) (st2 := []) rfl rfl ?_
    refine mB hT 16 rfl ?_
    exact hR _ (by decide) _ _ _ (congrArg (fun z => [Value.int z]) (if_pos h1).symm) rfl
  · refine mNf (lv2 := [(5, .int 0), (4, .int (Bm 4 1 4)), (0, .ref 0), (1, .int 4), (2, .int 0), (3, .int 1)]) (st2 := []) rfl rfl ?_
    refine mB hT 4 rfl ?_
    refine hC.1 _ 0 [_, _] _ _ _ _ _ (m_all_4_1 hn) rfl rfl (Nat.le_of_ble_eq_true rfl) rfl ?_
    refine mB hT 5 rfl ?_
    refine hC.2 _ 0 [_, _] _ _ _ _ _ (m_main_4_1) rfl rfl (Nat.le_of_ble_eq_true rfl) rfl ?_
    refine mB hT 2 rfl ?_
    exact hR _ (by decide) _ _ _ (congrArg (fun z => [Value.int z]) (if_neg h1).symm) rfl
set_option maxRecDepth 20000 in
theorem m_entryOf_4_0_2 {n vs : Nat} {wo un h : Int64} {bo : Nat → Int32} {ta tr ro ot : Nat → Int64} {Bm : Nat → Nat → Nat → Int32} {bk : Nat → Nat → Int32} (hn : n ≤ 4) : KX3_entryOf l D ca ad [.ref 0, .int 4, .int 0, .int 2] (MW (Int32.ofNat n) (Int32.ofNat vs) wo un h bo ta tr ro ot Bm bk) (some (.int (ceM n (Bm 4) 2 0))) (MW (Int32.ofNat n) (Int32.ofNat vs) wo un h bo ta tr ro ot Bm bk) := by
  refine PX3_entryOf (Nat.le_of_ble_eq_true rfl) ?_
  intro G hT hC hR
  refine mB hT 28 rfl ?_
  refine mIf (fun h1 => ?_) (fun h1 => ?_)
  · refine mNf (lv2 := [(5, .int 0), (4, .int (Bm 4 2 4)), (0, .ref 0), (1, .int 4), (2, .int 0), (3, .int 2)]) (st2 := []) rfl rfl ?_
    refine mB hT 16 rfl ?_
    exact hR _ (by decide) _ _ _ (congrArg (fun z => [Value.int z]) (if_pos h1).symm) rfl
  · refine mNf (lv2 := [(5, .int 0), (4, .int (Bm 4 2 4)), (0, .ref 0), (1, .int 4), (2, .int 0), (3, .int 2)]) (st2 := []) rfl rfl ?_
    refine mB hT 4 rfl ?_
    refine hC.1 _ 0 [_, _] _ _ _ _ _ (m_all_4_2 hn) rfl rfl (Nat.le_of_ble_eq_true rfl) rfl ?_
    refine mB hT 5 rfl ?_
    refine hC.2 _ 0 [_, _] _ _ _ _ _ (m_main_4_2) rfl rfl (Nat.le_of_ble_eq_true rfl) rfl ?_
    refine mB hT 2 rfl ?_
    exact hR _ (by decide) _ _ _ (congrArg (fun z => [Value.int z]) (if_neg h1).symm) rfl
set_option maxRecDepth 20000 in
theorem m_entryOf_4_0_3 {n vs : Nat} {wo un h : Int64} {bo : Nat → Int32} {ta tr ro ot : Nat → Int64} {Bm : Nat → Nat → Nat → Int32} {bk : Nat → Nat → Int32} (hn : n ≤ 4) : KX3_entryOf l D ca ad [.ref 0, .int 4, .int 0, .int 3] (MW (Int32.ofNat n) (Int32.ofNat vs) wo un h bo ta tr ro ot Bm bk) (some (.int (ceM n (Bm 4) 3 0))) (MW (Int32.ofNat n) (Int32.ofNat vs) wo un h bo ta tr ro ot Bm bk) := by
  refine PX3_entryOf (Nat.le_of_ble_eq_true rfl) ?_
  intro G hT hC hR
  refine mB hT 28 rfl ?_
  refine mIf (fun h1 => ?_) (fun h1 => ?_)
  · refine mNf (lv2 := [(5, .int 0), (4, .int (Bm 4 3 4)), (0, .ref 0), (1, .int 4), (2, .int 0), (3, .int 3)]) (st2 := []) rfl rfl ?_
    refine mB hT 16 rfl ?_
    exact hR _ (by decide) _ _ _ (congrArg (fun z => [Value.int z]) (if_pos h1).symm) rfl
  · refine mNf (lv2 := [(5, .int 0), (4, .int (Bm 4 3 4)), (0, .ref 0), (1, .int 4), (2, .int 0), (3, .int 3)]) (st2 := []) rfl rfl ?_
    refine mB hT 4 rfl ?_
    refine hC.1 _ 0 [_, _] _ _ _ _ _ (m_all_4_3 hn) rfl rfl (Nat.le_of_ble_eq_true rfl) rfl ?_
    refine mB hT 5 rfl ?_
    refine hC.2 _ 0 [_, _] _ _ _ _ _ (m_main_4_3) rfl rfl (Nat.le_of_ble_eq_true rfl) rfl ?_
    refine mB hT 2 rfl ?_
    exact hR _ (by decide) _ _ _ (congrArg (fun z => [Value.int z]) (if_neg h1).symm) rfl
set_option maxRecDepth 20000 in
theorem m_entryOf_4_1_0 {n vs : Nat} {wo un h : Int64} {bo : Nat → Int32} {ta tr ro ot : Nat → Int64} {Bm : Nat → Nat → Nat → Int32} {bk : Nat → Nat → Int32} (hn : n ≤ 4) : KX3_entryOf l D ca ad [.ref 0, .int 4, .int 1, .int 0] (MW (Int32.ofNat n) (Int32.ofNat vs) wo un h bo ta tr ro ot Bm bk) (some (.int (ceM n (Bm 4) 0 1))) (MW (Int32.ofNat n) (Int32.ofNat vs) wo un h bo ta tr ro ot Bm bk) := by
  refine PX3_entryOf (Nat.le_of_ble_eq_true rfl) ?_
  intro G hT hC hR
  refine mB hT 28 rfl ?_
  refine mIf (fun h1 => ?_) (fun h1 => ?_)
  · refine mNf (lv2 := [(5, .int 0), (4, .int (Bm 4 0 5)), (0, .ref 0), (1, .int 4), (2, .int 1), (3, .int 0)]) (st2 := []) rfl rfl ?_
    refine mB hT 16 rfl ?_
    exact hR _ (by decide) _ _ _ (congrArg (fun z => [Value.int z]) (if_pos h1).symm) rfl
  · refine mNf (lv2 := [(5, .int 0), (4, .int (Bm 4 0 5)), (0, .ref 0), (1, .int 4), (2, .int 1), (3, .int 0)]) (st2 := []) rfl rfl ?_
    refine mB hT 4 rfl ?_
    refine hC.1 _ 0 [_, _] _ _ _ _ _ (m_all_4_0 hn) rfl rfl (Nat.le_of_ble_eq_true rfl) rfl ?_
    refine mB hT 5 rfl ?_
    refine hC.2 _ 0 [_, _] _ _ _ _ _ (m_main_4_0) rfl rfl (Nat.le_of_ble_eq_true rfl) rfl ?_
    refine mB hT 2 rfl ?_
    exact hR _ (by decide) _ _ _ (congrArg (fun z => [Value.int z]) (if_neg h1).symm) rfl
set_option maxRecDepth 20000 in
theorem m_entryOf_4_1_1 {n vs : Nat} {wo un h : Int64} {bo : Nat → Int32} {ta tr ro ot : Nat → Int64} {Bm : Nat → Nat → Nat → Int32} {bk : Nat → Nat → Int32} (hn : n ≤ 4) : KX3_entryOf l D ca ad [.ref 0, .int 4, .int 1, .int 1] (MW (Int32.ofNat n) (Int32.ofNat vs) wo un h bo ta tr ro ot Bm bk) (some (.int (ceM n (Bm 4) 1 1))) (MW (Int32.ofNat n) (Int32.ofNat vs) wo un h bo ta tr ro ot Bm bk) := by
  refine PX3_entryOf (Nat.le_of_ble_eq_true rfl) ?_
  intro G hT hC hR
  refine mB hT 36 rfl ?_
  refine mIf (fun h1 => ?_) (fun h1 => ?_)
  · refine mNf (lv2 := [(5, .int (Bm 4 1 0)), (4, .int (Bm 4 1 5)), (0, .ref 0), (1, .int 4), (2, .int 1), (3, .int 1)]) (st2 := []) rfl rfl ?_
    refine mB hT 16 rfl ?_
    exact hR _ (by decide) _ _ _ (congrArg (fun z => [Value.int z]) (if_pos h1).symm) rfl
  · refine mNf (lv2 := [(5, .int (Bm 4 1 0)), (4, .int (Bm 4 1 5)), (0, .ref 0), (1, .int 4), (2, .int 1), (3, .int 1)]) (st2 := []) rfl rfl ?_
    refine mB hT 4 rfl ?_
    refine hC.1 _ 0 [_, _] _ _ _ _ _ (m_all_4_1 hn) rfl rfl (Nat.le_of_ble_eq_true rfl) rfl ?_
    refine mB hT 5 rfl ?_
    refine hC.2 _ 0 [_, _] _ _ _ _ _ (m_main_4_1) rfl rfl (Nat.le_of_ble_eq_true rfl) rfl ?_
    refine mB hT 2 rfl ?_
    exact hR _ (by decide) _ _ _ (congrArg (fun z => [Value.int z]) (if_neg h1).symm) rfl
set_option maxRecDepth 20000 in
theorem m_entryOf_4_1_2 {n vs : Nat} {wo un h : Int64} {bo : Nat → Int32} {ta tr ro ot : Nat → Int64} {Bm : Nat → Nat → Nat → Int32} {bk : Nat → Nat → Int32} (hn : n ≤ 4) : KX3_entryOf l D ca ad [.ref 0, .int 4, .int 1, .int 2] (MW (Int32.ofNat n) (Int32.ofNat vs) wo un h bo ta tr ro ot Bm bk) (some (.int (ceM n (Bm 4) 2 1))) (MW (Int32.ofNat n) (Int32.ofNat vs) wo un h bo ta tr ro ot Bm bk) := by
  refine PX3_entryOf (Nat.le_of_ble_eq_true rfl) ?_
  intro G hT hC hR
  refine mB hT 28 rfl ?_
  refine mIf (fun h1 => ?_) (fun h1 => ?_)
  · refine mNf (lv2 := [(5, .int 0), (4, .int (Bm 4 2 5)), (0, .ref 0), (1, .int 4), (2, .int 1), (3, .int 2)]) (st2 := []) rfl rfl ?_
    refine mB hT 16 rfl ?_
    exact hR _ (by decide) _ _ _ (congrArg (fun z => [Value.int z]) (if_pos h1).symm) rfl
  · refine mNf (lv2 := [(5, .int 0), (4, .int (Bm 4 2 5)), (0, .ref 0), (1, .int 4), (2, .int 1), (3, .int 2)]) (st2 := []) rfl rfl ?_
    refine mB hT 4 rfl ?_
    refine hC.1 _ 0 [_, _] _ _ _ _ _ (m_all_4_2 hn) rfl rfl (Nat.le_of_ble_eq_true rfl) rfl ?_
    refine mB hT 5 rfl ?_
    refine hC.2 _ 0 [_, _] _ _ _ _ _ (m_main_4_2) rfl rfl (Nat.le_of_ble_eq_true rfl) rfl ?_
    refine mB hT 2 rfl ?_
    exact hR _ (by decide) _ _ _ (congrArg (fun z => [Value.int z]) (if_neg h1).symm) rfl
set_option maxRecDepth 20000 in
theorem m_entryOf_4_1_3 {n vs : Nat} {wo un h : Int64} {bo : Nat → Int32} {ta tr ro ot : Nat → Int64} {Bm : Nat → Nat → Nat → Int32} {bk : Nat → Nat → Int32} (hn : n ≤ 4) : KX3_entryOf l D ca ad [.ref 0, .int 4, .int 1, .int 3] (MW (Int32.ofNat n) (Int32.ofNat vs) wo un h bo ta tr ro ot Bm bk) (some (.int (ceM n (Bm 4) 3 1))) (MW (Int32.ofNat n) (Int32.ofNat vs) wo un h bo ta tr ro ot Bm bk) := by
  refine PX3_entryOf (Nat.le_of_ble_eq_true rfl) ?_
  intro G hT hC hR
  refine mB hT 28 rfl ?_
  refine mIf (fun h1 => ?_) (fun h1 => ?_)
  · refine mNf (lv2 := [(5, .int 0), (4, .int (Bm 4 3 5)), (0, .ref 0), (1, .int 4), (2, .int 1), (3, .int 3)]) (st2 := []) rfl rfl ?_
    refine mB hT 16 rfl ?_
    exact hR _ (by decide) _ _ _ (congrArg (fun z => [Value.int z]) (if_pos h1).symm) rfl
  · refine mNf (lv2 := [(5, .int 0), (4, .int (Bm 4 3 5)), (0, .ref 0), (1, .int 4), (2, .int 1), (3, .int 3)]) (st2 := []) rfl rfl ?_
    refine mB hT 4 rfl ?_
    refine hC.1 _ 0 [_, _] _ _ _ _ _ (m_all_4_3 hn) rfl rfl (Nat.le_of_ble_eq_true rfl) rfl ?_
    refine mB hT 5 rfl ?_
    refine hC.2 _ 0 [_, _] _ _ _ _ _ (m_main_4_3) rfl rfl (Nat.le_of_ble_eq_true rfl) rfl ?_
    refine mB hT 2 rfl ?_
    exact hR _ (by decide) _ _ _ (congrArg (fun z => [Value.int z]) (if_neg h1).symm) rfl
set_option maxRecDepth 20000 in
theorem m_entryOf_4_2_0 {n vs : Nat} {wo un h : Int64} {bo : Nat → Int32} {ta tr ro ot : Nat → Int64} {Bm : Nat → Nat → Nat → Int32} {bk : Nat → Nat → Int32} (hn : n ≤ 4) : KX3_entryOf l D ca ad [.ref 0, .int 4, .int 2, .int 0] (MW (Int32.ofNat n) (Int32.ofNat vs) wo un h bo ta tr ro ot Bm bk) (some (.int (ceM n (Bm 4) 0 2))) (MW (Int32.ofNat n) (Int32.ofNat vs) wo un h bo ta tr ro ot Bm bk) := by
  refine PX3_entryOf (Nat.le_of_ble_eq_true rfl) ?_
  intro G hT hC hR
  refine mB hT 28 rfl ?_
  refine mIf (fun h1 => ?_) (fun h1 => ?_)
  · refine mNf (lv2 := [(5, .int 0), (4, .int (Bm 4 0 6)), (0, .ref 0), (1, .int 4), (2, .int 2), (3, .int 0)]) (st2 := []) rfl rfl ?_
    refine mB hT 16 rfl ?_
    exact hR _ (by decide) _ _ _ (congrArg (fun z => [Value.int z]) (if_pos h1).symm) rfl
  · refine mNf (lv2 := [(5, .int 0), (4, .int (Bm 4 0 6)), (0, .ref 0), (1, .int 4), (2, .int 2), (3, .int 0)]) (st2 := []) rfl rfl ?_
    refine mB hT 4 rfl ?_
    refine hC.1 _ 0 [_, _] _ _ _ _ _ (m_all_4_0 hn) rfl rfl (Nat.le_of_ble_eq_true rfl) rfl ?_
    refine mB hT 5 rfl ?_
    refine hC.2 _ 0 [_, _] _ _ _ _ _ (m_main_4_0) rfl rfl (Nat.le_of_ble_eq_true rfl) rfl ?_
    refine mB hT 2 rfl ?_
    exact hR _ (by decide) _ _ _ (congrArg (fun z => [Value.int z]) (if_neg h1).symm) rfl
set_option maxRecDepth 20000 in
theorem m_entryOf_4_2_1 {n vs : Nat} {wo un h : Int64} {bo : Nat → Int32} {ta tr ro ot : Nat → Int64} {Bm : Nat → Nat → Nat → Int32} {bk : Nat → Nat → Int32} (hn : n ≤ 4) : KX3_entryOf l D ca ad [.ref 0, .int 4, .int 2, .int 1] (MW (Int32.ofNat n) (Int32.ofNat vs) wo un h bo ta tr ro ot Bm bk) (some (.int (ceM n (Bm 4) 1 2))) (MW (Int32.ofNat n) (Int32.ofNat vs) wo un h bo ta tr ro ot Bm bk) := by
  refine PX3_entryOf (Nat.le_of_ble_eq_true rfl) ?_
  intro G hT hC hR
  refine mB hT 28 rfl ?_
  refine mIf (fun h1 => ?_) (fun h1 => ?_)
  · refine mNf (lv2 := [(5, .int 0), (4, .int (Bm 4 1 6)), (0, .ref 0), (1, .int 4), (2, .int 2), (3, .int 1)]) (st2 := []) rfl rfl ?_
    refine mB hT 16 rfl ?_
    exact hR _ (by decide) _ _ _ (congrArg (fun z => [Value.int z]) (if_pos h1).symm) rfl
  · refine mNf (lv2 := [(5, .int 0), (4, .int (Bm 4 1 6)), (0, .ref 0), (1, .int 4), (2, .int 2), (3, .int 1)]) (st2 := []) rfl rfl ?_
    refine mB hT 4 rfl ?_
    refine hC.1 _ 0 [_, _] _ _ _ _ _ (m_all_4_1 hn) rfl rfl (Nat.le_of_ble_eq_true rfl) rfl ?_
    refine mB hT 5 rfl ?_
    refine hC.2 _ 0 [_, _] _ _ _ _ _ (m_main_4_1) rfl rfl (Nat.le_of_ble_eq_true rfl) rfl ?_
    refine mB hT 2 rfl ?_
    exact hR _ (by decide) _ _ _ (congrArg (fun z => [Value.int z]) (if_neg h1).symm) rfl
set_option maxRecDepth 20000 in
theorem m_entryOf_4_2_2 {n vs : Nat} {wo un h : Int64} {bo : Nat → Int32} {ta tr ro ot : Nat → Int64} {Bm : Nat → Nat → Nat → Int32} {bk : Nat → Nat → Int32} (hn : n ≤ 4) : KX3_entryOf l D ca ad [.ref 0, .int 4, .int 2, .int 2] (MW (Int32.ofNat n) (Int32.ofNat vs) wo un h bo ta tr ro ot Bm bk) (some (.int (ceM n (Bm 4) 2 2))) (MW (Int32.ofNat n) (Int32.ofNat vs) wo un h bo ta tr ro ot Bm bk) := by
  refine PX3_entryOf (Nat.le_of_ble_eq_true rfl) ?_
  intro G hT hC hR
  refine mB hT 36 rfl ?_
  refine mIf (fun h1 => ?_) (fun h1 => ?_)
  · refine mNf (lv2 := [(5, .int (Bm 4 2 0)), (4, .int (Bm 4 2 6)), (0, .ref 0), (1, .int 4), (2, .int 2), (3, .int 2)]) (st2 := []) rfl rfl ?_
    refine mB hT 16 rfl ?_
    exact hR _ (by decide) _ _ _ (congrArg (fun z => [Value.int z]) (if_pos h1).symm) rfl
  · refine mNf (lv2 := [(5, .int (Bm 4 2 0)), (4, .int (Bm 4 2 6)), (0, .ref 0), (1, .int 4), (2, .int 2), (3, .int 2)]) (st2 := []) rfl rfl ?_
    refine mB hT 4 rfl ?_
    refine hC.1 _ 0 [_, _] _ _ _ _ _ (m_all_4_2 hn) rfl rfl (Nat.le_of_ble_eq_true rfl) rfl ?_
    refine mB hT 5 rfl ?_
    refine hC.2 _ 0 [_, _] _ _ _ _ _ (m_main_4_2) rfl rfl (Nat.le_of_ble_eq_true rfl) rfl ?_
    refine mB hT 2 rfl ?_
    exact hR _ (by decide) _ _ _ (congrArg (fun z => [Value.int z]) (if_neg h1).symm) rfl
set_option maxRecDepth 20000 in
theorem m_entryOf_4_2_3 {n vs : Nat} {wo un h : Int64} {bo : Nat → Int32} {ta tr ro ot : Nat → Int64} {Bm : Nat → Nat → Nat → Int32} {bk : Nat → Nat → Int32} (hn : n ≤ 4) : KX3_entryOf l D ca ad [.ref 0, .int 4, .int 2, .int 3] (MW (Int32.ofNat n) (Int32.ofNat vs) wo un h bo ta tr ro ot Bm bk) (some (.int (ceM n (Bm 4) 3 2))) (MW (Int32.ofNat n) (Int32.ofNat vs) wo un h bo ta tr ro ot Bm bk) := by
  refine PX3_entryOf (Nat.le_of_ble_eq_true rfl) ?_
  intro G hT hC hR
  refine mB hT 28 rfl ?_
  refine mIf (fun h1 => ?_) (fun h1 => ?_)
  · refine mNf (lv2 := [(5, .int 0), (4, .int (Bm 4 3 6)), (0, .ref 0), (1, .int 4), (2, .int 2), (3, .int 3)]) (st2 := []) rfl rfl ?_
    refine mB hT 16 rfl ?_
    exact hR _ (by decide) _ _ _ (congrArg (fun z => [Value.int z]) (if_pos h1).symm) rfl
  · refine mNf (lv2 := [(5, .int 0), (4, .int (Bm 4 3 6)), (0, .ref 0), (1, .int 4), (2, .int 2), (3, .int 3)]) (st2 := []) rfl rfl ?_
    refine mB hT 4 rfl ?_
    refine hC.1 _ 0 [_, _] _ _ _ _ _ (m_all_4_3 hn) rfl rfl (Nat.le_of_ble_eq_true rfl) rfl ?_
    refine mB hT 5 rfl ?_
    refine hC.2 _ 0 [_, _] _ _ _ _ _ (m_main_4_3) rfl rfl (Nat.le_of_ble_eq_true rfl) rfl ?_
    refine mB hT 2 rfl ?_
    exact hR _ (by decide) _ _ _ (congrArg (fun z => [Value.int z]) (if_neg h1).symm) rfl
set_option maxRecDepth 20000 in
theorem m_entryOf_4_3_0 {n vs : Nat} {wo un h : Int64} {bo : Nat → Int32} {ta tr ro ot : Nat → Int64} {Bm : Nat → Nat → Nat → Int32} {bk : Nat → Nat → Int32} (hn : n ≤ 4) : KX3_entryOf l D ca ad [.ref 0, .int 4, .int 3, .int 0] (MW (Int32.ofNat n) (Int32.ofNat vs) wo un h bo ta tr ro ot Bm bk) (some (.int (ceM n (Bm 4) 0 3))) (MW (Int32.ofNat n) (Int32.ofNat vs) wo un h bo ta tr ro ot Bm bk) := by
  refine PX3_entryOf (Nat.le_of_ble_eq_true rfl) ?_
  intro G hT hC hR
  refine mB hT 28 rfl ?_
  refine mIf (fun h1 => ?_) (fun h1 => ?_)
  · refine mNf (lv2 := [(5, .int 0), (4, .int (Bm 4 0 7)), (0, .ref 0), (1, .int 4), (2, .int 3), (3, .int 0)]) (st2 := []) rfl rfl ?_
    refine mB hT 16 rfl ?_
    exact hR _ (by decide) _ _ _ (congrArg (fun z => [Value.int z]) (if_pos h1).symm) rfl
  · refine mNf (lv2 := [(5, .int 0), (4, .int (Bm 4 0 7)), (0, .ref 0), (1, .int 4), (2, .int 3), (3, .int 0)]) (st2 := []) rfl rfl ?_
    refine mB hT 4 rfl ?_
    refine hC.1 _ 0 [_, _] _ _ _ _ _ (m_all_4_0 hn) rfl rfl (Nat.le_of_ble_eq_true rfl) rfl ?_
    refine mB hT 5 rfl ?_
    refine hC.2 _ 0 [_, _] _ _ _ _ _ (m_main_4_0) rfl rfl (Nat.le_of_ble_eq_true rfl) rfl ?_
    refine mB hT 2 rfl ?_
    exact hR _ (by decide) _ _ _ (congrArg (fun z => [Value.int z]) (if_neg h1).symm) rfl
set_option maxRecDepth 20000 in
theorem m_entryOf_4_3_1 {n vs : Nat} {wo un h : Int64} {bo : Nat → Int32} {ta tr ro ot : Nat → Int64} {Bm : Nat → Nat → Nat → Int32} {bk : Nat → Nat → Int32} (hn : n ≤ 4) : KX3_entryOf l D ca ad [.ref 0, .int 4, .int 3, .int 1] (MW (Int32.ofNat n) (Int32.ofNat vs) wo un h bo ta tr ro ot Bm bk) (some (.int (ceM n (Bm 4) 1 3))) (MW (Int32.ofNat n) (Int32.ofNat vs) wo un h bo ta tr ro ot Bm bk) := by
  refine PX3_entryOf (Nat.le_of_ble_eq_true rfl) ?_
  intro G hT hC hR
  refine mB hT 28 rfl ?_
  refine mIf (fun h1 => ?_) (fun h1 => ?_)
  · refine mNf (lv2 := [(5, .int 0), (4, .int (Bm 4 1 7)), (0, .ref 0), (1, .int 4), (2, .int 3), (3, .int 1)]) (st2 := []) rfl rfl ?_
    refine mB hT 16 rfl ?_
    exact hR _ (by decide) _ _ _ (congrArg (fun z => [Value.int z]) (if_pos h1).symm) rfl
  · refine mNf (lv2 := [(5, .int 0), (4, .int (Bm 4 1 7)), (0, .ref 0), (1, .int 4), (2, .int 3), (3, .int 1)]) (st2 := []) rfl rfl ?_
    refine mB hT 4 rfl ?_
    refine hC.1 _ 0 [_, _] _ _ _ _ _ (m_all_4_1 hn) rfl rfl (Nat.le_of_ble_eq_true rfl) rfl ?_
    refine mB hT 5 rfl ?_
    refine hC.2 _ 0 [_, _] _ _ _ _ _ (m_main_4_1) rfl rfl (Nat.le_of_ble_eq_true rfl) rfl ?_
    refine mB hT 2 rfl ?_
    exact hR _ (by decide) _ _ _ (congrArg (fun z => [Value.int z]) (if_neg h1).symm) rfl
set_option maxRecDepth 20000 in
theorem m_entryOf_4_3_2 {n vs : Nat} {wo un h : Int64} {bo : Nat → Int32} {ta tr ro ot : Nat → Int64} {Bm : Nat → Nat → Nat → Int32} {bk : Nat → Nat → Int32} (hn : n ≤ 4) : KX3_entryOf l D ca ad [.ref 0, .int 4, .int 3, .int 2] (MW (Int32.ofNat n) (Int32.ofNat vs) wo un h bo ta tr ro ot Bm bk) (some (.int (ceM n (Bm 4) 2 3))) (MW (Int32.ofNat n) (Int32.ofNat vs) wo un h bo ta tr ro ot Bm bk) := by
  refine PX3_entryOf (Nat.le_of_ble_eq_true rfl) ?_
  intro G hT hC hR
  refine mB hT 28 rfl ?_
  refine mIf (fun h1 => ?_) (fun h1 => ?_)
  · refine mNf (lv2 := [(5, .int 0), (4, .int (Bm 4 2 7)), (0, .ref 0), (1, .int 4), (2, .int 3), (3, .int 2)]) (st2 := []) rfl rfl ?_
    refine mB hT 16 rfl ?_
    exact hR _ (by decide) _ _ _ (congrArg (fun z => [Value.int z]) (if_pos h1).symm) rfl
  · refine mNf (lv2 := [(5, .int 0), (4, .int (Bm 4 2 7)), (0, .ref 0), (1, .int 4), (2, .int 3), (3, .int 2)]) (st2 := []) rfl rfl ?_
    refine mB hT 4 rfl ?_
    refine hC.1 _ 0 [_, _] _ _ _ _ _ (m_all_4_2 hn) rfl rfl (Nat.le_of_ble_eq_true rfl) rfl ?_
    refine mB hT 5 rfl ?_
    refine hC.2 _ 0 [_, _] _ _ _ _ _ (m_main_4_2) rfl rfl (Nat.le_of_ble_eq_true rfl) rfl ?_
    refine mB hT 2 rfl ?_
    exact hR _ (by decide) _ _ _ (congrArg (fun z => [Value.int z]) (if_neg h1).symm) rfl
set_option maxRecDepth 20000 in
theorem m_entryOf_4_3_3 {n vs : Nat} {wo un h : Int64} {bo : Nat → Int32} {ta tr ro ot : Nat → Int64} {Bm : Nat → Nat → Nat → Int32} {bk : Nat → Nat → Int32} (hn : n ≤ 4) : KX3_entryOf l D ca ad [.ref 0, .int 4, .int 3, .int 3] (MW (Int32.ofNat n) (Int32.ofNat vs) wo un h bo ta tr ro ot Bm bk) (some (.int (ceM n (Bm 4) 3 3))) (MW (Int32.ofNat n) (Int32.ofNat vs) wo un h bo ta tr ro ot Bm bk) := by
  refine PX3_entryOf (Nat.le_of_ble_eq_true rfl) ?_
  intro G hT hC hR
  refine mB hT 36 rfl ?_
  refine mIf (fun h1 => ?_) (fun h1 => ?_)
  · refine mNf (lv2 := [(5, .int (Bm 4 3 0)), (4, .int (Bm 4 3 7)), (0, .ref 0), (1, .int 4), (2, .int 3), (3, .int 3)]) (st2 := []) rfl rfl ?_
    refine mB hT 16 rfl ?_
    exact hR _ (by decide) _ _ _ (congrArg (fun z => [Value.int z]) (if_pos h1).symm) rfl
  · refine mNf (lv2 := [(5, .int (Bm 4 3 0)), (4, .int (Bm 4 3 7)), (0, .ref 0), (1, .int 4), (2, .int 3), (3, .int 3)]) (st2 := []) rfl rfl ?_
    refine mB hT 4 rfl ?_
    refine hC.1 _ 0 [_, _] _ _ _ _ _ (m_all_4_3 hn) rfl rfl (Nat.le_of_ble_eq_true rfl) rfl ?_
    refine mB hT 5 rfl ?_
    refine hC.2 _ 0 [_, _] _ _ _ _ _ (m_main_4_3) rfl rfl (Nat.le_of_ble_eq_true rfl) rfl ?_
    refine mB hT 2 rfl ?_
    exact hR _ (by decide) _ _ _ (congrArg (fun z => [Value.int z]) (if_neg h1).symm) rfl
set_option maxRecDepth 20000 in
theorem m_entryOf_5_0_0 {n vs : Nat} {wo un h : Int64} {bo : Nat → Int32} {ta tr ro ot : Nat → Int64} {Bm : Nat → Nat → Nat → Int32} {bk : Nat → Nat → Int32} (hn : n ≤ 4) : KX3_entryOf l D ca ad [.ref 0, .int 5, .int 0, .int 0] (MW (Int32.ofNat n) (Int32.ofNat vs) wo un h bo ta tr ro ot Bm bk) (some (.int (ceM n (Bm 5) 0 0))) (MW (Int32.ofNat n) (Int32.ofNat vs) wo un h bo ta tr ro ot Bm bk) := by
  refine PX3_entryOf (Nat.le_of_ble_eq_true rfl) ?_
  intro G hT hC hR
  refine mB hT 36 rfl ?_
  refine mIf (fun h1 => ?_) (fun h1 => ?_)
  · refine mNf (lv2 := [(5, .int (Bm 5 0 0)), (4, .int (Bm 5 0 4)), (0, .ref 0), (1, .int 5), (2, .int 0), (3, .int 0)]) (st2 := []) rfl rfl ?_
    refine mB hT 16 rfl ?_
    exact hR _ (by decide) _ _ _ (congrArg (fun z => [Value.int z]) (if_pos h1).symm) rfl
  · refine mNf (lv2 := [(5, .int (Bm 5 0 0)), (4, .int (Bm 5 0 4)), (0, .ref 0), (1, .int 5), (2, .int 0), (3, .int 0)]) (st2 := []) rfl rfl ?_
    refine mB hT 4 rfl ?_
    refine hC.1 _ 0 [_, _] _ _ _ _ _ (m_all_5_0 hn) rfl rfl (Nat.le_of_ble_eq_true rfl) rfl ?_
    refine mB hT 5 rfl ?_
    refine hC.2 _ 0 [_, _] _ _ _ _ _ (m_main_5_0) rfl rfl (Nat.le_of_ble_eq_true rfl) rfl ?_
    refine mB hT 2 rfl ?_
    exact hR _ (by decide) _ _ _ (congrArg (fun z => [Value.int z]) (if_neg h1).symm) rfl
set_option maxRecDepth 20000 in
theorem m_entryOf_5_0_1 {n vs : Nat} {wo un h : Int64} {bo : Nat → Int32} {ta tr ro ot : Nat → Int64} {Bm : Nat → Nat → Nat → Int32} {bk : Nat → Nat → Int32} (hn : n ≤ 4) : KX3_entryOf l D ca ad [.ref 0, .int 5, .int 0, .int 1] (MW (Int32.ofNat n) (Int32.ofNat vs) wo un h bo ta tr ro ot Bm bk) (some (.int (ceM n (Bm 5) 1 0))) (MW (Int32.ofNat n) (Int32.ofNat vs) wo un h bo ta tr ro ot Bm bk) := by
  refine PX3_entryOf (Nat.le_of_ble_eq_true rfl) ?_
  intro G hT hC hR
  refine mB hT 28 rfl ?_
  refine mIf (fun h1 => ?_) (fun h1 => ?_)
  · refine mNf (lv2 := [(5, .int 0), (4, .int (Bm 5 1 4)), (0, .ref 0), (1, .int 5), (2, .int 0), (3, .int 1)]) (st2 := []) rfl rfl ?_
    refine mB hT 16 rfl ?_
    exact hR _ (by decide) _ _ _ (congrArg (fun z => [Value.int z]) (if_pos h1).symm) rfl
  · refine mNf (lv2 := [(5, .int 0), (4, .int (Bm 5 1 4)), (0, .ref 0), (1, .int 5), (2, .int 0), (3, .int 1)]) (st2 := []) rfl rfl ?_
    refine mB hT 4 rfl ?_
    refine hC.1 _ 0 [_, _] _ _ _ _ _ (m_all_5_1 hn) rfl rfl (Nat.le_of_ble_eq_true rfl) rfl ?_
    refine mB hT 5 rfl ?_
    refine hC.2 _ 0 [_, _] _ _ _ _ _ (m_main_5_1) rfl rfl (Nat.le_of_ble_eq_true rfl) rfl ?_
    refine mB hT 2 rfl ?_
    exact hR _ (by decide) _ _ _ (congrArg (fun z => [Value.int z]) (if_neg h1).symm) rfl
set_option maxRecDepth 20000 in
theorem m_entryOf_5_0_2 {n vs : Nat} {wo un h : Int64} {bo : Nat → Int32} {ta tr ro ot : Nat → Int64} {Bm : Nat → Nat → Nat → Int32} {bk : Nat → Nat → Int32} (hn : n ≤ 4) : KX3_entryOf l D ca ad [.ref 0, .int 5, .int 0, .int 2] (MW (Int32.ofNat n) (Int32.ofNat vs) wo un h bo ta tr ro ot Bm bk) (some (.int (ceM n (Bm 5) 2 0))) (MW (Int32.ofNat n) (Int32.ofNat vs) wo un h bo ta tr ro ot Bm bk) := by
  refine PX3_entryOf (Nat.le_of_ble_eq_true rfl) ?_
  intro G hT hC hR
  refine mB hT 28 rfl ?_
  refine mIf (fun h1 => ?_) (fun h1 => ?_)
  · refine mNf (lv2 := [(5, .int 0), (4, .int (Bm 5 2 4)), (0, .ref 0), (1, .int 5), (2, .int 0), (3, .int 2)]) (st2 := []) rfl rfl ?_
    refine mB hT 16 rfl ?_
    exact hR _ (by decide) _ _ _ (congrArg (fun z => [Value.int z]) (if_pos h1).symm) rfl
  · refine mNf (lv2 := [(5, .int 0), (4, .int (Bm 5 2 4)), (0, .ref 0), (1, .int 5), (2, .int 0), (3, .int 2)]) (st2 := []) rfl rfl ?_
    refine mB hT 4 rfl ?_
    refine hC.1 _ 0 [_, _] _ _ _ _ _ (m_all_5_2 hn) rfl rfl (Nat.le_of_ble_eq_true rfl) rfl ?_
    refine mB hT 5 rfl ?_
    refine hC.2 _ 0 [_, _] _ _ _ _ _ (m_main_5_2) rfl rfl (Nat.le_of_ble_eq_true rfl) rfl ?_
    refine mB hT 2 rfl ?_
    exact hR _ (by decide) _ _ _ (congrArg (fun z => [Value.int z]) (if_neg h1).symm) rfl
set_option maxRecDepth 20000 in
theorem m_entryOf_5_0_3 {n vs : Nat} {wo un h : Int64} {bo : Nat → Int32} {ta tr ro ot : Nat → Int64} {Bm : Nat → Nat → Nat → Int32} {bk : Nat → Nat → Int32} (hn : n ≤ 4) : KX3_entryOf l D ca ad [.ref 0, .int 5, .int 0, .int 3] (MW (Int32.ofNat n) (Int32.ofNat vs) wo un h bo ta tr ro ot Bm bk) (some (.int (ceM n (Bm 5) 3 0))) (MW (Int32.ofNat n) (Int32.ofNat vs) wo un h bo ta tr ro ot Bm bk) := by
  refine PX3_entryOf (Nat.le_of_ble_eq_true rfl) ?_
  intro G hT hC hR
  refine mB hT 28 rfl ?_
  refine mIf (fun h1 => ?_) (fun h1 => ?_)
  · refine mNf (lv2 := [(5, .int 0), (4, .int (Bm 5 3 4)), (0, .ref 0), (1, .int 5), (2, .int 0), (3, .int 3)]) (st2 := []) rfl rfl ?_
    refine mB hT 16 rfl ?_
    exact hR _ (by decide) _ _ _ (congrArg (fun z => [Value.int z]) (if_pos h1).symm) rfl
  · refine mNf (lv2 := [(5, .int 0), (4, .int (Bm 5 3 4)), (0, .ref 0), (1, .int 5), (2, .int 0), (3, .int 3)]) (st2 := []) rfl rfl ?_
    refine mB hT 4 rfl ?_
    refine hC.1 _ 0 [_, _] _ _ _ _ _ (m_all_5_3 hn) rfl rfl (Nat.le_of_ble_eq_true rfl) rfl ?_
    refine mB hT 5 rfl ?_
    refine hC.2 _ 0 [_, _] _ _ _ _ _ (m_main_5_3) rfl rfl (Nat.le_of_ble_eq_true rfl) rfl ?_
    refine mB hT 2 rfl ?_
    exact hR _ (by decide) _ _ _ (congrArg (fun z => [Value.int z]) (if_neg h1).symm) rfl
set_option maxRecDepth 20000 in
theorem m_entryOf_5_1_0 {n vs : Nat} {wo un h : Int64} {bo : Nat → Int32} {ta tr ro ot : Nat → Int64} {Bm : Nat → Nat → Nat → Int32} {bk : Nat → Nat → Int32} (hn : n ≤ 4) : KX3_entryOf l D ca ad [.ref 0, .int 5, .int 1, .int 0] (MW (Int32.ofNat n) (Int32.ofNat vs) wo un h bo ta tr ro ot Bm bk) (some (.int (ceM n (Bm 5) 0 1))) (MW (Int32.ofNat n) (Int32.ofNat vs) wo un h bo ta tr ro ot Bm bk) := by
  refine PX3_entryOf (Nat.le_of_ble_eq_true rfl) ?_
  intro G hT hC hR
  refine mB hT 28 rfl ?_
  refine mIf (fun h1 => ?_) (fun h1 => ?_)
  · refine mNf (lv2 := [(5, .int 0), (4, .int (Bm 5 0 5)), (0, .ref 0), (1, .int 5), (2, .int 1), (3, .int 0)]) (st2 := []) rfl rfl ?_
    refine mB hT 16 rfl ?_
    exact hR _ (by decide) _ _ _ (congrArg (fun z => [Value.int z]) (if_pos h1).symm) rfl
  · refine mNf (lv2 := [(5, .int 0), (4, .int (Bm 5 0 5)), (0, .ref 0), (1, .int 5), (2, .int 1), (3, .int 0)]) (st2 := []) rfl rfl ?_
    refine mB hT 4 rfl ?_
    refine hC.1 _ 0 [_, _] _ _ _ _ _ (m_all_5_0 hn) rfl rfl (Nat.le_of_ble_eq_true rfl) rfl ?_
    refine mB hT 5 rfl ?_
    refine hC.2 _ 0 [_, _] _ _ _ _ _ (m_main_5_0) rfl rfl (Nat.le_of_ble_eq_true rfl) rfl ?_
    refine mB hT 2 rfl ?_
    exact hR _ (by decide) _ _ _ (congrArg (fun z => [Value.int z]) (if_neg h1).symm) rfl
set_option maxRecDepth 20000 in
theorem m_entryOf_5_1_1 {n vs : Nat} {wo un h : Int64} {bo : Nat → Int32} {ta tr ro ot : Nat → Int64} {Bm : Nat → Nat → Nat → Int32} {bk : Nat → Nat → Int32} (hn : n ≤ 4) : KX3_entryOf l D ca ad [.ref 0, .int 5, .int 1, .int 1] (MW (Int32.ofNat n) (Int32.ofNat vs) wo un h bo ta tr ro ot Bm bk) (some (.int (ceM n (Bm 5) 1 1))) (MW (Int32.ofNat n) (Int32.ofNat vs) wo un h bo ta tr ro ot Bm bk) := by
  refine PX3_entryOf (Nat.le_of_ble_eq_true rfl) ?_
  intro G hT hC hR
  refine mB hT 36 rfl ?_
  refine mIf (fun h1 => ?_) (fun h1 => ?_)
  · refine mNf (lv2 := [(5, .int (Bm 5 1 0)), (4, .int (Bm 5 1 5)), (0, .ref 0), (1, .int 5), (2, .int 1), (3, .int 1)]) (st2 := []) rfl rfl ?_
    refine mB hT 16 rfl ?_
    exact hR _ (by decide) _ _ _ (congrArg (fun z => [Value.int z]) (if_pos h1).symm) rfl
  · refine mNf (lv2 := [(5, .int (Bm 5 1 0)), (4, .int (Bm 5 1 5)), (0, .ref 0), (1, .int 5), (2, .int 1), (3, .int 1)]) (st2 := []) rfl rfl ?_
    refine mB hT 4 rfl ?_
    refine hC.1 _ 0 [_, _] _ _ _ _ _ (m_all_5_1 hn) rfl rfl (Nat.le_of_ble_eq_true rfl) rfl ?_
    refine mB hT 5 rfl ?_
    refine hC.2 _ 0 [_, _] _ _ _ _ _ (m_main_5_1) rfl rfl (Nat.le_of_ble_eq_true rfl) rfl ?_
    refine mB hT 2 rfl ?_
    exact hR _ (by decide) _ _ _ (congrArg (fun z => [Value.int z]) (if_neg h1).symm) rfl
set_option maxRecDepth 20000 in
theorem m_entryOf_5_1_2 {n vs : Nat} {wo un h : Int64} {bo : Nat → Int32} {ta tr ro ot : Nat → Int64} {Bm : Nat → Nat → Nat → Int32} {bk : Nat → Nat → Int32} (hn : n ≤ 4) : KX3_entryOf l D ca ad [.ref 0, .int 5, .int 1, .int 2] (MW (Int32.ofNat n) (Int32.ofNat vs) wo un h bo ta tr ro ot Bm bk) (some (.int (ceM n (Bm 5) 2 1))) (MW (Int32.ofNat n) (Int32.ofNat vs) wo un h bo ta tr ro ot Bm bk) := by
  refine PX3_entryOf (Nat.le_of_ble_eq_true rfl) ?_
  intro G hT hC hR
  refine mB hT 28 rfl ?_
  refine mIf (fun h1 => ?_) (fun h1 => ?_)
  · refine mNf (lv2 := [(5, .int 0), (4, .int (Bm 5 2 5)), (0, .ref 0), (1, .int 5), (2, .int 1), (3, .int 2)]) (st2 := []) rfl rfl ?_
    refine mB hT 16 rfl ?_
    exact hR _ (by decide) _ _ _ (congrArg (fun z => [Value.int z]) (if_pos h1).symm) rfl
  · refine mNf (lv2 := [(5, .int 0), (4, .int (Bm 5 2 5)), (0, .ref 0), (1, .int 5), (2, .int 1), (3, .int 2)]) (st2 := []) rfl rfl ?_
    refine mB hT 4 rfl ?_
    refine hC.1 _ 0 [_, _] _ _ _ _ _ (m_all_5_2 hn) rfl rfl (Nat.le_of_ble_eq_true rfl) rfl ?_
    refine mB hT 5 rfl ?_
    refine hC.2 _ 0 [_, _] _ _ _ _ _ (m_main_5_2) rfl rfl (Nat.le_of_ble_eq_true rfl) rfl ?_
    refine mB hT 2 rfl ?_
    exact hR _ (by decide) _ _ _ (congrArg (fun z => [Value.int z]) (if_neg h1).symm) rfl
set_option maxRecDepth 20000 in
theorem m_entryOf_5_1_3 {n vs : Nat} {wo un h : Int64} {bo : Nat → Int32} {ta tr ro ot : Nat → Int64} {Bm : Nat → Nat → Nat → Int32} {bk : Nat → Nat → Int32} (hn : n ≤ 4) : KX3_entryOf l D ca ad [.ref 0, .int 5, .int 1, .int 3] (MW (Int32.ofNat n) (Int32.ofNat vs) wo un h bo ta tr ro ot Bm bk) (some (.int (ceM n (Bm 5) 3 1))) (MW (Int32.ofNat n) (Int32.ofNat vs) wo un h bo ta tr ro ot Bm bk) := by
  refine PX3_entryOf (Nat.le_of_ble_eq_true rfl) ?_
  intro G hT hC hR
  refine mB hT 28 rfl ?_
  refine mIf (fun h1 => ?_) (fun h1 => ?_)
  · refine mNf (lv2 := [(5, .int 0), (4, .int (Bm 5 3 5)), (0, .ref 0), (1, .int 5), (2, .int 1), (3, .int 3)]) (st2 := []) rfl rfl ?_
    refine mB hT 16 rfl ?_
    exact hR _ (by decide) _ _ _ (congrArg (fun z => [Value.int z]) (if_pos h1).symm) rfl
  · refine mNf (lv2 := [(5, .int 0), (4, .int (Bm 5 3 5)), (0, .ref 0), (1, .int 5), (2, .int 1), (3, .int 3)]) (st2 := []) rfl rfl ?_
    refine mB hT 4 rfl ?_
    refine hC.1 _ 0 [_, _] _ _ _ _ _ (m_all_5_3 hn) rfl rfl (Nat.le_of_ble_eq_true rfl) rfl ?_
    refine mB hT 5 rfl ?_
    refine hC.2 _ 0 [_, _] _ _ _ _ _ (m_main_5_3) rfl rfl (Nat.le_of_ble_eq_true rfl) rfl ?_
    refine mB hT 2 rfl ?_
    exact hR _ (by decide) _ _ _ (congrArg (fun z => [Value.int z]) (if_neg h1).symm) rfl
set_option maxRecDepth 20000 in
theorem m_entryOf_5_2_0 {n vs : Nat} {wo un h : Int64} {bo : Nat → Int32} {ta tr ro ot : Nat → Int64} {Bm : Nat → Nat → Nat → Int32} {bk : Nat → Nat → Int32} (hn : n ≤ 4) : KX3_entryOf l D ca ad [.ref 0, .int 5, .int 2, .int 0] (MW (Int32.ofNat n) (Int32.ofNat vs) wo un h bo ta tr ro ot Bm bk) (some (.int (ceM n (Bm 5) 0 2))) (MW (Int32.ofNat n) (Int32.ofNat vs) wo un h bo ta tr ro ot Bm bk) := by
  refine PX3_entryOf (Nat.le_of_ble_eq_true rfl) ?_
  intro G hT hC hR
  refine mB hT 28 rfl ?_
  refine mIf (fun h1 => ?_) (fun h1 => ?_)
  · refine mNf (lv2 := [(5, .int 0), (4, .int (Bm 5 0 6)), (0, .ref 0), (1, .int 5), (2, .int 2), (3, .int 0)]) (st2 := []) rfl rfl ?_
    refine mB hT 16 rfl ?_
    exact hR _ (by decide) _ _ _ (congrArg (fun z => [Value.int z]) (if_pos h1).symm) rfl
  · refine mNf (lv2 := [(5, .int 0), (4, .int (Bm 5 0 6)), (0, .ref 0), (1, .int 5), (2, .int 2), (3, .int 0)]) (st2 := []) rfl rfl ?_
    refine mB hT 4 rfl ?_
    refine hC.1 _ 0 [_, _] _ _ _ _ _ (m_all_5_0 hn) rfl rfl (Nat.le_of_ble_eq_true rfl) rfl ?_
    refine mB hT 5 rfl ?_
    refine hC.2 _ 0 [_, _] _ _ _ _ _ (m_main_5_0) rfl rfl (Nat.le_of_ble_eq_true rfl) rfl ?_
    refine mB hT 2 rfl ?_
    exact hR _ (by decide) _ _ _ (congrArg (fun z => [Value.int z]) (if_neg h1).symm) rfl
set_option maxRecDepth 20000 in
theorem m_entryOf_5_2_1 {n vs : Nat} {wo un h : Int64} {bo : Nat → Int32} {ta tr ro ot : Nat → Int64} {Bm : Nat → Nat → Nat → Int32} {bk : Nat → Nat → Int32} (hn : n ≤ 4) : KX3_entryOf l D ca ad [.ref 0, .int 5, .int 2, .int 1] (MW (Int32.ofNat n) (Int32.ofNat vs) wo un h bo ta tr ro ot Bm bk) (some (.int (ceM n (Bm 5) 1 2))) (MW (Int32.ofNat n) (Int32.ofNat vs) wo un h bo ta tr ro ot Bm bk) := by
  refine PX3_entryOf (Nat.le_of_ble_eq_true rfl) ?_
  intro G hT hC hR
  refine mB hT 28 rfl ?_
  refine mIf (fun h1 => ?_) (fun h1 => ?_)
  · refine mNf (lv2 := [(5, .int 0), (4, .int (Bm 5 1 6)), (0, .ref 0), (1, .int 5), (2, .int 2), (3, .int 1)]) (st2 := []) rfl rfl ?_
    refine mB hT 16 rfl ?_
    exact hR _ (by decide) _ _ _ (congrArg (fun z => [Value.int z]) (if_pos h1).symm) rfl
  · refine mNf (lv2 := [(5, .int 0), (4, .int (Bm 5 1 6)), (0, .ref 0), (1, .int 5), (2, .int 2), (3, .int 1)]) (st2 := []) rfl rfl ?_
    refine mB hT 4 rfl ?_
    refine hC.1 _ 0 [_, _] _ _ _ _ _ (m_all_5_1 hn) rfl rfl (Nat.le_of_ble_eq_true rfl) rfl ?_
    refine mB hT 5 rfl ?_
    refine hC.2 _ 0 [_, _] _ _ _ _ _ (m_main_5_1) rfl rfl (Nat.le_of_ble_eq_true rfl) rfl ?_
    refine mB hT 2 rfl ?_
    exact hR _ (by decide) _ _ _ (congrArg (fun z => [Value.int z]) (if_neg h1).symm) rfl
set_option maxRecDepth 20000 in
theorem m_entryOf_5_2_2 {n vs : Nat} {wo un h : Int64} {bo : Nat → Int32} {ta tr ro ot : Nat → Int64} {Bm : Nat → Nat → Nat → Int32} {bk : Nat → Nat → Int32} (hn : n ≤ 4) : KX3_entryOf l D ca ad [.ref 0, .int 5, .int 2, .int 2] (MW (Int32.ofNat n) (Int32.ofNat vs) wo un h bo ta tr ro ot Bm bk) (some (.int (ceM n (Bm 5) 2 2))) (MW (Int32.ofNat n) (Int32.ofNat vs) wo un h bo ta tr ro ot Bm bk) := by
  refine PX3_entryOf (Nat.le_of_ble_eq_true rfl) ?_
  intro G hT hC hR
  refine mB hT 36 rfl ?_
  refine mIf (fun h1 => ?_) (fun h1 => ?_)
  · refine mNf (lv2 := [(5, .int (Bm 5 2 0)), (4, .int (Bm 5 2 6)), (0, .ref 0), (1, .int 5), (2, .int 2), (3, .int 2)]) (st2 := []) rfl rfl ?_
    refine mB hT 16 rfl ?_
    exact hR _ (by decide) _ _ _ (congrArg (fun z => [Value.int z]) (if_pos h1).symm) rfl
  · refine mNf (lv2 := [(5, .int (Bm 5 2 0)), (4, .int (Bm 5 2 6)), (0, .ref 0), (1, .int 5), (2, .int 2), (3, .int 2)]) (st2 := []) rfl rfl ?_
    refine mB hT 4 rfl ?_
    refine hC.1 _ 0 [_, _] _ _ _ _ _ (m_all_5_2 hn) rfl rfl (Nat.le_of_ble_eq_true rfl) rfl ?_
    refine mB hT 5 rfl ?_
    refine hC.2 _ 0 [_, _] _ _ _ _ _ (m_main_5_2) rfl rfl (Nat.le_of_ble_eq_true rfl) rfl ?_
    refine mB hT 2 rfl ?_
    exact hR _ (by decide) _ _ _ (congrArg (fun z => [Value.int z]) (if_neg h1).symm) rfl
set_option maxRecDepth 20000 in
theorem m_entryOf_5_2_3 {n vs : Nat} {wo un h : Int64} {bo : Nat → Int32} {ta tr ro ot : Nat → Int64} {Bm : Nat → Nat → Nat → Int32} {bk : Nat → Nat → Int32} (hn : n ≤ 4) : KX3_entryOf l D ca ad [.ref 0, .int 5, .int 2, .int 3] (MW (Int32.ofNat n) (Int32.ofNat vs) wo un h bo ta tr ro ot Bm bk) (some (.int (ceM n (Bm 5) 3 2))) (MW (Int32.ofNat n) (Int32.ofNat vs) wo un h bo ta tr ro ot Bm bk) := by
  refine PX3_entryOf (Nat.le_of_ble_eq_true rfl) ?_
  intro G hT hC hR
  refine mB hT 28 rfl ?_
  refine mIf (fun h1 => ?_) (fun h1 => ?_)
  · refine mNf (lv2 := [(5, .int 0), (4, .int (Bm 5 3 6)), (0, .ref 0), (1, .int 5), (2, .int 2), (3, .int 3)]) (st2 := []) rfl rfl ?_
    refine mB hT 16 rfl ?_
    exact hR _ (by decide) _ _ _ (congrArg (fun z => [Value.int z]) (if_pos h1).symm) rfl
  · refine mNf (lv2 := [(5, .int 0), (4, .int (Bm 5 3 6)), (0, .ref 0), (1, .int 5), (2, .int 2), (3, .int 3)]) (st2 := []) rfl rfl ?_
    refine mB hT 4 rfl ?_
    refine hC.1 _ 0 [_, _] _ _ _ _ _ (m_all_5_3 hn) rfl rfl (Nat.le_of_ble_eq_true rfl) rfl ?_
    refine mB hT 5 rfl ?_
    refine hC.2 _ 0 [_, _] _ _ _ _ _ (m_main_5_3) rfl rfl (Nat.le_of_ble_eq_true rfl) rfl ?_
    refine mB hT 2 rfl ?_
    exact hR _ (by decide) _ _ _ (congrArg (fun z => [Value.int z]) (if_neg h1).symm) rfl
set_option maxRecDepth 20000 in
theorem m_entryOf_5_3_0 {n vs : Nat} {wo un h : Int64} {bo : Nat → Int32} {ta tr ro ot : Nat → Int64} {Bm : Nat → Nat → Nat → Int32} {bk : Nat → Nat → Int32} (hn : n ≤ 4) : KX3_entryOf l D ca ad [.ref 0, .int 5, .int 3, .int 0] (MW (Int32.ofNat n) (Int32.ofNat vs) wo un h bo ta tr ro ot Bm bk) (some (.int (ceM n (Bm 5) 0 3))) (MW (Int32.ofNat n) (Int32.ofNat vs) wo un h bo ta tr ro ot Bm bk) := by
  refine PX3_entryOf (Nat.le_of_ble_eq_true rfl) ?_
  intro G hT hC hR
  refine mB hT 28 rfl ?_
  refine mIf (fun h1 => ?_) (fun h1 => ?_)
  · refine mNf (lv2 := [(5, .int 0), (4, .int (Bm 5 0 7)), (0, .ref 0), (1, .int 5), (2, .int 3), (3, .int 0)]) (st2 := []) rfl rfl ?_
    refine mB hT 16 rfl ?_
    exact hR _ (by decide) _ _ _ (congrArg (fun z => [Value.int z]) (if_pos h1).symm) rfl
  · refine mNf (lv2 := [(5, .int 0), (4, .int (Bm 5 0 7)), (0, .ref 0), (1, .int 5), (2, .int 3), (3, .int 0)]) (st2 := []) rfl rfl ?_
    refine mB hT 4 rfl ?_
    refine hC.1 _ 0 [_, _] _ _ _ _ _ (m_all_5_0 hn) rfl rfl (Nat.le_of_ble_eq_true rfl) rfl ?_
    refine mB hT 5 rfl ?_
    refine hC.2 _ 0 [_, _] _ _ _ _ _ (m_main_5_0) rfl rfl (Nat.le_of_ble_eq_true rfl) rfl ?_
    refine mB hT 2 rfl ?_
    exact hR _ (by decide) _ _ _ (congrArg (fun z => [Value.int z]) (if_neg h1).symm) rfl
set_option maxRecDepth 20000 in
theorem m_entryOf_5_3_1 {n vs : Nat} {wo un h : Int64} {bo : Nat → Int32} {ta tr ro ot : Nat → Int64} {Bm : Nat → Nat → Nat → Int32} {bk : Nat → Nat → Int32} (hn : n ≤ 4) : KX3_entryOf l D ca ad [.ref 0, .int 5, .int 3, .int 1] (MW (Int32.ofNat n) (Int32.ofNat vs) wo un h bo ta tr ro ot Bm bk) (some (.int (ceM n (Bm 5) 1 3))) (MW (Int32.ofNat n) (Int32.ofNat vs) wo un h bo ta tr ro ot Bm bk) := by
  refine PX3_entryOf (Nat.le_of_ble_eq_true rfl) ?_
  intro G hT hC hR
  refine mB hT 28 rfl ?_
  refine mIf (fun h1 => ?_) (fun h1 => ?_)
  · refine mNf (lv2 := [(5, .int 0), (4, .int (Bm 5 1 7)), (0, .ref 0), (1, .int 5), (2, .int 3), (3, .int 1)]) (st2 := []) rfl rfl ?_
    refine mB hT 16 rfl ?_
    exact hR _ (by decide) _ _ _ (congrArg (fun z => [Value.int z]) (if_pos h1).symm) rfl
  · refine mNf (lv2 := [(5, .int 0), (4, .int (Bm 5 1 7)), (0, .ref 0), (1, .int 5), (2, .int 3), (3, .int 1)]) (st2 := []) rfl rfl ?_
    refine mB hT 4 rfl ?_
    refine hC.1 _ 0 [_, _] _ _ _ _ _ (m_all_5_1 hn) rfl rfl (Nat.le_of_ble_eq_true rfl) rfl ?_
    refine mB hT 5 rfl ?_
    refine hC.2 _ 0 [_, _] _ _ _ _ _ (m_main_5_1) rfl rfl (Nat.le_of_ble_eq_true rfl) rfl ?_
    refine mB hT 2 rfl ?_
    exact hR _ (by decide) _ _ _ (congrArg (fun z => [Value.int z]) (if_neg h1).symm) rfl
set_option maxRecDepth 20000 in
theorem m_entryOf_5_3_2 {n vs : Nat} {wo un h : Int64} {bo : Nat → Int32} {ta tr ro ot : Nat → Int64} {Bm : Nat → Nat → Nat → Int32} {bk : Nat → Nat → Int32} (hn : n ≤ 4) : KX3_entryOf l D ca ad [.ref 0, .int 5, .int 3, .int 2] (MW (Int32.ofNat n) (Int32.ofNat vs) wo un h bo ta tr ro ot Bm bk) (some (.int (ceM n (Bm 5) 2 3))) (MW (Int32.ofNat n) (Int32.ofNat vs) wo un h bo ta tr ro ot Bm bk) := by
  refine PX3_entryOf (Nat.le_of_ble_eq_true rfl) ?_
  intro G hT hC hR
  refine mB hT 28 rfl ?_
  refine mIf (fun h1 => ?_) (fun h1 => ?_)
  · refine mNf (lv2 := [(5, .int 0), (4, .int (Bm 5 2 7)), (0, .ref 0), (1, .int 5), (2, .int 3), (3, .int 2)]) (st2 := []) rfl rfl ?_
    refine mB hT 16 rfl ?_
    exact hR _ (by decide) _ _ _ (congrArg (fun z => [Value.int z]) (if_pos h1).symm) rfl
  · refine mNf (lv2 := [(5, .int 0), (4, .int (Bm 5 2 7)), (0, .ref 0), (1, .int 5), (2, .int 3), (3, .int 2)]) (st2 := []) rfl rfl ?_
    refine mB hT 4 rfl ?_
    refine hC.1 _ 0 [_, _] _ _ _ _ _ (m_all_5_2 hn) rfl rfl (Nat.le_of_ble_eq_true rfl) rfl ?_
    refine mB hT 5 rfl ?_
    refine hC.2 _ 0 [_, _] _ _ _ _ _ (m_main_5_2) rfl rfl (Nat.le_of_ble_eq_true rfl) rfl ?_
    refine mB hT 2 rfl ?_
    exact hR _ (by decide) _ _ _ (congrArg (fun z => [Value.int z]) (if_neg h1).symm) rfl
set_option maxRecDepth 20000 in
theorem m_entryOf_5_3_3 {n vs : Nat} {wo un h : Int64} {bo : Nat → Int32} {ta tr ro ot : Nat → Int64} {Bm : Nat → Nat → Nat → Int32} {bk : Nat → Nat → Int32} (hn : n ≤ 4) : KX3_entryOf l D ca ad [.ref 0, .int 5, .int 3, .int 3] (MW (Int32.ofNat n) (Int32.ofNat vs) wo un h bo ta tr ro ot Bm bk) (some (.int (ceM n (Bm 5) 3 3))) (MW (Int32.ofNat n) (Int32.ofNat vs) wo un h bo ta tr ro ot Bm bk) := by
  refine PX3_entryOf (Nat.le_of_ble_eq_true rfl) ?_
  intro G hT hC hR
  refine mB hT 36 rfl ?_
  refine mIf (fun h1 => ?_) (fun h1 => ?_)
  · refine mNf (lv2 := [(5, .int (Bm 5 3 0)), (4, .int (Bm 5 3 7)), (0, .ref 0), (1, .int 5), (2, .int 3), (3, .int 3)]) (st2 := []) rfl rfl ?_
    refine mB hT 16 rfl ?_
    exact hR _ (by decide) _ _ _ (congrArg (fun z => [Value.int z]) (if_pos h1).symm) rfl
  · refine mNf (lv2 := [(5, .int (Bm 5 3 0)), (4, .int (Bm 5 3 7)), (0, .ref 0), (1, .int 5), (2, .int 3), (3, .int 3)]) (st2 := []) rfl rfl ?_
    refine mB hT 4 rfl ?_
    refine hC.1 _ 0 [_, _] _ _ _ _ _ (m_all_5_3 hn) rfl rfl (Nat.le_of_ble_eq_true rfl) rfl ?_
    refine mB hT 5 rfl ?_
    refine hC.2 _ 0 [_, _] _ _ _ _ _ (m_main_5_3) rfl rfl (Nat.le_of_ble_eq_true rfl) rfl ?_
    refine mB hT 2 rfl ?_
    exact hR _ (by decide) _ _ _ (congrArg (fun z => [Value.int z]) (if_neg h1).symm) rfl
set_option maxRecDepth 20000 in
theorem m_entryOf_6_0_0 {n vs : Nat} {wo un h : Int64} {bo : Nat → Int32} {ta tr ro ot : Nat → Int64} {Bm : Nat → Nat → Nat → Int32} {bk : Nat → Nat → Int32} (hn : n ≤ 4) : KX3_entryOf l D ca ad [.ref 0, .int 6, .int 0, .int 0] (MW (Int32.ofNat n) (Int32.ofNat vs) wo un h bo ta tr ro ot Bm bk) (some (.int (ceM n (Bm 6) 0 0))) (MW (Int32.ofNat n) (Int32.ofNat vs) wo un h bo ta tr ro ot Bm bk) := by
  refine PX3_entryOf (Nat.le_of_ble_eq_true rfl) ?_
  intro G hT hC hR
  refine mB hT 36 rfl ?_
  refine mIf (fun h1 => ?_) (fun h1 => ?_)
  · refine mNf (lv2 := [(5, .int (Bm 6 0 0)), (4, .int (Bm 6 0 4)), (0, .ref 0), (1, .int 6), (2, .int 0), (3, .int 0)]) (st2 := []) rfl rfl ?_
    refine mB hT 16 rfl ?_
    exact hR _ (by decide) _ _ _ (congrArg (fun z => [Value.int z]) (if_pos h1).symm) rfl
  · refine mNf (lv2 := [(5, .int (Bm 6 0 0)), (4, .int (Bm 6 0 4)), (0, .ref 0), (1, .int 6), (2, .int 0), (3, .int 0)]) (st2 := []) rfl rfl ?_
    refine mB hT 4 rfl ?_
    refine hC.1 _ 0 [_, _] _ _ _ _ _ (m_all_6_0 hn) rfl rfl (Nat.le_of_ble_eq_true rfl) rfl ?_
    refine mB hT 5 rfl ?_
    refine hC.2 _ 0 [_, _] _ _ _ _ _ (m_main_6_0) rfl rfl (Nat.le_of_ble_eq_true rfl) rfl ?_
    refine mB hT 2 rfl ?_
    exact hR _ (by decide) _ _ _ (congrArg (fun z => [Value.int z]) (if_neg h1).symm) rfl
set_option maxRecDepth 20000 in
theorem m_entryOf_6_0_1 {n vs : Nat} {wo un h : Int64} {bo : Nat → Int32} {ta tr ro ot : Nat → Int64} {Bm : Nat → Nat → Nat → Int32} {bk : Nat → Nat → Int32} (hn : n ≤ 4) : KX3_entryOf l D ca ad [.ref 0, .int 6, .int 0, .int 1] (MW (Int32.ofNat n) (Int32.ofNat vs) wo un h bo ta tr ro ot Bm bk) (some (.int (ceM n (Bm 6) 1 0))) (MW (Int32.ofNat n) (Int32.ofNat vs) wo un h bo ta tr ro ot Bm bk) := by
  refine PX3_entryOf (Nat.le_of_ble_eq_true rfl) ?_
  intro G hT hC hR
  refine mB hT 28 rfl ?_
  refine mIf (fun h1 => ?_) (fun h1 => ?_)
  · refine mNf (lv2 := [(5, .int 0), (4, .int (Bm 6 1 4)), (0, .ref 0), (1, .int 6), (2, .int 0), (3, .int 1)]) (st2 := []) rfl rfl ?_
    refine mB hT 16 rfl ?_
    exact hR _ (by decide) _ _ _ (congrArg (fun z => [Value.int z]) (if_pos h1).symm) rfl
  · refine mNf (lv2 := [(5, .int 0), (4, .int (Bm 6 1 4)), (0, .ref 0), (1, .int 6), (2, .int 0), (3, .int 1)]) (st2 := []) rfl rfl ?_
    refine mB hT 4 rfl ?_
    refine hC.1 _ 0 [_, _] _ _ _ _ _ (m_all_6_1 hn) rfl rfl (Nat.le_of_ble_eq_true rfl) rfl ?_
    refine mB hT 5 rfl ?_
    refine hC.2 _ 0 [_, _] _ _ _ _ _ (m_main_6_1) rfl rfl (Nat.le_of_ble_eq_true rfl) rfl ?_
    refine mB hT 2 rfl ?_
    exact hR _ (by decide) _ _ _ (congrArg (fun z => [Value.int z]) (if_neg h1).symm) rfl
set_option maxRecDepth 20000 in
theorem m_entryOf_6_0_2 {n vs : Nat} {wo un h : Int64} {bo : Nat → Int32} {ta tr ro ot : Nat → Int64} {Bm : Nat → Nat → Nat → Int32} {bk : Nat → Nat → Int32} (hn : n ≤ 4) : KX3_entryOf l D ca ad [.ref 0, .int 6, .int 0, .int 2] (MW (Int32.ofNat n) (Int32.ofNat vs) wo un h bo ta tr ro ot Bm bk) (some (.int (ceM n (Bm 6) 2 0))) (MW (Int32.ofNat n) (Int32.ofNat vs) wo un h bo ta tr ro ot Bm bk) := by
  refine PX3_entryOf (Nat.le_of_ble_eq_true rfl) ?_
  intro G hT hC hR
  refine mB hT 28 rfl ?_
  refine mIf (fun h1 => ?_) (fun h1 => ?_)
  · refine mNf (lv2 := [(5, .int 0), (4, .int (Bm 6 2 4)), (0, .ref 0), (1, .int 6), (2, .int 0), (3, .int 2)]) (st2 := []) rfl rfl ?_
    refine mB hT 16 rfl ?_
    exact hR _ (by decide) _ _ _ (congrArg (fun z => [Value.int z]) (if_pos h1).symm) rfl
  · refine mNf (lv2 := [(5, .int 0), (4, .int (Bm 6 2 4)), (0, .ref 0), (1, .int 6), (2, .int 0), (3, .int 2)]) (st2 := []) rfl rfl ?_
    refine mB hT 4 rfl ?_
    refine hC.1 _ 0 [_, _] _ _ _ _ _ (m_all_6_2 hn) rfl rfl (Nat.le_of_ble_eq_true rfl) rfl ?_
    refine mB hT 5 rfl ?_
    refine hC.2 _ 0 [_, _] _ _ _ _ _ (m_main_6_2) rfl rfl (Nat.le_of_ble_eq_true rfl) rfl ?_
    refine mB hT 2 rfl ?_
    exact hR _ (by decide) _ _ _ (congrArg (fun z => [Value.int z]) (if_neg h1).symm) rfl
set_option maxRecDepth 20000 in
theorem m_entryOf_6_0_3 {n vs : Nat} {wo un h : Int64} {bo : Nat → Int32} {ta tr ro ot : Nat → Int64} {Bm : Nat → Nat → Nat → Int32} {bk : Nat → Nat → Int32} (hn : n ≤ 4) : KX3_entryOf l D ca ad [.ref 0, .int 6, .int 0, .int 3] (MW (Int32.ofNat n) (Int32.ofNat vs) wo un h bo ta tr ro ot Bm bk) (some (.int (ceM n (Bm 6) 3 0))) (MW (Int32.ofNat n) (Int32.ofNat vs) wo un h bo ta tr ro ot Bm bk) := by
  refine PX3_entryOf (Nat.le_of_ble_eq_true rfl) ?_
  intro G hT hC hR
  refine mB hT 28 rfl ?_
  refine mIf (fun h1 => ?_) (fun h1 => ?_)
  · refine mNf (lv2 := [(5, .int 0), (4, .int (Bm 6 3 4)), (0, .ref 0), (1, .int 6), (2, .int 0), (3, .int 3)]) (st2 := []) rfl rfl ?_
    refine mB hT 16 rfl ?_
    exact hR _ (by decide) _ _ _ (congrArg (fun z => [Value.int z]) (if_pos h1).symm) rfl
  · refine mNf (lv2 := [(5, .int 0), (4, .int (Bm 6 3 4)), (0, .ref 0), (1, .int 6), (2, .int 0), (3, .int 3)]) (st2 := []) rfl rfl ?_
    refine mB hT 4 rfl ?_
    refine hC.1 _ 0 [_, _] _ _ _ _ _ (m_all_6_3 hn) rfl rfl (Nat.le_of_ble_eq_true rfl) rfl ?_
    refine mB hT 5 rfl ?_
    refine hC.2 _ 0 [_, _] _ _ _ _ _ (m_main_6_3) rfl rfl (Nat.le_of_ble_eq_true rfl) rfl ?_
    refine mB hT 2 rfl ?_
    exact hR _ (by decide) _ _ _ (congrArg (fun z => [Value.int z]) (if_neg h1).symm) rfl
set_option maxRecDepth 20000 in
theorem m_entryOf_6_1_0 {n vs : Nat} {wo un h : Int64} {bo : Nat → Int32} {ta tr ro ot : Nat → Int64} {Bm : Nat → Nat → Nat → Int32} {bk : Nat → Nat → Int32} (hn : n ≤ 4) : KX3_entryOf l D ca ad [.ref 0, .int 6, .int 1, .int 0] (MW (Int32.ofNat n) (Int32.ofNat vs) wo un h bo ta tr ro ot Bm bk) (some (.int (ceM n (Bm 6) 0 1))) (MW (Int32.ofNat n) (Int32.ofNat vs) wo un h bo ta tr ro ot Bm bk) := by
  refine PX3_entryOf (Nat.le_of_ble_eq_true rfl) ?_
  intro G hT hC hR
  refine mB hT 28 rfl ?_
  refine mIf (fun h1 => ?_) (fun h1 => ?_)
  · refine mNf (lv2 := [(5, .int 0), (4, .int (Bm 6 0 5)), (0, .ref 0), (1, .int 6), (2, .int 1), (3, .int 0)]) (st2 := []) rfl rfl ?_
    refine mB hT 16 rfl ?_
    exact hR _ (by decide) _ _ _ (congrArg (fun z => [Value.int z]) (if_pos h1).symm) rfl
  · refine mNf (lv2 := [(5, .int 0), (4, .int (Bm 6 0 5)), (0, .ref 0), (1, .int 6), (2, .int 1), (3, .int 0)]) (st2 := []) rfl rfl ?_
    refine mB hT 4 rfl ?_
    refine hC.1 _ 0 [_, _] _ _ _ _ _ (m_all_6_0 hn) rfl rfl (Nat.le_of_ble_eq_true rfl) rfl ?_
    refine mB hT 5 rfl ?_
    refine hC.2 _ 0 [_, _] _ _ _ _ _ (m_main_6_0) rfl rfl (Nat.le_of_ble_eq_true rfl) rfl ?_
    refine mB hT 2 rfl ?_
    exact hR _ (by decide) _ _ _ (congrArg (fun z => [Value.int z]) (if_neg h1).symm) rfl
set_option maxRecDepth 20000 in
theorem m_entryOf_6_1_1 {n vs : Nat} {wo un h : Int64} {bo : Nat → Int32} {ta tr ro ot : Nat → Int64} {Bm : Nat → Nat → Nat → Int32} {bk : Nat → Nat → Int32} (hn : n ≤ 4) : KX3_entryOf l D ca ad [.ref 0, .int 6, .int 1, .int 1] (MW (Int32.ofNat n) (Int32.ofNat vs) wo un h bo ta tr ro ot Bm bk) (some (.int (ceM n (Bm 6) 1 1))) (MW (Int32.ofNat n) (Int32.ofNat vs) wo un h bo ta tr ro ot Bm bk) := by
  refine PX3_entryOf (Nat.le_of_ble_eq_true rfl) ?_
  intro G hT hC hR
  refine mB hT 36 rfl ?_
  refine mIf (fun h1 => ?_) (fun h1 => ?_)
  · refine mNf (lv2 := [(5, .int (Bm 6 1 0)), (4, .int (Bm 6 1 5)), (0, .ref 0), (1, .int 6), (2, .int 1), (3, .int 1)]) (st2 := []) rfl rfl ?_
    refine mB hT 16 rfl ?_
    exact hR _ (by decide) _ _ _ (congrArg (fun z => [Value.int z]) (if_pos h1).symm) rfl
  · refine mNf (lv2 := [(5, .int (Bm 6 1 0)), (4, .int (Bm 6 1 5)), (0, .ref 0), (1, .int 6), (2, .int 1), (3, .int 1)]) (st2 := []) rfl rfl ?_
    refine mB hT 4 rfl ?_
    refine hC.1 _ 0 [_, _] _ _ _ _ _ (m_all_6_1 hn) rfl rfl (Nat.le_of_ble_eq_true rfl) rfl ?_
    refine mB hT 5 rfl ?_
    refine hC.2 _ 0 [_, _] _ _ _ _ _ (m_main_6_1) rfl rfl (Nat.le_of_ble_eq_true rfl) rfl ?_
    refine mB hT 2 rfl ?_
    exact hR _ (by decide) _ _ _ (congrArg (fun z => [Value.int z]) (if_neg h1).symm) rfl
set_option maxRecDepth 20000 in
theorem m_entryOf_6_1_2 {n vs : Nat} {wo un h : Int64} {bo : Nat → Int32} {ta tr ro ot : Nat → Int64} {Bm : Nat → Nat → Nat → Int32} {bk : Nat → Nat → Int32} (hn : n ≤ 4) : KX3_entryOf l D ca ad [.ref 0, .int 6, .int 1, .int 2] (MW (Int32.ofNat n) (Int32.ofNat vs) wo un h bo ta tr ro ot Bm bk) (some (.int (ceM n (Bm 6) 2 1))) (MW (Int32.ofNat n) (Int32.ofNat vs) wo un h bo ta tr ro ot Bm bk) := by
  refine PX3_entryOf (Nat.le_of_ble_eq_true rfl) ?_
  intro G hT hC hR
  refine mB hT 28 rfl ?_
  refine mIf (fun h1 => ?_) (fun h1 => ?_)
  · refine mNf (lv2 := [(5, .int 0), (4, .int (Bm 6 2 5)), (0, .ref 0), (1, .int 6), (2, .int 1), (3, .int 2)]) (st2 := []) rfl rfl ?_
    refine mB hT 16 rfl ?_
    exact hR _ (by decide) _ _ _ (congrArg (fun z => [Value.int z]) (if_pos h1).symm) rfl
  · refine mNf (lv2 := [(5, .int 0), (4, .int (Bm 6 2 5)), (0, .ref 0), (1, .int 6), (2, .int 1), (3, .int 2)]) (st2 := []) rfl rfl ?_
    refine mB hT 4 rfl ?_
    refine hC.1 _ 0 [_, _] _ _ _ _ _ (m_all_6_2 hn) rfl rfl (Nat.le_of_ble_eq_true rfl) rfl ?_
    refine mB hT 5 rfl ?_
    refine hC.2 _ 0 [_, _] _ _ _ _ _ (m_main_6_2) rfl rfl (Nat.le_of_ble_eq_true rfl) rfl ?_
    refine mB hT 2 rfl ?_
    exact hR _ (by decide) _ _ _ (congrArg (fun z => [Value.int z]) (if_neg h1).symm) rfl
set_option maxRecDepth 20000 in
theorem m_entryOf_6_1_3 {n vs : Nat} {wo un h : Int64} {bo : Nat → Int32} {ta tr ro ot : Nat → Int64} {Bm : Nat → Nat → Nat → Int32} {bk : Nat → Nat → Int32} (hn : n ≤ 4) : KX3_entryOf l D ca ad [.ref 0, .int 6, .int 1, .int 3] (MW (Int32.ofNat n) (Int32.ofNat vs) wo un h bo ta tr ro ot Bm bk) (some (.int (ceM n (Bm 6) 3 1))) (MW (Int32.ofNat n) (Int32.ofNat vs) wo un h bo ta tr ro ot Bm bk) := by
  refine PX3_entryOf (Nat.le_of_ble_eq_true rfl) ?_
  intro G hT hC hR
  refine mB hT 28 rfl ?_
  refine mIf (fun h1 => ?_) (fun h1 => ?_)
  · refine mNf (lv2 := [(5, .int 0), (4, .int (Bm 6 3 5)), (0, .ref 0), (1, .int 6), (2, .int 1), (3, .int 3)]) (st2 := []) rfl rfl ?_
    refine mB hT 16 rfl ?_
    exact hR _ (by decide) _ _ _ (congrArg (fun z => [Value.int z]) (if_pos h1).symm) rfl
  · refine mNf (lv2 := [(5, .int 0), (4, .int (Bm 6 3 5)), (0, .ref 0), (1, .int 6), (2, .int 1), (3, .int 3)]) (st2 := []) rfl rfl ?_
    refine mB hT 4 rfl ?_
    refine hC.1 _ 0 [_, _] _ _ _ _ _ (m_all_6_3 hn) rfl rfl (Nat.le_of_ble_eq_true rfl) rfl ?_
    refine mB hT 5 rfl ?_
    refine hC.2 _ 0 [_, _] _ _ _ _ _ (m_main_6_3) rfl rfl (Nat.le_of_ble_eq_true rfl) rfl ?_
    refine mB hT 2 rfl ?_
    exact hR _ (by decide) _ _ _ (congrArg (fun z => [Value.int z]) (if_neg h1).symm) rfl
set_option maxRecDepth 20000 in
theorem m_entryOf_6_2_0 {n vs : Nat} {wo un h : Int64} {bo : Nat → Int32} {ta tr ro ot : Nat → Int64} {Bm : Nat → Nat → Nat → Int32} {bk : Nat → Nat → Int32} (hn : n ≤ 4) : KX3_entryOf l D ca ad [.ref 0, .int 6, .int 2, .int 0] (MW (Int32.ofNat n) (Int32.ofNat vs) wo un h bo ta tr ro ot Bm bk) (some (.int (ceM n (Bm 6) 0 2))) (MW (Int32.ofNat n) (Int32.ofNat vs) wo un h bo ta tr ro ot Bm bk) := by
  refine PX3_entryOf (Nat.le_of_ble_eq_true rfl) ?_
  intro G hT hC hR
  refine mB hT 28 rfl ?_
  refine mIf (fun h1 => ?_) (fun h1 => ?_)
  · refine mNf (lv2 := [(5, .int 0), (4, .int (Bm 6 0 6)), (0, .ref 0), (1, .int 6), (2, .int 2), (3, .int 0)]) (st2 := []) rfl rfl ?_
    refine mB hT 16 rfl ?_
    exact hR _ (by decide) _ _ _ (congrArg (fun z => [Value.int z]) (if_pos h1).symm) rfl
  · refine mNf (lv2 := [(5, .int 0), (4, .int (Bm 6 0 6)), (0, .ref 0), (1, .int 6), (2, .int 2), (3, .int 0)]) (st2 := []) rfl rfl ?_
    refine mB hT 4 rfl ?_
    refine hC.1 _ 0 [_, _] _ _ _ _ _ (m_all_6_0 hn) rfl rfl (Nat.le_of_ble_eq_true rfl) rfl ?_
    refine mB hT 5 rfl ?_
    refine hC.2 _ 0 [_, _] _ _ _ _ _ (m_main_6_0) rfl rfl (Nat.le_of_ble_eq_true rfl) rfl ?_
    refine mB hT 2 rfl ?_
    exact hR _ (by decide) _ _ _ (congrArg (fun z => [Value.int z]) (if_neg h1).symm) rfl
set_option maxRecDepth 20000 in
theorem m_entryOf_6_2_1 {n vs : Nat} {wo un h : Int64} {bo : Nat → Int32} {ta tr ro ot : Nat → Int64} {Bm : Nat → Nat → Nat → Int32} {bk : Nat → Nat → Int32} (hn : n ≤ 4) : KX3_entryOf l D ca ad [.ref 0, .int 6, .int 2, .int 1] (MW (Int32.ofNat n) (Int32.ofNat vs) wo un h bo ta tr ro ot Bm bk) (some (.int (ceM n (Bm 6) 1 2))) (MW (Int32.ofNat n) (Int32.ofNat vs) wo un h bo ta tr ro ot Bm bk) := by
  refine PX3_entryOf (Nat.le_of_ble_eq_true rfl) ?_
  intro G hT hC hR
  refine mB hT 28 rfl ?_
  refine mIf (fun h1 => ?_) (fun h1 => ?_)
  · refine mNf (lv2 := [(5, .int 0), (4, .int (Bm 6 1 6)), (0, .ref 0), (1, .int 6), (2, .int 2), (3, .int 1)]) (st2 := []) rfl rfl ?_
    refine mB hT 16 rfl ?_
    exact hR _ (by decide) _ _ _ (congrArg (fun z => [Value.int z]) (if_pos h1).symm) rfl
  · refine mNf (lv2 := [(5, .int 0), (4, .int (Bm 6 1 6)), (0, .ref 0), (1, .int 6), (2, .int 2), (3, .int 1)]) (st2 := []) rfl rfl ?_
    refine mB hT 4 rfl ?_
    refine hC.1 _ 0 [_, _] _ _ _ _ _ (m_all_6_1 hn) rfl rfl (Nat.le_of_ble_eq_true rfl) rfl ?_
    refine mB hT 5 rfl ?_
    refine hC.2 _ 0 [_, _] _ _ _ _ _ (m_main_6_1) rfl rfl (Nat.le_of_ble_eq_true rfl) rfl ?_
    refine mB hT 2 rfl ?_
    exact hR _ (by decide) _ _ _ (congrArg (fun z => [Value.int z]) (if_neg h1).symm) rfl
set_option maxRecDepth 20000 in
theorem m_entryOf_6_2_2 {n vs : Nat} {wo un h : Int64} {bo : Nat → Int32} {ta tr ro ot : Nat → Int64} {Bm : Nat → Nat → Nat → Int32} {bk : Nat → Nat → Int32} (hn : n ≤ 4) : KX3_entryOf l D ca ad [.ref 0, .int 6, .int 2, .int 2] (MW (Int32.ofNat n) (Int32.ofNat vs) wo un h bo ta tr ro ot Bm bk) (some (.int (ceM n (Bm 6) 2 2))) (MW (Int32.ofNat n) (Int32.ofNat vs) wo un h bo ta tr ro ot Bm bk) := by
  refine PX3_entryOf (Nat.le_of_ble_eq_true rfl) ?_
  intro G hT hC hR
  refine mB hT 36 rfl ?_
  refine mIf (fun h1 => ?_) (fun h1 => ?_)
  · refine mNf (lv2 := [(5, .int (Bm 6 2 0)), (4, .int (Bm 6 2 6)), (0, .ref 0), (1, .int 6), (2, .int 2), (3, .int 2)]) (st2 := []) rfl rfl ?_
    refine mB hT 16 rfl ?_
    exact hR _ (by decide) _ _ _ (congrArg (fun z => [Value.int z]) (if_pos h1).symm) rfl
  · refine mNf (lv2 := [(5, .int (Bm 6 2 0)), (4, .int (Bm 6 2 6)), (0, .ref 0), (1, .int 6), (2, .int 2), (3, .int 2)]) (st2 := []) rfl rfl ?_
    refine mB hT 4 rfl ?_
    refine hC.1 _ 0 [_, _] _ _ _ _ _ (m_all_6_2 hn) rfl rfl (Nat.le_of_ble_eq_true rfl) rfl ?_
    refine mB hT 5 rfl ?_
    refine hC.2 _ 0 [_, _] _ _ _ _ _ (m_main_6_2) rfl rfl (Nat.le_of_ble_eq_true rfl) rfl ?_
    refine mB hT 2 rfl ?_
    exact hR _ (by decide) _ _ _ (congrArg (fun z => [Value.int z]) (if_neg h1).symm) rfl
set_option maxRecDepth 20000 in
theorem m_entryOf_6_2_3 {n vs : Nat} {wo un h : Int64} {bo : Nat → Int32} {ta tr ro ot : Nat → Int64} {Bm : Nat → Nat → Nat → Int32} {bk : Nat → Nat → Int32} (hn : n ≤ 4) : KX3_entryOf l D ca ad [.ref 0, .int 6, .int 2, .int 3] (MW (Int32.ofNat n) (Int32.ofNat vs) wo un h bo ta tr ro ot Bm bk) (some (.int (ceM n (Bm 6) 3 2))) (MW (Int32.ofNat n) (Int32.ofNat vs) wo un h bo ta tr ro ot Bm bk) := by
  refine PX3_entryOf (Nat.le_of_ble_eq_true rfl) ?_
  intro G hT hC hR
  refine mB hT 28 rfl ?_
  refine mIf (fun h1 => ?_) (fun h1 => ?_)
  · refine mNf (lv2 := [(5, .int 0), (4, .int (Bm 6 3 6)), (0, .ref 0), (1, .int 6), (2, .int 2), (3, .int 3)]) (st2 := []) rfl rfl ?_
    refine mB hT 16 rfl ?_
    exact hR _ (by decide) _ _ _ (congrArg (fun z => [Value.int z]) (if_pos h1).symm) rfl
  · refine mNf (lv2 := [(5, .int 0), (4, .int (Bm 6 3 6)), (0, .ref 0), (1, .int 6), (2, .int 2), (3, .int 3)]) (st2 := []) rfl rfl ?_
    refine mB hT 4 rfl ?_
    refine hC.1 _ 0 [_, _] _ _ _ _ _ (m_all_6_3 hn) rfl rfl (Nat.le_of_ble_eq_true rfl) rfl ?_
    refine mB hT 5 rfl ?_
    refine hC.2 _ 0 [_, _] _ _ _ _ _ (m_main_6_3) rfl rfl (Nat.le_of_ble_eq_true rfl) rfl ?_
    refine mB hT 2 rfl ?_
    exact hR _ (by decide) _ _ _ (congrArg (fun z => [Value.int z]) (if_neg h1).symm) rfl
set_option maxRecDepth 20000 in
theorem m_entryOf_6_3_0 {n vs : Nat} {wo un h : Int64} {bo : Nat → Int32} {ta tr ro ot : Nat → Int64} {Bm : Nat → Nat → Nat → Int32} {bk : Nat → Nat → Int32} (hn : n ≤ 4) : KX3_entryOf l D ca ad [.ref 0, .int 6, .int 3, .int 0] (MW (Int32.ofNat n) (Int32.ofNat vs) wo un h bo ta tr ro ot Bm bk) (some (.int (ceM n (Bm 6) 0 3))) (MW (Int32.ofNat n) (Int32.ofNat vs) wo un h bo ta tr ro ot Bm bk) := by
  refine PX3_entryOf (Nat.le_of_ble_eq_true rfl) ?_
  intro G hT hC hR
  refine mB hT 28 rfl ?_
  refine mIf (fun h1 => ?_) (fun h1 => ?_)
  · refine mNf (lv2 := [(5, .int 0), (4, .int (Bm 6 0 7)), (0, .ref 0), (1, .int 6), (2, .int 3), (3, .int 0)]) (st2 := []) rfl rfl ?_
    refine mB hT 16 rfl ?_
    exact hR _ (by decide) _ _ _ (congrArg (fun z => [Value.int z]) (if_pos h1).symm) rfl
  · refine mNf (lv2 := [(5, .int 0), (4, .int (Bm 6 0 7)), (0, .ref 0), (1, .int 6), (2, .int 3), (3, .int 0)]) (st2 := []) rfl rfl ?_
    refine mB hT 4 rfl ?_
    refine hC.1 _ 0 [_, _] _ _ _ _ _ (m_all_6_0 hn) rfl rfl (Nat.le_of_ble_eq_true rfl) rfl ?_
    refine mB hT 5 rfl ?_
    refine hC.2 _ 0 [_, _] _ _ _ _ _ (m_main_6_0) rfl rfl (Nat.le_of_ble_eq_true rfl) rfl ?_
    refine mB hT 2 rfl ?_
    exact hR _ (by decide) _ _ _ (congrArg (fun z => [Value.int z]) (if_neg h1).symm) rfl
set_option maxRecDepth 20000 in
theorem m_entryOf_6_3_1 {n vs : Nat} {wo un h : Int64} {bo : Nat → Int32} {ta tr ro ot : Nat → Int64} {Bm : Nat → Nat → Nat → Int32} {bk : Nat → Nat → Int32} (hn : n ≤ 4) : KX3_entryOf l D ca ad [.ref 0, .int 6, .int 3, .int 1] (MW (Int32.ofNat n) (Int32.ofNat vs) wo un h bo ta tr ro ot Bm bk) (some (.int (ceM n (Bm 6) 1 3))) (MW (Int32.ofNat n) (Int32.ofNat vs) wo un h bo ta tr ro ot Bm bk) := by
  refine PX3_entryOf (Nat.le_of_ble_eq_true rfl) ?_
  intro G hT hC hR
  refine mB hT 28 rfl ?_
  refine mIf (fun h1 => ?_) (fun h1 => ?_)
  · refine mNf (lv2 := [(5, .int 0), (4, .int (Bm 6 1 7)), (0, .ref 0), (1, .int 6), (2, .int 3), (3, .int 1)]) (st2 := []) rfl rfl ?_
    refine mB hT 16 rfl ?_
    exact hR _ (by decide) _ _ _ (congrArg (fun z => [Value.int z]) (if_pos h1).symm) rfl
  · refine mNf (lv2 := [(5, .int 0), (4, .int (Bm 6 1 7)), (0, .ref 0), (1, .int 6), (2, .int 3), (3, .int 1)]) (st2 := []) rfl rfl ?_
    refine mB hT 4 rfl ?_
    refine hC.1 _ 0 [_, _] _ _ _ _ _ (m_all_6_1 hn) rfl rfl (Nat.le_of_ble_eq_true rfl) rfl ?_
    refine mB hT 5 rfl ?_
    refine hC.2 _ 0 [_, _] _ _ _ _ _ (m_main_6_1) rfl rfl (Nat.le_of_ble_eq_true rfl) rfl ?_
    refine mB hT 2 rfl ?_
    exact hR _ (by decide) _ _ _ (congrArg (fun z => [Value.int z]) (if_neg h1).symm) rfl
set_option maxRecDepth 20000 in
theorem m_entryOf_6_3_2 {n vs : Nat} {wo un h : Int64} {bo : Nat → Int32} {ta tr ro ot : Nat → Int64} {Bm : Nat → Nat → Nat → Int32} {bk : Nat → Nat → Int32} (hn : n ≤ 4) : KX3_entryOf l D ca ad [.ref 0, .int 6, .int 3, .int 2] (MW (Int32.ofNat n) (Int32.ofNat vs) wo un h bo ta tr ro ot Bm bk) (some (.int (ceM n (Bm 6) 2 3))) (MW (Int32.ofNat n) (Int32.ofNat vs) wo un h bo ta tr ro ot Bm bk) := by
  refine PX3_entryOf (Nat.le_of_ble_eq_true rfl) ?_
  intro G hT hC hR
  refine mB hT 28 rfl ?_
  refine mIf (fun h1 => ?_) (fun h1 => ?_)
  · refine mNf (lv2 := [(5, .int 0), (4, .int (Bm 6 2 7)), (0, .ref 0), (1, .int 6), (2, .int 3), (3, .int 2)]) (st2 := []) rfl rfl ?_
    refine mB hT 16 rfl ?_
    exact hR _ (by decide) _ _ _ (congrArg (fun z => [Value.int z]) (if_pos h1).symm) rfl
  · refine mNf (lv2 := [(5, .int 0), (4, .int (Bm 6 2 7)), (0, .ref 0), (1, .int 6), (2, .int 3), (3, .int 2)]) (st2 := []) rfl rfl ?_
    refine mB hT 4 rfl ?_
    refine hC.1 _ 0 [_, _] _ _ _ _ _ (m_all_6_2 hn) rfl rfl (Nat.le_of_ble_eq_true rfl) rfl ?_
    refine mB hT 5 rfl ?_
    refine hC.2 _ 0 [_, _] _ _ _ _ _ (m_main_6_2) rfl rfl (Nat.le_of_ble_eq_true rfl) rfl ?_
    refine mB hT 2 rfl ?_
    exact hR _ (by decide) _ _ _ (congrArg (fun z => [Value.int z]) (if_neg h1).symm) rfl
set_option maxRecDepth 20000 in
theorem m_entryOf_6_3_3 {n vs : Nat} {wo un h : Int64} {bo : Nat → Int32} {ta tr ro ot : Nat → Int64} {Bm : Nat → Nat → Nat → Int32} {bk : Nat → Nat → Int32} (hn : n ≤ 4) : KX3_entryOf l D ca ad [.ref 0, .int 6, .int 3, .int 3] (MW (Int32.ofNat n) (Int32.ofNat vs) wo un h bo ta tr ro ot Bm bk) (some (.int (ceM n (Bm 6) 3 3))) (MW (Int32.ofNat n) (Int32.ofNat vs) wo un h bo ta tr ro ot Bm bk) := by
  refine PX3_entryOf (Nat.le_of_ble_eq_true rfl) ?_
  intro G hT hC hR
  refine mB hT 36 rfl ?_
  refine mIf (fun h1 => ?_) (fun h1 => ?_)
  · refine mNf (lv2 := [(5, .int (Bm 6 3 0)), (4, .int (Bm 6 3 7)), (0, .ref 0), (1, .int 6), (2, .int 3), (3, .int 3)]) (st2 := []) rfl rfl ?_
    refine mB hT 16 rfl ?_
    exact hR _ (by decide) _ _ _ (congrArg (fun z => [Value.int z]) (if_pos h1).symm) rfl
  · refine mNf (lv2 := [(5, .int (Bm 6 3 0)), (4, .int (Bm 6 3 7)), (0, .ref 0), (1, .int 6), (2, .int 3), (3, .int 3)]) (st2 := []) rfl rfl ?_
    refine mB hT 4 rfl ?_
    refine hC.1 _ 0 [_, _] _ _ _ _ _ (m_all_6_3 hn) rfl rfl (Nat.le_of_ble_eq_true rfl) rfl ?_
    refine mB hT 5 rfl ?_
    refine hC.2 _ 0 [_, _] _ _ _ _ _ (m_main_6_3) rfl rfl (Nat.le_of_ble_eq_true rfl) rfl ?_
    refine mB hT 2 rfl ?_
    exact hR _ (by decide) _ _ _ (congrArg (fun z => [Value.int z]) (if_neg h1).symm) rfl
set_option maxRecDepth 20000 in
theorem m_pair_0_0_1 {n vs : Int32} {wo un h : Int64} {bo : Nat → Int32} {ta tr ro ot : Nat → Int64} {Bm : Nat → Nat → Nat → Int32} {bk : Nat → Nat → Int32} : KX3_pair l D ca ad [.ref 0, .int 0, .int 0, .int 1] (MW n vs wo un h bo ta tr ro ot Bm bk) (some (.long (prM tr 0 0 1))) (MW n vs wo un h bo ta tr ro ot Bm bk) := by
  refine PX3_pair (Nat.le_of_ble_eq_true rfl) ?_
  intro G hT hC hR
  refine mB hT 39 rfl ?_
  exact hR _ (by decide) _ _ _ rfl rfl
set_option maxRecDepth 20000 in
theorem m_pair_2_2_3 {n vs : Int32} {wo un h : Int64} {bo : Nat → Int32} {ta tr ro ot : Nat → Int64} {Bm : Nat → Nat → Nat → Int32} {bk : Nat → Nat → Int32} : KX3_pair l D ca ad [.ref 0, .int 2, .int 2, .int 3] (MW n vs wo un h bo ta tr ro ot Bm bk) (some (.long (prM tr 2 2 3))) (MW n vs wo un h bo ta tr ro ot Bm bk) := by
  refine PX3_pair (Nat.le_of_ble_eq_true rfl) ?_
  intro G hT hC hR
  refine mB hT 39 rfl ?_
  exact hR _ (by decide) _ _ _ rfl rfl
set_option maxRecDepth 20000 in
theorem m_pair_0_0_2 {n vs : Int32} {wo un h : Int64} {bo : Nat → Int32} {ta tr ro ot : Nat → Int64} {Bm : Nat → Nat → Nat → Int32} {bk : Nat → Nat → Int32} : KX3_pair l D ca ad [.ref 0, .int 0, .int 0, .int 2] (MW n vs wo un h bo ta tr ro ot Bm bk) (some (.long (prM tr 0 0 2))) (MW n vs wo un h bo ta tr ro ot Bm bk) := by
  refine PX3_pair (Nat.le_of_ble_eq_true rfl) ?_
  intro G hT hC hR
  refine mB hT 39 rfl ?_
  exact hR _ (by decide) _ _ _ rfl rfl
set_option maxRecDepth 20000 in
theorem m_pair_2_1_3 {n vs : Int32} {wo un h : Int64} {bo : Nat → Int32} {ta tr ro ot : Nat → Int64} {Bm : Nat → Nat → Nat → Int32} {bk : Nat → Nat → Int32} : KX3_pair l D ca ad [.ref 0, .int 2, .int 1, .int 3] (MW n vs wo un h bo ta tr ro ot Bm bk) (some (.long (prM tr 2 1 3))) (MW n vs wo un h bo ta tr ro ot Bm bk) := by
  refine PX3_pair (Nat.le_of_ble_eq_true rfl) ?_
  intro G hT hC hR
  refine mB hT 39 rfl ?_
  exact hR _ (by decide) _ _ _ rfl rfl
set_option maxRecDepth 20000 in
theorem m_pair_0_0_3 {n vs : Int32} {wo un h : Int64} {bo : Nat → Int32} {ta tr ro ot : Nat → Int64} {Bm : Nat → Nat → Nat → Int32} {bk : Nat → Nat → Int32} : KX3_pair l D ca ad [.ref 0, .int 0, .int 0, .int 3] (MW n vs wo un h bo ta tr ro ot Bm bk) (some (.long (prM tr 0 0 3))) (MW n vs wo un h bo ta tr ro ot Bm bk) := by
  refine PX3_pair (Nat.le_of_ble_eq_true rfl) ?_
  intro G hT hC hR
  refine mB hT 39 rfl ?_
  exact hR _ (by decide) _ _ _ rfl rfl
set_option maxRecDepth 20000 in
theorem m_pair_2_1_2 {n vs : Int32} {wo un h : Int64} {bo : Nat → Int32} {ta tr ro ot : Nat → Int64} {Bm : Nat → Nat → Nat → Int32} {bk : Nat → Nat → Int32} : KX3_pair l D ca ad [.ref 0, .int 2, .int 1, .int 2] (MW n vs wo un h bo ta tr ro ot Bm bk) (some (.long (prM tr 2 1 2))) (MW n vs wo un h bo ta tr ro ot Bm bk) := by
  refine PX3_pair (Nat.le_of_ble_eq_true rfl) ?_
  intro G hT hC hR
  refine mB hT 39 rfl ?_
  exact hR _ (by decide) _ _ _ rfl rfl
set_option maxRecDepth 20000 in
theorem m_pair_0_1_2 {n vs : Int32} {wo un h : Int64} {bo : Nat → Int32} {ta tr ro ot : Nat → Int64} {Bm : Nat → Nat → Nat → Int32} {bk : Nat → Nat → Int32} : KX3_pair l D ca ad [.ref 0, .int 0, .int 1, .int 2] (MW n vs wo un h bo ta tr ro ot Bm bk) (some (.long (prM tr 0 1 2))) (MW n vs wo un h bo ta tr ro ot Bm bk) := by
  refine PX3_pair (Nat.le_of_ble_eq_true rfl) ?_
  intro G hT hC hR
  refine mB hT 39 rfl ?_
  exact hR _ (by decide) _ _ _ rfl rfl
set_option maxRecDepth 20000 in
theorem m_pair_2_0_3 {n vs : Int32} {wo un h : Int64} {bo : Nat → Int32} {ta tr ro ot : Nat → Int64} {Bm : Nat → Nat → Nat → Int32} {bk : Nat → Nat → Int32} : KX3_pair l D ca ad [.ref 0, .int 2, .int 0, .int 3] (MW n vs wo un h bo ta tr ro ot Bm bk) (some (.long (prM tr 2 0 3))) (MW n vs wo un h bo ta tr ro ot Bm bk) := by
  refine PX3_pair (Nat.le_of_ble_eq_true rfl) ?_
  intro G hT hC hR
  refine mB hT 39 rfl ?_
  exact hR _ (by decide) _ _ _ rfl rfl
set_option maxRecDepth 20000 in
theorem m_pair_0_1_3 {n vs : Int32} {wo un h : Int64} {bo : Nat → Int32} {ta tr ro ot : Nat → Int64} {Bm : Nat → Nat → Nat → Int32} {bk : Nat → Nat → Int32} : KX3_pair l D ca ad [.ref 0, .int 0, .int 1, .int 3] (MW n vs wo un h bo ta tr ro ot Bm bk) (some (.long (prM tr 0 1 3))) (MW n vs wo un h bo ta tr ro ot Bm bk) := by
  refine PX3_pair (Nat.le_of_ble_eq_true rfl) ?_
  intro G hT hC hR
  refine mB hT 39 rfl ?_
  exact hR _ (by decide) _ _ _ rfl rfl
set_option maxRecDepth 20000 in
theorem m_pair_2_0_2 {n vs : Int32} {wo un h : Int64} {bo : Nat → Int32} {ta tr ro ot : Nat → Int64} {Bm : Nat → Nat → Nat → Int32} {bk : Nat → Nat → Int32} : KX3_pair l D ca ad [.ref 0, .int 2, .int 0, .int 2] (MW n vs wo un h bo ta tr ro ot Bm bk) (some (.long (prM tr 2 0 2))) (MW n vs wo un h bo ta tr ro ot Bm bk) := by
  refine PX3_pair (Nat.le_of_ble_eq_true rfl) ?_
  intro G hT hC hR
  refine mB hT 39 rfl ?_
  exact hR _ (by decide) _ _ _ rfl rfl
set_option maxRecDepth 20000 in
theorem m_pair_0_2_3 {n vs : Int32} {wo un h : Int64} {bo : Nat → Int32} {ta tr ro ot : Nat → Int64} {Bm : Nat → Nat → Nat → Int32} {bk : Nat → Nat → Int32} : KX3_pair l D ca ad [.ref 0, .int 0, .int 2, .int 3] (MW n vs wo un h bo ta tr ro ot Bm bk) (some (.long (prM tr 0 2 3))) (MW n vs wo un h bo ta tr ro ot Bm bk) := by
  refine PX3_pair (Nat.le_of_ble_eq_true rfl) ?_
  intro G hT hC hR
  refine mB hT 39 rfl ?_
  exact hR _ (by decide) _ _ _ rfl rfl
set_option maxRecDepth 20000 in
theorem m_pair_2_0_1 {n vs : Int32} {wo un h : Int64} {bo : Nat → Int32} {ta tr ro ot : Nat → Int64} {Bm : Nat → Nat → Nat → Int32} {bk : Nat → Nat → Int32} : KX3_pair l D ca ad [.ref 0, .int 2, .int 0, .int 1] (MW n vs wo un h bo ta tr ro ot Bm bk) (some (.long (prM tr 2 0 1))) (MW n vs wo un h bo ta tr ro ot Bm bk) := by
  refine PX3_pair (Nat.le_of_ble_eq_true rfl) ?_
  intro G hT hC hR
  refine mB hT 39 rfl ?_
  exact hR _ (by decide) _ _ _ rfl rfl
set_option maxRecDepth 20000 in
theorem m_det {n vs : Int32} {wo un h : Int64} {bo : Nat → Int32} {ta tr ro ot : Nat → Int64} {Bm : Nat → Nat → Nat → Int32} {bk : Nat → Nat → Int32} : KX3_determinant l D ca ad [.ref 0] (MW n vs wo un h bo ta tr ro ot Bm bk) (some (.long (dtM tr))) (MW n vs wo un h bo ta tr ro ot Bm bk) := by
  refine PX3_determinant (Nat.le_of_ble_eq_true rfl) ?_
  intro G hT hC hR
  refine mB hT 4 rfl ?_
  refine hC.1 _ 0 [_, _, _] _ _ _ _ _ (m_pair_0_0_1) rfl rfl (Nat.le_of_ble_eq_true rfl) rfl ?_
  refine mB hT 4 rfl ?_
  refine hC.2.1 _ 0 [_, _, _] _ _ _ _ _ (m_pair_2_2_3) rfl rfl (Nat.le_of_ble_eq_true rfl) rfl ?_
  refine mB hT 5 rfl ?_
  refine hC.2.2.1 _ 0 [_, _, _] _ _ _ _ _ (m_pair_0_0_2) rfl rfl (Nat.le_of_ble_eq_true rfl) rfl ?_
  refine mB hT 4 rfl ?_
  refine hC.2.2.2.1 _ 0 [_, _, _] _ _ _ _ _ (m_pair_2_1_3) rfl rfl (Nat.le_of_ble_eq_true rfl) rfl ?_
  refine mB hT 6 rfl ?_
  refine hC.2.2.2.2.1 _ 0 [_, _, _] _ _ _ _ _ (m_pair_0_0_3) rfl rfl (Nat.le_of_ble_eq_true rfl) rfl ?_
  refine mB hT 4 rfl ?_
  refine hC.2.2.2.2.2.1 _ 0 [_, _, _] _ _ _ _ _ (m_pair_2_1_2) rfl rfl (Nat.le_of_ble_eq_true rfl) rfl ?_
  refine mB hT 8 rfl ?_
  refine hC.2.2.2.2.2.2.1 _ 0 [_, _, _] _ _ _ _ _ (m_pair_0_1_2) rfl rfl (Nat.le_of_ble_eq_true rfl) rfl ?_
  refine mB hT 4 rfl ?_
  refine hC.2.2.2.2.2.2.2.1 _ 0 [_, _, _] _ _ _ _ _ (m_pair_2_0_3) rfl rfl (Nat.le_of_ble_eq_true rfl) rfl ?_
  refine mB hT 6 rfl ?_
  refine hC.2.2.2.2.2.2.2.2.1 _ 0 [_, _, _] _ _ _ _ _ (m_pair_0_1_3) rfl rfl (Nat.le_of_ble_eq_true rfl) rfl ?_
  refine mB hT 4 rfl ?_
  refine hC.2.2.2.2.2.2.2.2.2.1 _ 0 [_, _, _] _ _ _ _ _ (m_pair_2_0_2) rfl rfl (Nat.le_of_ble_eq_true rfl) rfl ?_
  refine mB hT 6 rfl ?_
  refine hC.2.2.2.2.2.2.2.2.2.2.1 _ 0 [_, _, _] _ _ _ _ _ (m_pair_0_2_3) rfl rfl (Nat.le_of_ble_eq_true rfl) rfl ?_
  refine mB hT 4 rfl ?_
  refine hC.2.2.2.2.2.2.2.2.2.2.2 _ 0 [_, _, _] _ _ _ _ _ (m_pair_2_0_1) rfl rfl (Nat.le_of_ble_eq_true rfl) rfl ?_
  refine mB hT 2 rfl ?_
  exact hR _ (by decide) _ _ _ rfl rfl
end
