section
variable {l : Launch} {D : va_G} {ca : Nat → ClassId} {ad : Nat → Nat}

set_option maxRecDepth 20000 in
theorem c_tableCell_6_0_0 {n vs : Int32} {be de : Int64} {sz : Int32} {ro co mi : Nat → Int64} {T : Nat → Nat → Int64} {B : Nat → Nat → Nat → Int32} {hd : Nat → Nat → Int32} {df : Nat → Int32} : KX0_tableCell l D ca ad [.ref 10, .int 0, .int 0] (XW n vs be de sz ro co mi T B hd df) (some (.int (cellX (B 6 0) 0 0))) (XW n vs be de sz ro co mi T B hd df) := by
  refine PX0_tableCell (Nat.le_of_ble_eq_true rfl) ?_
  intro G hT hC hR
  refine mB hT 24 rfl ?_
  refine mIf (fun h1 => ?_) (fun h1 => ?_)
  · refine mNf (lv2 := [(5, .int (B 6 0 4)), (4, .int (B 6 0 0)), (3, .ref 12), (0, .ref 10), (1, .int 0), (2, .int 0)]) (st2 := []) rfl rfl ?_
    refine mB hT 9 rfl ?_
    exact hR _ (by decide) _ _ _ (congrArg (fun z => [Value.int z]) (if_pos h1).symm) rfl
  · refine mNf (lv2 := [(5, .int (B 6 0 4)), (4, .int (B 6 0 0)), (3, .ref 12), (0, .ref 10), (1, .int 0), (2, .int 0)]) (st2 := []) rfl rfl ?_
    refine mB hT 11 rfl ?_
    exact hR _ (by decide) _ _ _ (congrArg (fun z => [Value.int z]) (if_neg h1).symm) rfl
set_option maxRecDepth 20000 in
theorem c_tableCell_6_0_1 {n vs : Int32} {be de : Int64} {sz : Int32} {ro co mi : Nat → Int64} {T : Nat → Nat → Int64} {B : Nat → Nat → Nat → Int32} {hd : Nat → Nat → Int32} {df : Nat → Int32} : KX0_tableCell l D ca ad [.ref 10, .int 0, .int 1] (XW n vs be de sz ro co mi T B hd df) (some (.int (cellX (B 6 1) 1 0))) (XW n vs be de sz ro co mi T B hd df) := by
  refine PX0_tableCell (Nat.le_of_ble_eq_true rfl) ?_
  intro G hT hC hR
  refine mB hT 21 rfl ?_
  refine mIf (fun h1 => ?_) (fun h1 => ?_)
  · refine mNf (lv2 := [(5, .int (B 6 1 4)), (4, .int 0), (3, .ref 13), (0, .ref 10), (1, .int 0), (2, .int 1)]) (st2 := []) rfl rfl ?_
    refine mB hT 9 rfl ?_
    exact hR _ (by decide) _ _ _ (congrArg (fun z => [Value.int z]) (if_pos h1).symm) rfl
  · refine mNf (lv2 := [(5, .int (B 6 1 4)), (4, .int 0), (3, .ref 13), (0, .ref 10), (1, .int 0), (2, .int 1)]) (st2 := []) rfl rfl ?_
    refine mB hT 11 rfl ?_
    exact hR _ (by decide) _ _ _ (congrArg (fun z => [Value.int z]) (if_neg h1).symm) rfl
set_option maxRecDepth 20000 in
theorem c_tableCell_6_0_2 {n vs : Int32} {be de : Int64} {sz : Int32} {ro co mi : Nat → Int64} {T : Nat → Nat → Int64} {B : Nat → Nat → Nat → Int32} {hd : Nat → Nat → Int32} {df : Nat → Int32} : KX0_tableCell l D ca ad [.ref 10, .int 0, .int 2] (XW n vs be de sz ro co mi T B hd df) (some (.int (cellX (B 6 2) 2 0))) (XW n vs be de sz ro co mi T B hd df) := by
  refine PX0_tableCell (Nat.le_of_ble_eq_true rfl) ?_
  intro G hT hC hR
  refine mB hT 21 rfl ?_
  refine mIf (fun h1 => ?_) (fun h1 => ?_)
  · refine mNf (lv2 := [(5, .int (B 6 2 4)), (4, .int 0), (3, .ref 14), (0, .ref 10), (1, .int 0), (2, .int 2)]) (st2 := []) rfl rfl ?_
    refine mB hT 9 rfl ?_
    exact hR _ (by decide) _ _ _ (congrArg (fun z => [Value.int z]) (if_pos h1).symm) rfl
  · refine mNf (lv2 := [(5, .int (B 6 2 4)), (4, .int 0), (3, .ref 14), (0, .ref 10), (1, .int 0), (2, .int 2)]) (st2 := []) rfl rfl ?_
    refine mB hT 11 rfl ?_
    exact hR _ (by decide) _ _ _ (congrArg (fun z => [Value.int z]) (if_neg h1).symm) rfl
set_option maxRecDepth 20000 in
theorem c_tableCell_6_0_3 {n vs : Int32} {be de : Int64} {sz : Int32} {ro co mi : Nat → Int64} {T : Nat → Nat → Int64} {B : Nat → Nat → Nat → Int32} {hd : Nat → Nat → Int32} {df : Nat → Int32} : KX0_tableCell l D ca ad [.ref 10, .int 0, .int 3] (XW n vs be de sz ro co mi T B hd df) (some (.int (cellX (B 6 3) 3 0))) (XW n vs be de sz ro co mi T B hd df) := by
  refine PX0_tableCell (Nat.le_of_ble_eq_true rfl) ?_
  intro G hT hC hR
  refine mB hT 21 rfl ?_
  refine mIf (fun h1 => ?_) (fun h1 => ?_)
  · refine mNf (lv2 := [(5, .int (B 6 3 4)), (4, .int 0), (3, .ref 15), (0, .ref 10), (1, .int 0), (2, .int 3)]) (st2 := []) rfl rfl ?_
    refine mB hT 9 rfl ?_
    exact hR _ (by decide) _ _ _ (congrArg (fun z => [Value.int z]) (if_pos h1).symm) rfl
  · refine mNf (lv2 := [(5, .int (B 6 3 4)), (4, .int 0), (3, .ref 15), (0, .ref 10), (1, .int 0), (2, .int 3)]) (st2 := []) rfl rfl ?_
    refine mB hT 11 rfl ?_
    exact hR _ (by decide) _ _ _ (congrArg (fun z => [Value.int z]) (if_neg h1).symm) rfl
set_option maxRecDepth 20000 in
theorem c_tableCell_6_1_0 {n vs : Int32} {be de : Int64} {sz : Int32} {ro co mi : Nat → Int64} {T : Nat → Nat → Int64} {B : Nat → Nat → Nat → Int32} {hd : Nat → Nat → Int32} {df : Nat → Int32} : KX0_tableCell l D ca ad [.ref 10, .int 1, .int 0] (XW n vs be de sz ro co mi T B hd df) (some (.int (cellX (B 6 0) 0 1))) (XW n vs be de sz ro co mi T B hd df) := by
  refine PX0_tableCell (Nat.le_of_ble_eq_true rfl) ?_
  intro G hT hC hR
  refine mB hT 21 rfl ?_
  refine mIf (fun h1 => ?_) (fun h1 => ?_)
  · refine mNf (lv2 := [(5, .int (B 6 0 5)), (4, .int 0), (3, .ref 12), (0, .ref 10), (1, .int 1), (2, .int 0)]) (st2 := []) rfl rfl ?_
    refine mB hT 9 rfl ?_
    exact hR _ (by decide) _ _ _ (congrArg (fun z => [Value.int z]) (if_pos h1).symm) rfl
  · refine mNf (lv2 := [(5, .int (B 6 0 5)), (4, .int 0), (3, .ref 12), (0, .ref 10), (1, .int 1), (2, .int 0)]) (st2 := []) rfl rfl ?_
    refine mB hT 11 rfl ?_
    exact hR _ (by decide) _ _ _ (congrArg (fun z => [Value.int z]) (if_neg h1).symm) rfl
set_option maxRecDepth 20000 in
theorem c_tableCell_6_1_1 {n vs : Int32} {be de : Int64} {sz : Int32} {ro co mi : Nat → Int64} {T : Nat → Nat → Int64} {B : Nat → Nat → Nat → Int32} {hd : Nat → Nat → Int32} {df : Nat → Int32} : KX0_tableCell l D ca ad [.ref 10, .int 1, .int 1] (XW n vs be de sz ro co mi T B hd df) (some (.int (cellX (B 6 1) 1 1))) (XW n vs be de sz ro co mi T B hd df) := by
  refine PX0_tableCell (Nat.le_of_ble_eq_true rfl) ?_
  intro G hT hC hR
  refine mB hT 24 rfl ?_
  refine mIf (fun h1 => ?_) (fun h1 => ?_)
  · refine mNf (lv2 := [(5, .int (B 6 1 5)), (4, .int (B 6 1 0)), (3, .ref 13), (0, .ref 10), (1, .int 1), (2, .int 1)]) (st2 := []) rfl rfl ?_
    refine mB hT 9 rfl ?_
    exact hR _ (by decide) _ _ _ (congrArg (fun z => [Value.int z]) (if_pos h1).symm) rfl
  · refine mNf (lv2 := [(5, .int (B 6 1 5)), (4, .int (B 6 1 0)), (3, .ref 13), (0, .ref 10), (1, .int 1), (2, .int 1)]) (st2 := []) rfl rfl ?_
    refine mB hT 11 rfl ?_
    exact hR _ (by decide) _ _ _ (congrArg (fun z => [Value.int z]) (if_neg h1).symm) rfl
set_option maxRecDepth 20000 in
theorem c_tableCell_6_1_2 {n vs : Int32} {be de : Int64} {sz : Int32} {ro co mi : Nat → Int64} {T : Nat → Nat → Int64} {B : Nat → Nat → Nat → Int32} {hd : Nat → Nat → Int32} {df : Nat → Int32} : KX0_tableCell l D ca ad [.ref 10, .int 1, .int 2] (XW n vs be de sz ro co mi T B hd df) (some (.int (cellX (B 6 2) 2 1))) (XW n vs be de sz ro co mi T B hd df) := by
  refine PX0_tableCell (Nat.le_of_ble_eq_true rfl) ?_
  intro G hT hC hR
  refine mB hT 21 rfl ?_
  refine mIf (fun h1 => ?_) (fun h1 => ?_)
  · refine mNf (lv2 := [(5, .int (B 6 2 5)), (4, .int 0), (3, .ref 14), (0, .ref 10), (1, .int 1), (2, .int 2)]) (st2 := []) rfl rfl ?_
    refine mB hT 9 rfl ?_
    exact hR _ (by decide) _ _ _ (congrArg (fun z => [Value.int z]) (if_pos h1).symm) rfl
  · refine mNf (lv2 := [(5, .int (B 6 2 5)), (4, .int 0), (3, .ref 14), (0, .ref 10), (1, .int 1), (2, .int 2)]) (st2 := []) rfl rfl ?_
    refine mB hT 11 rfl ?_
    exact hR _ (by decide) _ _ _ (congrArg (fun z => [Value.int z]) (if_neg h1).symm) rfl
set_option maxRecDepth 20000 in
theorem c_tableCell_6_1_3 {n vs : Int32} {be de : Int64} {sz : Int32} {ro co mi : Nat → Int64} {T : Nat → Nat → Int64} {B : Nat → Nat → Nat → Int32} {hd : Nat → Nat → Int32} {df : Nat → Int32} : KX0_tableCell l D ca ad [.ref 10, .int 1, .int 3] (XW n vs be de sz ro co mi T B hd df) (some (.int (cellX (B 6 3) 3 1))) (XW n vs be de sz ro co mi T B hd df) := by
  refine PX0_tableCell (Nat.le_of_ble_eq_true rfl) ?_
  intro G hT hC hR
  refine mB hT 21 rfl ?_
  refine mIf (fun h1 => ?_) (fun h1 => ?_)
  · refine mNf (lv2 := [(5, .int (B 6 3 5)), (4, .int 0), (3, .ref 15), (0, .ref 10), (1, .int 1), (2, .int 3)]) (st2 := []) rfl rfl ?_
    refine mB hT 9 rfl ?_
    exact hR _ (by decide) _ _ _ (congrArg (fun z => [Value.int z]) (if_pos h1).symm) rfl
  · refine mNf (lv2 := [(5, .int (B 6 3 5)), (4, .int 0), (3, .ref 15), (0, .ref 10), (1, .int 1), (2, .int 3)]) (st2 := []) rfl rfl ?_
    refine mB hT 11 rfl ?_
    exact hR _ (by decide) _ _ _ (congrArg (fun z => [Value.int z]) (if_neg h1).symm) rfl
set_option maxRecDepth 20000 in
theorem c_tableCell_6_2_0 {n vs : Int32} {be de : Int64} {sz : Int32} {ro co mi : Nat → Int64} {T : Nat → Nat → Int64} {B : Nat → Nat → Nat → Int32} {hd : Nat → Nat → Int32} {df : Nat → Int32} : KX0_tableCell l D ca ad [.ref 10, .int 2, .int 0] (XW n vs be de sz ro co mi T B hd df) (some (.int (cellX (B 6 0) 0 2))) (XW n vs be de sz ro co mi T B hd df) := by
  refine PX0_tableCell (Nat.le_of_ble_eq_true rfl) ?_
  intro G hT hC hR
  refine mB hT 21 rfl ?_
  refine mIf (fun h1 => ?_) (fun h1 => ?_)
  · refine mNf (lv2 := [(5, .int (B 6 0 6)), (4, .int 0), (3, .ref 12), (0, .ref 10), (1, .int 2), (2, .int 0)]) (st2 := []) rfl rfl ?_
    refine mB hT 9 rfl ?_
    exact hR _ (by decide) _ _ _ (congrArg (fun z => [Value.int z]) (if_pos h1).symm) rfl
  · refine mNf (lv2 := [(5, .int (B 6 0 6)), (4, .int 0), (3, .ref 12), (0, .ref 10), (1, .int 2), (2, .int 0)]) (st2 := []) rfl rfl ?_
    refine mB hT 11 rfl ?_
    exact hR _ (by decide) _ _ _ (congrArg (fun z => [Value.int z]) (if_neg h1).symm) rfl
set_option maxRecDepth 20000 in
theorem c_tableCell_6_2_1 {n vs : Int32} {be de : Int64} {sz : Int32} {ro co mi : Nat → Int64} {T : Nat → Nat → Int64} {B : Nat → Nat → Nat → Int32} {hd : Nat → Nat → Int32} {df : Nat → Int32} : KX0_tableCell l D ca ad [.ref 10, .int 2, .int 1] (XW n vs be de sz ro co mi T B hd df) (some (.int (cellX (B 6 1) 1 2))) (XW n vs be de sz ro co mi T B hd df) := by
  refine PX0_tableCell (Nat.le_of_ble_eq_true rfl) ?_
  intro G hT hC hR
  refine mB hT 21 rfl ?_
  refine mIf (fun h1 => ?_) (fun h1 => ?_)
  · refine mNf (lv2 := [(5, .int (B 6 1 6)), (4, .int 0), (3, .ref 13), (0, .ref 10), (1, .int 2), (2, .int 1)]) (st2 := []) rfl rfl ?_
    refine mB hT 9 rfl ?_
    exact hR _ (by decide) _ _ _ (congrArg (fun z => [Value.int z]) (if_pos h1).symm) rfl
  · refine mNf (lv2 := [(5, .int (B 6 1 6)), (4, .int 0), (3, .ref 13), (0, .ref 10), (1, .int 2), (2, .int 1)]) (st2 := []) rfl rfl ?_
    refine mB hT 11 rfl ?_
    exact hR _ (by decide) _ _ _ (congrArg (fun z => [Value.int z]) (if_neg h1).symm) rfl
set_option maxRecDepth 20000 in
theorem c_tableCell_6_2_2 {n vs : Int32} {be de : Int64} {sz : Int32} {ro co mi : Nat → Int64} {T : Nat → Nat → Int64} {B : Nat → Nat → Nat → Int32} {hd : Nat → Nat → Int32} {df : Nat → Int32} : KX0_tableCell l D ca ad [.ref 10, .int 2, .int 2] (XW n vs be de sz ro co mi T B hd df) (some (.int (cellX (B 6 2) 2 2))) (XW n vs be de sz ro co mi T B hd df) := by
  refine PX0_tableCell (Nat.le_of_ble_eq_true rfl) ?_
  intro G hT hC hR
  refine mB hT 24 rfl ?_
  refine mIf (fun h1 => ?_) (fun h1 => ?_)
  · refine mNf (lv2 := [(5, .int (B 6 2 6)), (4, .int (B 6 2 0)), (3, .ref 14), (0, .ref 10), (1, .int 2), (2, .int 2)]) (st2 := []) rfl rfl ?_
    refine mB hT 9 rfl ?_
    exact hR _ (by decide) _ _ _ (congrArg (fun z => [Value.int z]) (if_pos h1).symm) rfl
  · refine mNf (lv2 := [(5, .int (B 6 2 6)), (4, .int (B 6 2 0)), (3, .ref 14), (0, .ref 10), (1, .int 2), (2, .int 2)]) (st2 := []) rfl rfl ?_
    refine mB hT 11 rfl ?_
    exact hR _ (by decide) _ _ _ (congrArg (fun z => [Value.int z]) (if_neg h1).symm) rfl
set_option maxRecDepth 20000 in
theorem c_tableCell_6_2_3 {n vs : Int32} {be de : Int64} {sz : Int32} {ro co mi : Nat → Int64} {T : Nat → Nat → Int64} {B : Nat → Nat → Nat → Int32} {hd : Nat → Nat → Int32} {df : Nat → Int32} : KX0_tableCell l D ca ad [.ref 10, .int 2, .int 3] (XW n vs be de sz ro co mi T B hd df) (some (.int (cellX (B 6 3) 3 2))) (XW n vs be de sz ro co mi T B hd df) := by
  refine PX0_tableCell (Nat.le_of_ble_eq_true rfl) ?_
  intro G hT hC hR
  refine mB hT 21 rfl ?_
  refine mIf (fun h1 => ?_) (fun h1 => ?_)
  · refine mNf (lv2 := [(5, .int (B 6 3 6)), (4, .int 0), (3, .ref 15), (0, .ref 10), (1, .int 2), (2, .int 3)]) (st2 := []) rfl rfl ?_
    refine mB hT 9 rfl ?_
    exact hR _ (by decide) _ _ _ (congrArg (fun z => [Value.int z]) (if_pos h1).symm) rfl
  · refine mNf (lv2 := [(5, .int (B 6 3 6)), (4, .int 0), (3, .ref 15), (0, .ref 10), (1, .int 2), (2, .int 3)]) (st2 := []) rfl rfl ?_
    refine mB hT 11 rfl ?_
    exact hR _ (by decide) _ _ _ (congrArg (fun z => [Value.int z]) (if_neg h1).symm) rfl
set_option maxRecDepth 20000 in
theorem c_tableCell_6_3_0 {n vs : Int32} {be de : Int64} {sz : Int32} {ro co mi : Nat → Int64} {T : Nat → Nat → Int64} {B : Nat → Nat → Nat → Int32} {hd : Nat → Nat → Int32} {df : Nat → Int32} : KX0_tableCell l D ca ad [.ref 10, .int 3, .int 0] (XW n vs be de sz ro co mi T B hd df) (some (.int (cellX (B 6 0) 0 3))) (XW n vs be de sz ro co mi T B hd df) := by
  refine PX0_tableCell (Nat.le_of_ble_eq_true rfl) ?_
  intro G hT hC hR
  refine mB hT 21 rfl ?_
  refine mIf (fun h1 => ?_) (fun h1 => ?_)
  · refine mNf (lv2 := [(5, .int (B 6 0 7)), (4, .int 0), (3, .ref 12), (0, .ref 10), (1, .int 3), (2, .int 0)]) (st2 := []) rfl rfl ?_
    refine mB hT 9 rfl ?_
    exact hR _ (by decide) _ _ _ (congrArg (fun z => [Value.int z]) (if_pos h1).symm) rfl
  · refine mNf (lv2 := [(5, .int (B 6 0 7)), (4, .int 0), (3, .ref 12), (0, .ref 10), (1, .int 3), (2, .int 0)]) (st2 := []) rfl rfl ?_
    refine mB hT 11 rfl ?_
    exact hR _ (by decide) _ _ _ (congrArg (fun z => [Value.int z]) (if_neg h1).symm) rfl
set_option maxRecDepth 20000 in
theorem c_tableCell_6_3_1 {n vs : Int32} {be de : Int64} {sz : Int32} {ro co mi : Nat → Int64} {T : Nat → Nat → Int64} {B : Nat → Nat → Nat → Int32} {hd : Nat → Nat → Int32} {df : Nat → Int32} : KX0_tableCell l D ca ad [.ref 10, .int 3, .int 1] (XW n vs be de sz ro co mi T B hd df) (some (.int (cellX (B 6 1) 1 3))) (XW n vs be de sz ro co mi T B hd df) := by
  refine PX0_tableCell (Nat.le_of_ble_eq_true rfl) ?_
  intro G hT hC hR
  refine mB hT 21 rfl ?_
  refine mIf (fun h1 => ?_) (fun h1 => ?_)
  · refine mNf (lv2 := [(5, .int (B 6 1 7)), (4, .int 0), (3, .ref 13), (0, .ref 10), (1, .int 3), (2, .int 1)]) (st2 := []) rfl rfl ?_
    refine mB hT 9 rfl ?_
    exact hR _ (by decide) _ _ _ (congrArg (fun z => [Value.int z]) (if_pos h1).symm) rfl
  · refine mNf (lv2 := [(5, .int (B 6 1 7)), (4, .int 0), (3, .ref 13), (0, .ref 10), (1, .int 3), (2, .int 1)]) (st2 := []) rfl rfl ?_
    refine mB hT 11 rfl ?_
    exact hR _ (by decide) _ _ _ (congrArg (fun z => [Value.int z]) (if_neg h1).symm) rfl
set_option maxRecDepth 20000 in
theorem c_tableCell_6_3_2 {n vs : Int32} {be de : Int64} {sz : Int32} {ro co mi : Nat → Int64} {T : Nat → Nat → Int64} {B : Nat → Nat → Nat → Int32} {hd : Nat → Nat → Int32} {df : Nat → Int32} : KX0_tableCell l D ca ad [.ref 10, .int 3, .int 2] (XW n vs be de sz ro co mi T B hd df) (some (.int (cellX (B 6 2) 2 3))) (XW n vs be de sz ro co mi T B hd df) := by
  refine PX0_tableCell (Nat.le_of_ble_eq_true rfl) ?_
  intro G hT hC hR
  refine mB hT 21 rfl ?_
  refine mIf (fun h1 => ?_) (fun h1 => ?_)
  · refine mNf (lv2 := [(5, .int (B 6 2 7)), (4, .int 0), (3, .ref 14), (0, .ref 10), (1, .int 3), (2, .int 2)]) (st2 := []) rfl rfl ?_
    refine mB hT 9 rfl ?_
    exact hR _ (by decide) _ _ _ (congrArg (fun z => [Value.int z]) (if_pos h1).symm) rfl
  · refine mNf (lv2 := [(5, .int (B 6 2 7)), (4, .int 0), (3, .ref 14), (0, .ref 10), (1, .int 3), (2, .int 2)]) (st2 := []) rfl rfl ?_
    refine mB hT 11 rfl ?_
    exact hR _ (by decide) _ _ _ (congrArg (fun z => [Value.int z]) (if_neg h1).symm) rfl
set_option maxRecDepth 20000 in
theorem c_tableCell_6_3_3 {n vs : Int32} {be de : Int64} {sz : Int32} {ro co mi : Nat → Int64} {T : Nat → Nat → Int64} {B : Nat → Nat → Nat → Int32} {hd : Nat → Nat → Int32} {df : Nat → Int32} : KX0_tableCell l D ca ad [.ref 10, .int 3, .int 3] (XW n vs be de sz ro co mi T B hd df) (some (.int (cellX (B 6 3) 3 3))) (XW n vs be de sz ro co mi T B hd df) := by
  refine PX0_tableCell (Nat.le_of_ble_eq_true rfl) ?_
  intro G hT hC hR
  refine mB hT 24 rfl ?_
  refine mIf (fun h1 => ?_) (fun h1 => ?_)
  · refine mNf (lv2 := [(5, .int (B 6 3 7)), (4, .int (B 6 3 0)), (3, .ref 15), (0, .ref 10), (1, .int 3), (2, .int 3)]) (st2 := []) rfl rfl ?_
    refine mB hT 9 rfl ?_
    exact hR _ (by decide) _ _ _ (congrArg (fun z => [Value.int z]) (if_pos h1).symm) rfl
  · refine mNf (lv2 := [(5, .int (B 6 3 7)), (4, .int (B 6 3 0)), (3, .ref 15), (0, .ref 10), (1, .int 3), (2, .int 3)]) (st2 := []) rfl rfl ?_
    refine mB hT 11 rfl ?_
    exact hR _ (by decide) _ _ _ (congrArg (fun z => [Value.int z]) (if_neg h1).symm) rfl
set_option maxRecDepth 20000 in
theorem c_tableCell_7_0_0 {n vs : Int32} {be de : Int64} {sz : Int32} {ro co mi : Nat → Int64} {T : Nat → Nat → Int64} {B : Nat → Nat → Nat → Int32} {hd : Nat → Nat → Int32} {df : Nat → Int32} : KX0_tableCell l D ca ad [.ref 16, .int 0, .int 0] (XW n vs be de sz ro co mi T B hd df) (some (.int (cellX (B 7 0) 0 0))) (XW n vs be de sz ro co mi T B hd df) := by
  refine PX0_tableCell (Nat.le_of_ble_eq_true rfl) ?_
  intro G hT hC hR
  refine mB hT 24 rfl ?_
  refine mIf (fun h1 => ?_) (fun h1 => ?_)
  · refine mNf (lv2 := [(5, .int (B 7 0 4)), (4, .int (B 7 0 0)), (3, .ref 18), (0, .ref 16), (1, .int 0), (2, .int 0)]) (st2 := []) rfl rfl ?_
    refine mB hT 9 rfl ?_
    exact hR _ (by decide) _ _ _ (congrArg (fun z => [Value.int z]) (if_pos h1).symm) rfl
  · refine mNf (lv2 := [(5, .int (B 7 0 4)), (4, .int (B 7 0 0)), (3, .ref 18), (0, .ref 16), (1, .int 0), (2, .int 0)]) (st2 := []) rfl rfl ?_
    refine mB hT 11 rfl ?_
    exact hR _ (by decide) _ _ _ (congrArg (fun z => [Value.int z]) (if_neg h1).symm) rfl
set_option maxRecDepth 20000 in
theorem c_tableCell_7_0_1 {n vs : Int32} {be de : Int64} {sz : Int32} {ro co mi : Nat → Int64} {T : Nat → Nat → Int64} {B : Nat → Nat → Nat → Int32} {hd : Nat → Nat → Int32} {df : Nat → Int32} : KX0_tableCell l D ca ad [.ref 16, .int 0, .int 1] (XW n vs be de sz ro co mi T B hd df) (some (.int (cellX (B 7 1) 1 0))) (XW n vs be de sz ro co mi T B hd df) := by
  refine PX0_tableCell (Nat.le_of_ble_eq_true rfl) ?_
  intro G hT hC hR
  refine mB hT 21 rfl ?_
  refine mIf (fun h1 => ?_) (fun h1 => ?_)
  · refine mNf (lv2 := [(5, .int (B 7 1 4)), (4, .int 0), (3, .ref 19), (0, .ref 16), (1, .int 0), (2, .int 1)]) (st2 := []) rfl rfl ?_
    refine mB hT 9 rfl ?_
    exact hR _ (by decide) _ _ _ (congrArg (fun z => [Value.int z]) (if_pos h1).symm) rfl
  · refine mNf (lv2 := [(5, .int (B 7 1 4)), (4, .int 0), (3, .ref 19), (0, .ref 16), (1, .int 0), (2, .int 1)]) (st2 := []) rfl rfl ?_
    refine mB hT 11 rfl ?_
    exact hR _ (by decide) _ _ _ (congrArg (fun z => [Value.int z]) (if_neg h1).symm) rfl
set_option maxRecDepth 20000 in
theorem c_tableCell_7_0_2 {n vs : Int32} {be de : Int64} {sz : Int32} {ro co mi : Nat → Int64} {T : Nat → Nat → Int64} {B : Nat → Nat → Nat → Int32} {hd : Nat → Nat → Int32} {df : Nat → Int32} : KX0_tableCell l D ca ad [.ref 16, .int 0, .int 2] (XW n vs be de sz ro co mi T B hd df) (some (.int (cellX (B 7 2) 2 0))) (XW n vs be de sz ro co mi T B hd df) := by
  refine PX0_tableCell (Nat.le_of_ble_eq_true rfl) ?_
  intro G hT hC hR
  refine mB hT 21 rfl ?_
  refine mIf (fun h1 => ?_) (fun h1 => ?_)
  · refine mNf (lv2 := [(5, .int (B 7 2 4)), (4, .int 0), (3, .ref 20), (0, .ref 16), (1, .int 0), (2, .int 2)]) (st2 := []) rfl rfl ?_
    refine mB hT 9 rfl ?_
    exact hR _ (by decide) _ _ _ (congrArg (fun z => [Value.int z]) (if_pos h1).symm) rfl
  · refine mNf (lv2 := [(5, .int (B 7 2 4)), (4, .int 0), (3, .ref 20), (0, .ref 16), (1, .int 0), (2, .int 2)]) (st2 := []) rfl rfl ?_
    refine mB hT 11 rfl ?_
    exact hR _ (by decide) _ _ _ (congrArg (fun z => [Value.int z]) (if_neg h1).symm) rfl
set_option maxRecDepth 20000 in
theorem c_tableCell_7_0_3 {n vs : Int32} {be de : Int64} {sz : Int32} {ro co mi : Nat → Int64} {T : Nat → Nat → Int64} {B : Nat → Nat → Nat → Int32} {hd : Nat → Nat → Int32} {df : Nat → Int32} : KX0_tableCell l D ca ad [.ref 16, .int 0, .int 3] (XW n vs be de sz ro co mi T B hd df) (some (.int (cellX (B 7 3) 3 0))) (XW n vs be de sz ro co mi T B hd df) := by
  refine PX0_tableCell (Nat.le_of_ble_eq_true rfl) ?_
  intro G hT hC hR
  refine mB hT 21 rfl ?_
  refine mIf (fun h1 => ?_) (fun h1 => ?_)
  · refine mNf (lv2 := [(5, .int (B 7 3 4)), (4, .int 0), (3, .ref 21), (0, .ref 16), (1, .int 0), (2, .int 3)]) (st2 := []) rfl rfl ?_
    refine mB hT 9 rfl ?_
    exact hR _ (by decide) _ _ _ (congrArg (fun z => [Value.int z]) (if_pos h1).symm) rfl
  · refine mNf (lv2 := [(5, .int (B 7 3 4)), (4, .int 0), (3, .ref 21), (0, .ref 16), (1, .int 0), (2, .int 3)]) (st2 := []) rfl rfl ?_
    refine mB hT 11 rfl ?_
    exact hR _ (by decide) _ _ _ (congrArg (fun z => [Value.int z]) (if_neg h1).symm) rfl
set_option maxRecDepth 20000 in
theorem c_tableCell_7_1_0 {n vs : Int32} {be de : Int64} {sz : Int32} {ro co mi : Nat → Int64} {T : Nat → Nat → Int64} {B : Nat → Nat → Nat → Int32} {hd : Nat → Nat → Int32} {df : Nat → Int32} : KX0_tableCell l D ca ad [.ref 16, .int 1, .int 0] (XW n vs be de sz ro co mi T B hd df) (some (.int (cellX (B 7 0) 0 1))) (XW n vs be de sz ro co mi T B hd df) := by
  refine PX0_tableCell (Nat.le_of_ble_eq_true rfl) ?_
  intro G hT hC hR
  refine mB hT 21 rfl ?_
  refine mIf (fun h1 => ?_) (fun h1 => ?_)
  · refine mNf (lv2 := [(5, .int (B 7 0 5)), (4, .int 0), (3, .ref 18), (0, .ref 16), (1, .int 1), (2, .int 0)]) (st2 := []) rfl rfl ?_
    refine mB hT 9 rfl ?_
    exact hR _ (by decide) _ _ _ (congrArg (fun z => [Value.int z]) (if_pos h1).symm) rfl
  · refine mNf (lv2 := [(5, .int (B 7 0 5)), (4, .int 0), (3, .ref 18), (0, .ref 16), (1, .int 1), (2, .int 0)]) (st2 := []) rfl rfl ?_
    refine mB hT 11 rfl ?_
    exact hR _ (by decide) _ _ _ (congrArg (fun z => [Value.int z]) (if_neg h1).symm) rfl
set_option maxRecDepth 20000 in
theorem c_tableCell_7_1_1 {n vs : Int32} {be de : Int64} {sz : Int32} {ro co mi : Nat → Int64} {T : Nat → Nat → Int64} {B : Nat → Nat → Nat → Int32} {hd : Nat → Nat → Int32} {df : Nat → Int32} : KX0_tableCell l D ca ad [.ref 16, .int 1, .int 1] (XW n vs be de sz ro co mi T B hd df) (some (.int (cellX (B 7 1) 1 1))) (XW n vs be de sz ro co mi T B hd df) := by
  refine PX0_tableCell (Nat.le_of_ble_eq_true rfl) ?_
  intro G hT hC hR
  refine mB hT 24 rfl ?_
  refine mIf (fun h1 => ?_) (fun h1 => ?_)
  · refine mNf (lv2 := [(5, .int (B 7 1 5)), (4, .int (B 7 1 0)), (3, .ref 19), (0, .ref 16), (1, .int 1), (2, .int 1)]) (st2 := []) rfl rfl ?_
    refine mB hT 9 rfl ?_
    exact hR _ (by decide) _ _ _ (congrArg (fun z => [Value.int z]) (if_pos h1).symm) rfl
  · refine mNf (lv2 := [(5, .int (B 7 1 5)), (4, .int (B 7 1 0)), (3, .ref 19), (0, .ref 16), (1, .int 1), (2, .int 1)]) (st2 := []) rfl rfl ?_
    refine mB hT 11 rfl ?_
    exact hR _ (by decide) _ _ _ (congrArg (fun z => [Value.int z]) (if_neg h1).symm) rfl
set_option maxRecDepth 20000 in
theorem c_tableCell_7_1_2 {n vs : Int32} {be de : Int64} {sz : Int32} {ro co mi : Nat → Int64} {T : Nat → Nat → Int64} {B : Nat → Nat → Nat → Int32} {hd : Nat → Nat → Int32} {df : Nat → Int32} : KX0_tableCell l D ca ad [.ref 16, .int 1, .int 2] (XW n vs be de sz ro co mi T B hd df) (some (.int (cellX (B 7 2) 2 1))) (XW n vs be de sz ro co mi T B hd df) := by
  refine PX0_tableCell (Nat.le_of_ble_eq_true rfl) ?_
  intro G hT hC hR
  refine mB hT 21 rfl ?_
  refine mIf (fun h1 => ?_) (fun h1 => ?_)
  · refine mNf (lv2 := [(5, .int (B 7 2 5)), (4, .int 0), (3, .ref 20), (0, .ref 16), (1, .int 1), (2, .int 2)]) (st2 := []) rfl rfl ?_
    refine mB hT 9 rfl ?_
    exact hR _ (by decide) _ _ _ (congrArg (fun z => [Value.int z]) (if_pos h1).symm) rfl
  · refine mNf (lv2 := [(5, .int (B 7 2 5)), (4, .int 0), (3, .ref 20), (0, .ref 16), (1, .int 1), (2, .int 2)]) (st2 := []) rfl rfl ?_
    refine mB hT 11 rfl ?_
    exact hR _ (by decide) _ _ _ (congrArg (fun z => [Value.int z]) (if_neg h1).symm) rfl
set_option maxRecDepth 20000 in
theorem c_tableCell_7_1_3 {n vs : Int32} {be de : Int64} {sz : Int32} {ro co mi : Nat → Int64} {T : Nat → Nat → Int64} {B : Nat → Nat → Nat → Int32} {hd : Nat → Nat → Int32} {df : Nat → Int32} : KX0_tableCell l D ca ad [.ref 16, .int 1, .int 3] (XW n vs be de sz ro co mi T B hd df) (some (.int (cellX (B 7 3) 3 1))) (XW n vs be de sz ro co mi T B hd df) := by
  refine PX0_tableCell (Nat.le_of_ble_eq_true rfl) ?_
  intro G hT hC hR
  refine mB hT 21 rfl ?_
  refine mIf (fun h1 => ?_) (fun h1 => ?_)
  · refine mNf (lv2 := [(5, .int (B 7 3 5)), (4, .int 0), (3, .ref 21), (0, .ref 16), (1, .int 1), (2, .int 3)]) (st2 := []) rfl rfl ?_
    refine mB hT 9 rfl ?_
    exact hR _ (by decide) _ _ _ (congrArg (fun z => [Value.int z]) (if_pos h1).symm) rfl
  · refine mNf (lv2 := [(5, .int (B 7 3 5)), (4, .int 0), (3, .ref 21), (0, .ref 16), (1, .int 1), (2, .int 3)]) (st2 := []) rfl rfl ?_
    refine mB hT 11 rfl ?_
    exact hR _ (by decide) _ _ _ (congrArg (fun z => [Value.int z]) (if_neg h1).symm) rfl
set_option maxRecDepth 20000 in
theorem c_tableCell_7_2_0 {n vs : Int32} {be de : Int64} {sz : Int32} {ro co mi : Nat → Int64} {T : Nat → Nat → Int64} {B : Nat → Nat → Nat → Int32} {hd : Nat → Nat → Int32} {df : Nat → Int32} : KX0_tableCell l D ca ad [.ref 16, .int 2, .int 0] (XW n vs be de sz ro co mi T B hd df) (some (.int (cellX (B 7 0) 0 2))) (XW n vs be de sz ro co mi T B hd df) := by
  refine PX0_tableCell (Nat.le_of_ble_eq_true rfl) ?_
  intro G hT hC hR
  refine mB hT 21 rfl ?_
  refine mIf (fun h1 => ?_) (fun h1 => ?_)
  · refine mNf (lv2 := [(5, .int (B 7 0 6)), (4, .int 0), (3, .ref 18), (0, .ref 16), (1, .int 2), (2, .int 0)]) (st2 := []) rfl rfl ?_
    refine mB hT 9 rfl ?_
    exact hR _ (by decide) _ _ _ (congrArg (fun z => [Value.int z]) (if_pos h1).symm) rfl
  · refine mNf (lv2 := [(5, .int (B 7 0 6)), (4, .int 0), (3, .ref 18), (0, .ref 16), (1, .int 2), (2, .int 0)]) (st2 := []) rfl rfl ?_
    refine mB hT 11 rfl ?_
    exact hR _ (by decide) _ _ _ (congrArg (fun z => [Value.int z]) (if_neg h1).symm) rfl
set_option maxRecDepth 20000 in
theorem c_tableCell_7_2_1 {n vs : Int32} {be de : Int64} {sz : Int32} {ro co mi : Nat → Int64} {T : Nat → Nat → Int64} {B : Nat → Nat → Nat → Int32} {hd : Nat → Nat → Int32} {df : Nat → Int32} : KX0_tableCell l D ca ad [.ref 16, .int 2, .int 1] (XW n vs be de sz ro co mi T B hd df) (some (.int (cellX (B 7 1) 1 2))) (XW n vs be de sz ro co mi T B hd df) := by
  refine PX0_tableCell (Nat.le_of_ble_eq_true rfl) ?_
  intro G hT hC hR
  refine mB hT 21 rfl ?_
  refine mIf (fun h1 => ?_) (fun h1 => ?_)
  · refine mNf (lv2 := [(5, .int (B 7 1 6)), (4, .int 0), (3, .ref 19), (0, .ref 16), (1, .int 2), (2, .int 1)]) (st2 := []) rfl rfl ?_
    refine mB hT 9 rfl ?_
    exact hR _ (by decide) _ _ _ (congrArg (fun z => [Value.int z]) (if_pos h1).symm) rfl
  · refine mNf (lv2 := [(5, .int (B 7 1 6)), (4, .int 0), (3, .ref 19), (0, .ref 16), (1, .int 2), (2, .int 1)]) (st2 := []) rfl rfl ?_
    refine mB hT 11 rfl ?_
    exact hR _ (by decide) _ _ _ (congrArg (fun z => [Value.int z]) (if_neg h1).symm) rfl
set_option maxRecDepth 20000 in
theorem c_tableCell_7_2_2 {n vs : Int32} {be de : Int64} {sz : Int32} {ro co mi : Nat → Int64} {T : Nat → Nat → Int64} {B : Nat → Nat → Nat → Int32} {hd : Nat → Nat → Int32} {df : Nat → Int32} : KX0_tableCell l D ca ad [.ref 16, .int 2, .int 2] (XW n vs be de sz ro co mi T B hd df) (some (.int (cellX (B 7 2) 2 2))) (XW n vs be de sz ro co mi T B hd df) := by
  refine PX0_tableCell (Nat.le_of_ble_eq_true rfl) ?_
  intro G hT hC hR
  refine mB hT 24 rfl ?_
  refine mIf (fun h1 => ?_) (fun h1 => ?_)
  · refine mNf (lv2 := [(5, .int (B 7 2 6)), (4, .int (B 7 2 0)), (3, .ref 20), (0, .ref 16), (1, .int 2), (2, .int 2)]) (st2 := []) rfl rfl ?_
    refine mB hT 9 rfl ?_
    exact hR _ (by decide) _ _ _ (congrArg (fun z => [Value.int z]) (if_pos h1).symm) rfl
  · refine mNf (lv2 := [(5, .int (B 7 2 6)), (4, .int (B 7 2 0)), (3, .ref 20), (0, .ref 16), (1, .int 2), (2, .int 2)]) (st2 := []) rfl rfl ?_
    refine mB hT 11 rfl ?_
    exact hR _ (by decide) _ _ _ (congrArg (fun z => [Value.int z]) (if_neg h1).symm) rfl
set_option maxRecDepth 20000 in
theorem c_tableCell_7_2_3 {n vs : Int32} {be de : Int64} {sz : Int32} {ro co mi : Nat → Int64} {T : Nat → Nat → Int64} {B : Nat → Nat → Nat → Int32} {hd : Nat → Nat → Int32} {df : Nat → Int32} : KX0_tableCell l D ca ad [.ref 16, .int 2, .int 3] (XW n vs be de sz ro co mi T B hd df) (some (.int (cellX (B 7 3) 3 2))) (XW n vs be de sz ro co mi T B hd df) := by
  refine PX0_tableCell (Nat.le_of_ble_eq_true rfl) ?_
  intro G hT hC hR
  refine mB hT 21 rfl ?_
  refine mIf (fun h1 => ?_) (fun h1 => ?_)
  · refine mNf (lv2 := [(5, .int (B 7 3 6)), (4, .int 0), (3, .ref 21), (0, .ref 16), (1, .int 2), (2, .int 3)]) (st2 := []) rfl rfl ?_
    refine mB hT 9 rfl ?_
    exact hR _ (by decide) _ _ _ (congrArg (fun z => [Value.int z]) (if_pos h1).symm) rfl
  · refine mNf (lv2 := [(5, .int (B 7 3 6)), (4, .int 0), (3, .ref 21), (0, .ref 16), (1, .int 2), (2, .int 3)]) (st2 := []) rfl rfl ?_
    refine mB hT 11 rfl ?_
    exact hR _ (by decide) _ _ _ (congrArg (fun z => [Value.int z]) (if_neg h1).symm) rfl
set_option maxRecDepth 20000 in
theorem c_tableCell_7_3_0 {n vs : Int32} {be de : Int64} {sz : Int32} {ro co mi : Nat → Int64} {T : Nat → Nat → Int64} {B : Nat → Nat → Nat → Int32} {hd : Nat → Nat → Int32} {df : Nat → Int32} : KX0_tableCell l D ca ad [.ref 16, .int 3, .int 0] (XW n vs be de sz ro co mi T B hd df) (some (.int (cellX (B 7 0) 0 3))) (XW n vs be de sz ro co mi T B hd df) := by
  refine PX0_tableCell (Nat.le_of_ble_eq_true rfl) ?_
  intro G hT hC hR
  refine mB hT 21 rfl ?_
  refine mIf (fun h1 => ?_) (fun h1 => ?_)
  · refine mNf (lv2 := [(5, .int (B 7 0 7)), (4, .int 0), (3, .ref 18), (0, .ref 16), (1, .int 3), (2, .int 0)]) (st2 := []) rfl rfl ?_
    refine mB hT 9 rfl ?_
    exact hR _ (by decide) _ _ _ (congrArg (fun z => [Value.int z]) (if_pos h1).symm) rfl
  · refine mNf (lv2 := [(5, .int (B 7 0 7)), (4, .int 0), (3, .ref 18), (0, .ref 16), (1, .int 3), (2, .int 0)]) (st2 := []) rfl rfl ?_
    refine mB hT 11 rfl ?_
    exact hR _ (by decide) _ _ _ (congrArg (fun z => [Value.int z]) (if_neg h1).symm) rfl
set_option maxRecDepth 20000 in
theorem c_tableCell_7_3_1 {n vs : Int32} {be de : Int64} {sz : Int32} {ro co mi : Nat → Int64} {T : Nat → Nat → Int64} {B : Nat → Nat → Nat → Int32} {hd : Nat → Nat → Int32} {df : Nat → Int32} : KX0_tableCell l D ca ad [.ref 16, .int 3, .int 1] (XW n vs be de sz ro co mi T B hd df) (some (.int (cellX (B 7 1) 1 3))) (XW n vs be de sz ro co mi T B hd df) := by
  refine PX0_tableCell (Nat.le_of_ble_eq_true rfl) ?_
  intro G hT hC hR
  refine mB hT 21 rfl ?_
  refine mIf (fun h1 => ?_) (fun h1 => ?_)
  · refine mNf (lv2 := [(5, .int (B 7 1 7)), (4, .int 0), (3, .ref 19), (0, .ref 16), (1, .int 3), (2, .int 1)]) (st2 := []) rfl rfl ?_
    refine mB hT 9 rfl ?_
    exact hR _ (by decide) _ _ _ (congrArg (fun z => [Value.int z]) (if_pos h1).symm) rfl
  · refine mNf (lv2 := [(5, .int (B 7 1 7)), (4, .int 0), (3, .ref 19), (0, .ref 16), (1, .int 3), (2, .int 1)]) (st2 := []) rfl rfl ?_
    refine mB hT 11 rfl ?_
    exact hR _ (by decide) _ _ _ (congrArg (fun z => [Value.int z]) (if_neg h1).symm) rfl
set_option maxRecDepth 20000 in
theorem c_tableCell_7_3_2 {n vs : Int32} {be de : Int64} {sz : Int32} {ro co mi : Nat → Int64} {T : Nat → Nat → Int64} {B : Nat → Nat → Nat → Int32} {hd : Nat → Nat → Int32} {df : Nat → Int32} : KX0_tableCell l D ca ad [.ref 16, .int 3, .int 2] (XW n vs be de sz ro co mi T B hd df) (some (.int (cellX (B 7 2) 2 3))) (XW n vs be de sz ro co mi T B hd df) := by
  refine PX0_tableCell (Nat.le_of_ble_eq_true rfl) ?_
  intro G hT hC hR
  refine mB hT 21 rfl ?_
  refine mIf (fun h1 => ?_) (fun h1 => ?_)
  · refine mNf (lv2 := [(5, .int (B 7 2 7)), (4, .int 0), (3, .ref 20), (0, .ref 16), (1, .int 3), (2, .int 2)]) (st2 := []) rfl rfl ?_
    refine mB hT 9 rfl ?_
    exact hR _ (by decide) _ _ _ (congrArg (fun z => [Value.int z]) (if_pos h1).symm) rfl
  · refine mNf (lv2 := [(5, .int (B 7 2 7)), (4, .int 0), (3, .ref 20), (0, .ref 16), (1, .int 3), (2, .int 2)]) (st2 := []) rfl rfl ?_
    refine mB hT 11 rfl ?_
    exact hR _ (by decide) _ _ _ (congrArg (fun z => [Value.int z]) (if_neg h1).symm) rfl
set_option maxRecDepth 20000 in
theorem c_tableCell_7_3_3 {n vs : Int32} {be de : Int64} {sz : Int32} {ro co mi : Nat → Int64} {T : Nat → Nat → Int64} {B : Nat → Nat → Nat → Int32} {hd : Nat → Nat → Int32} {df : Nat → Int32} : KX0_tableCell l D ca ad [.ref 16, .int 3, .int 3] (XW n vs be de sz ro co mi T B hd df) (some (.int (cellX (B 7 3) 3 3))) (XW n vs be de sz ro co mi T B hd df) := by
  refine PX0_tableCell (Nat.le_of_ble_eq_true rfl) ?_
  intro G hT hC hR
  refine mB hT 24 rfl ?_
  refine mIf (fun h1 => ?_) (fun h1 => ?_)
  · refine mNf (lv2 := [(5, .int (B 7 3 7)), (4, .int (B 7 3 0)), (3, .ref 21), (0, .ref 16), (1, .int 3), (2, .int 3)]) (st2 := []) rfl rfl ?_
    refine mB hT 9 rfl ?_
    exact hR _ (by decide) _ _ _ (congrArg (fun z => [Value.int z]) (if_pos h1).symm) rfl
  · refine mNf (lv2 := [(5, .int (B 7 3 7)), (4, .int (B 7 3 0)), (3, .ref 21), (0, .ref 16), (1, .int 3), (2, .int 3)]) (st2 := []) rfl rfl ?_
    refine mB hT 11 rfl ?_
    exact hR _ (by decide) _ _ _ (congrArg (fun z => [Value.int z]) (if_neg h1).symm) rfl
end
