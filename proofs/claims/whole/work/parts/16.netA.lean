section
variable {l : Launch} {D : va_G} {ca : Nat → ClassId} {ad : Nat → Nat}

set_option maxRecDepth 20000 in
theorem c_minorOf_1_1 {n vs : Int32} {be de : Int64} {ro co mi : Nat → Int64} {T : Nat → Nat → Int64} {B : Nat → Nat → Nat → Int32} {hd : Nat → Nat → Int32} {df : Nat → Int32} : KX1_minorOf l D ca ad [.ref 1, .int 1] (XW n vs be de 1 ro co mi T B hd df) (some (.long (0 + ((T 0 0) * (mi 0))))) (XW n vs be de 1 ro co mi T B hd df) := by
  refine PX1_minorOf (Nat.le_of_ble_eq_true rfl) ?_
  intro G hT hC hR
  refine mB hT 1 rfl ?_
  refine hC.1 _ [_] _ _ _ _ (c_bitCount_1) rfl (Nat.le_of_ble_eq_true rfl) rfl ?_
  refine mB hT 39 rfl ?_
  refine mNf (lv2 := [(6, .long ((T 0 0) * (mi 0))), (5, .int 0), (3, .long 0), (2, .int 0), (0, .ref 1), (1, .int 1)]) (st2 := [.int 0]) rfl rfl ?_
  refine hC.2 _ [_] _ _ _ _ (c_bitCount_0) rfl (Nat.le_of_ble_eq_true rfl) rfl ?_
  refine mB hT 20 rfl ?_
  exact hR _ (by decide) _ _ _ rfl rfl
set_option maxRecDepth 20000 in
theorem c_minorOf_2_1 {n vs : Int32} {be de : Int64} {ro co mi : Nat → Int64} {T : Nat → Nat → Int64} {B : Nat → Nat → Nat → Int32} {hd : Nat → Nat → Int32} {df : Nat → Int32} : KX1_minorOf l D ca ad [.ref 1, .int 1] (XW n vs be de 2 ro co mi T B hd df) (some (.long (0 + ((T 0 0) * (mi 0))))) (XW n vs be de 2 ro co mi T B hd df) := by
  refine PX1_minorOf (Nat.le_of_ble_eq_true rfl) ?_
  intro G hT hC hR
  refine mB hT 1 rfl ?_
  refine hC.1 _ [_] _ _ _ _ (c_bitCount_1) rfl (Nat.le_of_ble_eq_true rfl) rfl ?_
  refine mB hT 39 rfl ?_
  refine mNf (lv2 := [(6, .long ((T 0 0) * (mi 0))), (5, .int 0), (3, .long 0), (2, .int 0), (0, .ref 1), (1, .int 1)]) (st2 := [.int 0]) rfl rfl ?_
  refine hC.2 _ [_] _ _ _ _ (c_bitCount_0) rfl (Nat.le_of_ble_eq_true rfl) rfl ?_
  refine mB hT 33 rfl ?_
  exact hR _ (by decide) _ _ _ rfl rfl
set_option maxRecDepth 20000 in
theorem c_minorOf_2_2 {n vs : Int32} {be de : Int64} {ro co mi : Nat → Int64} {T : Nat → Nat → Int64} {B : Nat → Nat → Nat → Int32} {hd : Nat → Nat → Int32} {df : Nat → Int32} : KX1_minorOf l D ca ad [.ref 1, .int 2] (XW n vs be de 2 ro co mi T B hd df) (some (.long (0 + ((T 0 1) * (mi 0))))) (XW n vs be de 2 ro co mi T B hd df) := by
  refine PX1_minorOf (Nat.le_of_ble_eq_true rfl) ?_
  intro G hT hC hR
  refine mB hT 1 rfl ?_
  refine hC.1 _ [_] _ _ _ _ (c_bitCount_2) rfl (Nat.le_of_ble_eq_true rfl) rfl ?_
  refine mB hT 40 rfl ?_
  refine mNf (lv2 := [(5, .int 1), (3, .long 0), (2, .int 0), (0, .ref 1), (1, .int 2)]) (st2 := [.int 2, .ref 9, .long (T 0 1)]) rfl rfl ?_
  refine mB hT 12 rfl ?_
  refine hC.2 _ [_] _ _ _ _ (c_bitCount_0) rfl (Nat.le_of_ble_eq_true rfl) rfl ?_
  refine mB hT 20 rfl ?_
  exact hR _ (by decide) _ _ _ rfl rfl
set_option maxRecDepth 20000 in
theorem c_minorOf_2_3 {n vs : Int32} {be de : Int64} {ro co mi : Nat → Int64} {T : Nat → Nat → Int64} {B : Nat → Nat → Nat → Int32} {hd : Nat → Nat → Int32} {df : Nat → Int32} : KX1_minorOf l D ca ad [.ref 1, .int 3] (XW n vs be de 2 ro co mi T B hd df) (some (.long ((0 + (-((T 1 0) * (mi 2)))) + ((T 1 1) * (mi 1))))) (XW n vs be de 2 ro co mi T B hd df) := by
  refine PX1_minorOf (Nat.le_of_ble_eq_true rfl) ?_
  intro G hT hC hR
  refine mB hT 1 rfl ?_
  refine hC.1 _ [_] _ _ _ _ (c_bitCount_3) rfl (Nat.le_of_ble_eq_true rfl) rfl ?_
  refine mB hT 39 rfl ?_
  refine mNf (lv2 := [(6, .long ((T 1 0) * (mi 2))), (5, .int 0), (3, .long 0), (2, .int 1), (0, .ref 1), (1, .int 3)]) (st2 := [.int 1]) rfl rfl ?_
  refine hC.2 _ [_] _ _ _ _ (c_bitCount_1) rfl (Nat.le_of_ble_eq_true rfl) rfl ?_
  refine mB hT 40 rfl ?_
  refine mNf (lv2 := [(5, .int 1), (3, .long (0 + (-((T 1 0) * (mi 2))))), (8, .int 0), (6, .long ((T 1 0) * (mi 2))), (2, .int 1), (0, .ref 1), (1, .int 3)]) (st2 := [.long ((T 1 1) * (mi 1))]) rfl rfl ?_
  refine mB hT 6 rfl ?_
  refine hC.2 _ [_] _ _ _ _ (c_bitCount_0) rfl (Nat.le_of_ble_eq_true rfl) rfl ?_
  refine mB hT 20 rfl ?_
  exact hR _ (by decide) _ _ _ rfl rfl
set_option maxRecDepth 20000 in
theorem c_minorOf_3_1 {n vs : Int32} {be de : Int64} {ro co mi : Nat → Int64} {T : Nat → Nat → Int64} {B : Nat → Nat → Nat → Int32} {hd : Nat → Nat → Int32} {df : Nat → Int32} : KX1_minorOf l D ca ad [.ref 1, .int 1] (XW n vs be de 3 ro co mi T B hd df) (some (.long (0 + ((T 0 0) * (mi 0))))) (XW n vs be de 3 ro co mi T B hd df) := by
  refine PX1_minorOf (Nat.le_of_ble_eq_true rfl) ?_
  intro G hT hC hR
  refine mB hT 1 rfl ?_
  refine hC.1 _ [_] _ _ _ _ (c_bitCount_1) rfl (Nat.le_of_ble_eq_true rfl) rfl ?_
  refine mB hT 39 rfl ?_
  refine mNf (lv2 := [(6, .long ((T 0 0) * (mi 0))), (5, .int 0), (3, .long 0), (2, .int 0), (0, .ref 1), (1, .int 1)]) (st2 := [.int 0]) rfl rfl ?_
  refine hC.2 _ [_] _ _ _ _ (c_bitCount_0) rfl (Nat.le_of_ble_eq_true rfl) rfl ?_
  refine mB hT 40 rfl ?_
  refine mNf (lv2 := [(5, .int 3), (3, .long (0 + ((T 0 0) * (mi 0)))), (8, .int 1), (6, .long ((T 0 0) * (mi 0))), (2, .int 0), (0, .ref 1), (1, .int 1)]) (st2 := []) rfl rfl ?_
  refine mB hT 6 rfl ?_
  exact hR _ (by decide) _ _ _ rfl rfl
set_option maxRecDepth 20000 in
theorem c_minorOf_3_2 {n vs : Int32} {be de : Int64} {ro co mi : Nat → Int64} {T : Nat → Nat → Int64} {B : Nat → Nat → Nat → Int32} {hd : Nat → Nat → Int32} {df : Nat → Int32} : KX1_minorOf l D ca ad [.ref 1, .int 2] (XW n vs be de 3 ro co mi T B hd df) (some (.long (0 + ((T 0 1) * (mi 0))))) (XW n vs be de 3 ro co mi T B hd df) := by
  refine PX1_minorOf (Nat.le_of_ble_eq_true rfl) ?_
  intro G hT hC hR
  refine mB hT 1 rfl ?_
  refine hC.1 _ [_] _ _ _ _ (c_bitCount_2) rfl (Nat.le_of_ble_eq_true rfl) rfl ?_
  refine mB hT 40 rfl ?_
  refine mNf (lv2 := [(5, .int 1), (3, .long 0), (2, .int 0), (0, .ref 1), (1, .int 2)]) (st2 := [.int 2, .ref 9, .long (T 0 1)]) rfl rfl ?_
  refine mB hT 12 rfl ?_
  refine hC.2 _ [_] _ _ _ _ (c_bitCount_0) rfl (Nat.le_of_ble_eq_true rfl) rfl ?_
  refine mB hT 33 rfl ?_
  exact hR _ (by decide) _ _ _ rfl rfl
set_option maxRecDepth 20000 in
theorem c_minorOf_3_3 {n vs : Int32} {be de : Int64} {ro co mi : Nat → Int64} {T : Nat → Nat → Int64} {B : Nat → Nat → Nat → Int32} {hd : Nat → Nat → Int32} {df : Nat → Int32} : KX1_minorOf l D ca ad [.ref 1, .int 3] (XW n vs be de 3 ro co mi T B hd df) (some (.long ((0 + (-((T 1 0) * (mi 2)))) + ((T 1 1) * (mi 1))))) (XW n vs be de 3 ro co mi T B hd df) := by
  refine PX1_minorOf (Nat.le_of_ble_eq_true rfl) ?_
  intro G hT hC hR
  refine mB hT 1 rfl ?_
  refine hC.1 _ [_] _ _ _ _ (c_bitCount_3) rfl (Nat.le_of_ble_eq_true rfl) rfl ?_
  refine mB hT 39 rfl ?_
  refine mNf (lv2 := [(6, .long ((T 1 0) * (mi 2))), (5, .int 0), (3, .long 0), (2, .int 1), (0, .ref 1), (1, .int 3)]) (st2 := [.int 1]) rfl rfl ?_
  refine hC.2 _ [_] _ _ _ _ (c_bitCount_1) rfl (Nat.le_of_ble_eq_true rfl) rfl ?_
  refine mB hT 40 rfl ?_
  refine mNf (lv2 := [(5, .int 1), (3, .long (0 + (-((T 1 0) * (mi 2))))), (8, .int 0), (6, .long ((T 1 0) * (mi 2))), (2, .int 1), (0, .ref 1), (1, .int 3)]) (st2 := [.long ((T 1 1) * (mi 1))]) rfl rfl ?_
  refine mB hT 6 rfl ?_
  refine hC.2 _ [_] _ _ _ _ (c_bitCount_0) rfl (Nat.le_of_ble_eq_true rfl) rfl ?_
  refine mB hT 33 rfl ?_
  exact hR _ (by decide) _ _ _ rfl rfl
set_option maxRecDepth 20000 in
theorem c_minorOf_3_4 {n vs : Int32} {be de : Int64} {ro co mi : Nat → Int64} {T : Nat → Nat → Int64} {B : Nat → Nat → Nat → Int32} {hd : Nat → Nat → Int32} {df : Nat → Int32} : KX1_minorOf l D ca ad [.ref 1, .int 4] (XW n vs be de 3 ro co mi T B hd df) (some (.long (0 + ((T 0 2) * (mi 0))))) (XW n vs be de 3 ro co mi T B hd df) := by
  refine PX1_minorOf (Nat.le_of_ble_eq_true rfl) ?_
  intro G hT hC hR
  refine mB hT 1 rfl ?_
  refine hC.1 _ [_] _ _ _ _ (c_bitCount_4) rfl (Nat.le_of_ble_eq_true rfl) rfl ?_
  refine mB hT 40 rfl ?_
  refine mNf (lv2 := [(5, .int 2), (3, .long 0), (2, .int 0), (0, .ref 1), (1, .int 4)]) (st2 := [.int 1]) rfl rfl ?_
  refine mB hT 25 rfl ?_
  refine hC.2 _ [_] _ _ _ _ (c_bitCount_0) rfl (Nat.le_of_ble_eq_true rfl) rfl ?_
  refine mB hT 20 rfl ?_
  exact hR _ (by decide) _ _ _ rfl rfl
set_option maxRecDepth 20000 in
theorem c_minorOf_3_5 {n vs : Int32} {be de : Int64} {ro co mi : Nat → Int64} {T : Nat → Nat → Int64} {B : Nat → Nat → Nat → Int32} {hd : Nat → Nat → Int32} {df : Nat → Int32} : KX1_minorOf l D ca ad [.ref 1, .int 5] (XW n vs be de 3 ro co mi T B hd df) (some (.long ((0 + (-((T 1 0) * (mi 4)))) + ((T 1 2) * (mi 1))))) (XW n vs be de 3 ro co mi T B hd df) := by
  refine PX1_minorOf (Nat.le_of_ble_eq_true rfl) ?_
  intro G hT hC hR
  refine mB hT 1 rfl ?_
  refine hC.1 _ [_] _ _ _ _ (c_bitCount_5) rfl (Nat.le_of_ble_eq_true rfl) rfl ?_
  refine mB hT 39 rfl ?_
  refine mNf (lv2 := [(6, .long ((T 1 0) * (mi 4))), (5, .int 0), (3, .long 0), (2, .int 1), (0, .ref 1), (1, .int 5)]) (st2 := [.int 2]) rfl rfl ?_
  refine hC.2 _ [_] _ _ _ _ (c_bitCount_2) rfl (Nat.le_of_ble_eq_true rfl) rfl ?_
  refine mB hT 40 rfl ?_
  refine mNf (lv2 := [(5, .int 2), (3, .long (0 + (-((T 1 0) * (mi 4))))), (8, .int 0), (6, .long ((T 1 0) * (mi 4))), (2, .int 1), (0, .ref 1), (1, .int 5)]) (st2 := [.ref 3]) rfl rfl ?_
  refine mB hT 19 rfl ?_
  refine hC.2 _ [_] _ _ _ _ (c_bitCount_0) rfl (Nat.le_of_ble_eq_true rfl) rfl ?_
  refine mB hT 20 rfl ?_
  exact hR _ (by decide) _ _ _ rfl rfl
set_option maxRecDepth 20000 in
theorem c_minorOf_3_6 {n vs : Int32} {be de : Int64} {ro co mi : Nat → Int64} {T : Nat → Nat → Int64} {B : Nat → Nat → Nat → Int32} {hd : Nat → Nat → Int32} {df : Nat → Int32} : KX1_minorOf l D ca ad [.ref 1, .int 6] (XW n vs be de 3 ro co mi T B hd df) (some (.long ((0 + (-((T 1 1) * (mi 4)))) + ((T 1 2) * (mi 2))))) (XW n vs be de 3 ro co mi T B hd df) := by
  refine PX1_minorOf (Nat.le_of_ble_eq_true rfl) ?_
  intro G hT hC hR
  refine mB hT 1 rfl ?_
  refine hC.1 _ [_] _ _ _ _ (c_bitCount_6) rfl (Nat.le_of_ble_eq_true rfl) rfl ?_
  refine mB hT 40 rfl ?_
  refine mNf (lv2 := [(5, .int 1), (3, .long 0), (2, .int 1), (0, .ref 1), (1, .int 6)]) (st2 := [.int 6, .ref 9, .long (T 1 1)]) rfl rfl ?_
  refine mB hT 12 rfl ?_
  refine hC.2 _ [_] _ _ _ _ (c_bitCount_1) rfl (Nat.le_of_ble_eq_true rfl) rfl ?_
  refine mB hT 40 rfl ?_
  refine mNf (lv2 := [(5, .int 2), (3, .long (0 + (-((T 1 1) * (mi 4))))), (8, .int 0), (6, .long ((T 1 1) * (mi 4))), (2, .int 1), (0, .ref 1), (1, .int 6)]) (st2 := [.long ((T 1 2) * (mi 2))]) rfl rfl ?_
  refine mB hT 6 rfl ?_
  refine hC.2 _ [_] _ _ _ _ (c_bitCount_0) rfl (Nat.le_of_ble_eq_true rfl) rfl ?_
  refine mB hT 20 rfl ?_
  exact hR _ (by decide) _ _ _ rfl rfl
set_option maxRecDepth 20000 in
theorem c_minorOf_3_7 {n vs : Int32} {be de : Int64} {ro co mi : Nat → Int64} {T : Nat → Nat → Int64} {B : Nat → Nat → Nat → Int32} {hd : Nat → Nat → Int32} {df : Nat → Int32} : KX1_minorOf l D ca ad [.ref 1, .int 7] (XW n vs be de 3 ro co mi T B hd df) (some (.long (((0 + ((T 2 0) * (mi 6))) + (-((T 2 1) * (mi 5)))) + ((T 2 2) * (mi 3))))) (XW n vs be de 3 ro co mi T B hd df) := by
  refine PX1_minorOf (Nat.le_of_ble_eq_true rfl) ?_
  intro G hT hC hR
  refine mB hT 1 rfl ?_
  refine hC.1 _ [_] _ _ _ _ (c_bitCount_7) rfl (Nat.le_of_ble_eq_true rfl) rfl ?_
  refine mB hT 39 rfl ?_
  refine mNf (lv2 := [(6, .long ((T 2 0) * (mi 6))), (5, .int 0), (3, .long 0), (2, .int 2), (0, .ref 1), (1, .int 7)]) (st2 := [.int 3]) rfl rfl ?_
  refine hC.2 _ [_] _ _ _ _ (c_bitCount_3) rfl (Nat.le_of_ble_eq_true rfl) rfl ?_
  refine mB hT 40 rfl ?_
  refine mNf (lv2 := [(5, .int 1), (3, .long (0 + ((T 2 0) * (mi 6)))), (8, .int 1), (6, .long ((T 2 0) * (mi 6))), (2, .int 2), (0, .ref 1), (1, .int 7)]) (st2 := [.long (mi 5), .long (T 2 1)]) rfl rfl ?_
  refine mB hT 7 rfl ?_
  refine hC.2 _ [_] _ _ _ _ (c_bitCount_1) rfl (Nat.le_of_ble_eq_true rfl) rfl ?_
  refine mB hT 40 rfl ?_
  refine mNf (lv2 := [(5, .int 2), (3, .long ((0 + ((T 2 0) * (mi 6))) + (-((T 2 1) * (mi 5))))), (8, .int 0), (6, .long ((T 2 1) * (mi 5))), (2, .int 2), (0, .ref 1), (1, .int 7)]) (st2 := [.long ((T 2 2) * (mi 3))]) rfl rfl ?_
  refine mB hT 6 rfl ?_
  refine hC.2 _ [_] _ _ _ _ (c_bitCount_0) rfl (Nat.le_of_ble_eq_true rfl) rfl ?_
  refine mB hT 20 rfl ?_
  exact hR _ (by decide) _ _ _ rfl rfl
set_option maxRecDepth 20000 in
theorem c_minorOf_4_1 {n vs : Int32} {be de : Int64} {ro co mi : Nat → Int64} {T : Nat → Nat → Int64} {B : Nat → Nat → Nat → Int32} {hd : Nat → Nat → Int32} {df : Nat → Int32} : KX1_minorOf l D ca ad [.ref 1, .int 1] (XW n vs be de 4 ro co mi T B hd df) (some (.long (0 + ((T 0 0) * (mi 0))))) (XW n vs be de 4 ro co mi T B hd df) := by
  refine PX1_minorOf (Nat.le_of_ble_eq_true rfl) ?_
  intro G hT hC hR
  refine mB hT 1 rfl ?_
  refine hC.1 _ [_] _ _ _ _ (c_bitCount_1) rfl (Nat.le_of_ble_eq_true rfl) rfl ?_
  refine mB hT 39 rfl ?_
  refine mNf (lv2 := [(6, .long ((T 0 0) * (mi 0))), (5, .int 0), (3, .long 0), (2, .int 0), (0, .ref 1), (1, .int 1)]) (st2 := [.int 0]) rfl rfl ?_
  refine hC.2 _ [_] _ _ _ _ (c_bitCount_0) rfl (Nat.le_of_ble_eq_true rfl) rfl ?_
  refine mB hT 40 rfl ?_
  refine mNf (lv2 := [(5, .int 3), (3, .long (0 + ((T 0 0) * (mi 0)))), (8, .int 1), (6, .long ((T 0 0) * (mi 0))), (2, .int 0), (0, .ref 1), (1, .int 1)]) (st2 := []) rfl rfl ?_
  refine mB hT 19 rfl ?_
  exact hR _ (by decide) _ _ _ rfl rfl
set_option maxRecDepth 20000 in
theorem c_minorOf_4_2 {n vs : Int32} {be de : Int64} {ro co mi : Nat → Int64} {T : Nat → Nat → Int64} {B : Nat → Nat → Nat → Int32} {hd : Nat → Nat → Int32} {df : Nat → Int32} : KX1_minorOf l D ca ad [.ref 1, .int 2] (XW n vs be de 4 ro co mi T B hd df) (some (.long (0 + ((T 0 1) * (mi 0))))) (XW n vs be de 4 ro co mi T B hd df) := by
  refine PX1_minorOf (Nat.le_of_ble_eq_true rfl) ?_
  intro G hT hC hR
  refine mB hT 1 rfl ?_
  refine hC.1 _ [_] _ _ _ _ (c_bitCount_2) rfl (Nat.le_of_ble_eq_true rfl) rfl ?_
  refine mB hT 40 rfl ?_
  refine mNf (lv2 := [(5, .int 1), (3, .long 0), (2, .int 0), (0, .ref 1), (1, .int 2)]) (st2 := [.int 2, .ref 9, .long (T 0 1)]) rfl rfl ?_
  refine mB hT 12 rfl ?_
  refine hC.2 _ [_] _ _ _ _ (c_bitCount_0) rfl (Nat.le_of_ble_eq_true rfl) rfl ?_
  refine mB hT 40 rfl ?_
  refine mNf (lv2 := [(5, .int 4), (3, .long (0 + ((T 0 1) * (mi 0)))), (8, .int 1), (6, .long ((T 0 1) * (mi 0))), (2, .int 0), (0, .ref 1), (1, .int 2)]) (st2 := []) rfl rfl ?_
  refine mB hT 6 rfl ?_
  exact hR _ (by decide) _ _ _ rfl rfl
set_option maxRecDepth 20000 in
theorem c_minorOf_4_3 {n vs : Int32} {be de : Int64} {ro co mi : Nat → Int64} {T : Nat → Nat → Int64} {B : Nat → Nat → Nat → Int32} {hd : Nat → Nat → Int32} {df : Nat → Int32} : KX1_minorOf l D ca ad [.ref 1, .int 3] (XW n vs be de 4 ro co mi T B hd df) (some (.long ((0 + (-((T 1 0) * (mi 2)))) + ((T 1 1) * (mi 1))))) (XW n vs be de 4 ro co mi T B hd df) := by
  refine PX1_minorOf (Nat.le_of_ble_eq_true rfl) ?_
  intro G hT hC hR
  refine mB hT 1 rfl ?_
  refine hC.1 _ [_] _ _ _ _ (c_bitCount_3) rfl (Nat.le_of_ble_eq_true rfl) rfl ?_
  refine mB hT 39 rfl ?_
  refine mNf (lv2 := [(6, .long ((T 1 0) * (mi 2))), (5, .int 0), (3, .long 0), (2, .int 1), (0, .ref 1), (1, .int 3)]) (st2 := [.int 1]) rfl rfl ?_
  refine hC.2 _ [_] _ _ _ _ (c_bitCount_1) rfl (Nat.le_of_ble_eq_true rfl) rfl ?_
  refine mB hT 40 rfl ?_
  refine mNf (lv2 := [(5, .int 1), (3, .long (0 + (-((T 1 0) * (mi 2))))), (8, .int 0), (6, .long ((T 1 0) * (mi 2))), (2, .int 1), (0, .ref 1), (1, .int 3)]) (st2 := [.long ((T 1 1) * (mi 1))]) rfl rfl ?_
  refine mB hT 6 rfl ?_
  refine hC.2 _ [_] _ _ _ _ (c_bitCount_0) rfl (Nat.le_of_ble_eq_true rfl) rfl ?_
  refine mB hT 40 rfl ?_
  refine mNf (lv2 := [(5, .int 4), (3, .long ((0 + (-((T 1 0) * (mi 2)))) + ((T 1 1) * (mi 1)))), (8, .int 1), (6, .long ((T 1 1) * (mi 1))), (2, .int 1), (0, .ref 1), (1, .int 3)]) (st2 := []) rfl rfl ?_
  refine mB hT 6 rfl ?_
  exact hR _ (by decide) _ _ _ rfl rfl
set_option maxRecDepth 20000 in
theorem c_minorOf_4_4 {n vs : Int32} {be de : Int64} {ro co mi : Nat → Int64} {T : Nat → Nat → Int64} {B : Nat → Nat → Nat → Int32} {hd : Nat → Nat → Int32} {df : Nat → Int32} : KX1_minorOf l D ca ad [.ref 1, .int 4] (XW n vs be de 4 ro co mi T B hd df) (some (.long (0 + ((T 0 2) * (mi 0))))) (XW n vs be de 4 ro co mi T B hd df) := by
  refine PX1_minorOf (Nat.le_of_ble_eq_true rfl) ?_
  intro G hT hC hR
  refine mB hT 1 rfl ?_
  refine hC.1 _ [_] _ _ _ _ (c_bitCount_4) rfl (Nat.le_of_ble_eq_true rfl) rfl ?_
  refine mB hT 40 rfl ?_
  refine mNf (lv2 := [(5, .int 2), (3, .long 0), (2, .int 0), (0, .ref 1), (1, .int 4)]) (st2 := [.int 1]) rfl rfl ?_
  refine mB hT 25 rfl ?_
  refine hC.2 _ [_] _ _ _ _ (c_bitCount_0) rfl (Nat.le_of_ble_eq_true rfl) rfl ?_
  refine mB hT 33 rfl ?_
  exact hR _ (by decide) _ _ _ rfl rfl
set_option maxRecDepth 20000 in
theorem c_minorOf_4_5 {n vs : Int32} {be de : Int64} {ro co mi : Nat → Int64} {T : Nat → Nat → Int64} {B : Nat → Nat → Nat → Int32} {hd : Nat → Nat → Int32} {df : Nat → Int32} : KX1_minorOf l D ca ad [.ref 1, .int 5] (XW n vs be de 4 ro co mi T B hd df) (some (.long ((0 + (-((T 1 0) * (mi 4)))) + ((T 1 2) * (mi 1))))) (XW n vs be de 4 ro co mi T B hd df) := by
  refine PX1_minorOf (Nat.le_of_ble_eq_true rfl) ?_
  intro G hT hC hR
  refine mB hT 1 rfl ?_
  refine hC.1 _ [_] _ _ _ _ (c_bitCount_5) rfl (Nat.le_of_ble_eq_true rfl) rfl ?_
  refine mB hT 39 rfl ?_
  refine mNf (lv2 := [(6, .long ((T 1 0) * (mi 4))), (5, .int 0), (3, .long 0), (2, .int 1), (0, .ref 1), (1, .int 5)]) (st2 := [.int 2]) rfl rfl ?_
  refine hC.2 _ [_] _ _ _ _ (c_bitCount_2) rfl (Nat.le_of_ble_eq_true rfl) rfl ?_
  refine mB hT 40 rfl ?_
  refine mNf (lv2 := [(5, .int 2), (3, .long (0 + (-((T 1 0) * (mi 4))))), (8, .int 0), (6, .long ((T 1 0) * (mi 4))), (2, .int 1), (0, .ref 1), (1, .int 5)]) (st2 := [.ref 3]) rfl rfl ?_
  refine mB hT 19 rfl ?_
  refine hC.2 _ [_] _ _ _ _ (c_bitCount_0) rfl (Nat.le_of_ble_eq_true rfl) rfl ?_
  refine mB hT 33 rfl ?_
  exact hR _ (by decide) _ _ _ rfl rfl
set_option maxRecDepth 20000 in
theorem c_minorOf_4_6 {n vs : Int32} {be de : Int64} {ro co mi : Nat → Int64} {T : Nat → Nat → Int64} {B : Nat → Nat → Nat → Int32} {hd : Nat → Nat → Int32} {df : Nat → Int32} : KX1_minorOf l D ca ad [.ref 1, .int 6] (XW n vs be de 4 ro co mi T B hd df) (some (.long ((0 + (-((T 1 1) * (mi 4)))) + ((T 1 2) * (mi 2))))) (XW n vs be de 4 ro co mi T B hd df) := by
  refine PX1_minorOf (Nat.le_of_ble_eq_true rfl) ?_
  intro G hT hC hR
  refine mB hT 1 rfl ?_
  refine hC.1 _ [_] _ _ _ _ (c_bitCount_6) rfl (Nat.le_of_ble_eq_true rfl) rfl ?_
  refine mB hT 40 rfl ?_
  refine mNf (lv2 := [(5, .int 1), (3, .long 0), (2, .int 1), (0, .ref 1), (1, .int 6)]) (st2 := [.int 6, .ref 9, .long (T 1 1)]) rfl rfl ?_
  refine mB hT 12 rfl ?_
  refine hC.2 _ [_] _ _ _ _ (c_bitCount_1) rfl (Nat.le_of_ble_eq_true rfl) rfl ?_
  refine mB hT 40 rfl ?_
  refine mNf (lv2 := [(5, .int 2), (3, .long (0 + (-((T 1 1) * (mi 4))))), (8, .int 0), (6, .long ((T 1 1) * (mi 4))), (2, .int 1), (0, .ref 1), (1, .int 6)]) (st2 := [.long ((T 1 2) * (mi 2))]) rfl rfl ?_
  refine mB hT 6 rfl ?_
  refine hC.2 _ [_] _ _ _ _ (c_bitCount_0) rfl (Nat.le_of_ble_eq_true rfl) rfl ?_
  refine mB hT 33 rfl ?_
  exact hR _ (by decide) _ _ _ rfl rfl
set_option maxRecDepth 20000 in
theorem c_minorOf_4_7 {n vs : Int32} {be de : Int64} {ro co mi : Nat → Int64} {T : Nat → Nat → Int64} {B : Nat → Nat → Nat → Int32} {hd : Nat → Nat → Int32} {df : Nat → Int32} : KX1_minorOf l D ca ad [.ref 1, .int 7] (XW n vs be de 4 ro co mi T B hd df) (some (.long (((0 + ((T 2 0) * (mi 6))) + (-((T 2 1) * (mi 5)))) + ((T 2 2) * (mi 3))))) (XW n vs be de 4 ro co mi T B hd df) := by
  refine PX1_minorOf (Nat.le_of_ble_eq_true rfl) ?_
  intro G hT hC hR
  refine mB hT 1 rfl ?_
  refine hC.1 _ [_] _ _ _ _ (c_bitCount_7) rfl (Nat.le_of_ble_eq_true rfl) rfl ?_
  refine mB hT 39 rfl ?_
  refine mNf (lv2 := [(6, .long ((T 2 0) * (mi 6))), (5, .int 0), (3, .long 0), (2, .int 2), (0, .ref 1), (1, .int 7)]) (st2 := [.int 3]) rfl rfl ?_
  refine hC.2 _ [_] _ _ _ _ (c_bitCount_3) rfl (Nat.le_of_ble_eq_true rfl) rfl ?_
  refine mB hT 40 rfl ?_
  refine mNf (lv2 := [(5, .int 1), (3, .long (0 + ((T 2 0) * (mi 6)))), (8, .int 1), (6, .long ((T 2 0) * (mi 6))), (2, .int 2), (0, .ref 1), (1, .int 7)]) (st2 := [.long (mi 5), .long (T 2 1)]) rfl rfl ?_
  refine mB hT 7 rfl ?_
  refine hC.2 _ [_] _ _ _ _ (c_bitCount_1) rfl (Nat.le_of_ble_eq_true rfl) rfl ?_
  refine mB hT 40 rfl ?_
  refine mNf (lv2 := [(5, .int 2), (3, .long ((0 + ((T 2 0) * (mi 6))) + (-((T 2 1) * (mi 5))))), (8, .int 0), (6, .long ((T 2 1) * (mi 5))), (2, .int 2), (0, .ref 1), (1, .int 7)]) (st2 := [.long ((T 2 2) * (mi 3))]) rfl rfl ?_
  refine mB hT 6 rfl ?_
  refine hC.2 _ [_] _ _ _ _ (c_bitCount_0) rfl (Nat.le_of_ble_eq_true rfl) rfl ?_
  refine mB hT 33 rfl ?_
  exact hR _ (by decide) _ _ _ rfl rfl
set_option maxRecDepth 20000 in
theorem c_minorOf_4_8 {n vs : Int32} {be de : Int64} {ro co mi : Nat → Int64} {T : Nat → Nat → Int64} {B : Nat → Nat → Nat → Int32} {hd : Nat → Nat → Int32} {df : Nat → Int32} : KX1_minorOf l D ca ad [.ref 1, .int 8] (XW n vs be de 4 ro co mi T B hd df) (some (.long (0 + ((T 0 3) * (mi 0))))) (XW n vs be de 4 ro co mi T B hd df) := by
  refine PX1_minorOf (Nat.le_of_ble_eq_true rfl) ?_
  intro G hT hC hR
  refine mB hT 1 rfl ?_
  refine hC.1 _ [_] _ _ _ _ (c_bitCount_8) rfl (Nat.le_of_ble_eq_true rfl) rfl ?_
  refine mB hT 40 rfl ?_
  refine mNf (lv2 := [(5, .int 2), (3, .long 0), (2, .int 0), (0, .ref 1), (1, .int 8)]) (st2 := [.int 2]) rfl rfl ?_
  refine mB hT 38 rfl ?_
  refine mNf (lv2 := [(6, .long ((T 0 3) * (mi 0))), (5, .int 3), (3, .long 0), (2, .int 0), (0, .ref 1), (1, .int 8)]) (st2 := [.int 0]) rfl rfl ?_
  refine hC.2 _ [_] _ _ _ _ (c_bitCount_0) rfl (Nat.le_of_ble_eq_true rfl) rfl ?_
  refine mB hT 20 rfl ?_
  exact hR _ (by decide) _ _ _ rfl rfl
set_option maxRecDepth 20000 in
theorem c_minorOf_4_9 {n vs : Int32} {be de : Int64} {ro co mi : Nat → Int64} {T : Nat → Nat → Int64} {B : Nat → Nat → Nat → Int32} {hd : Nat → Nat → Int32} {df : Nat → Int32} : KX1_minorOf l D ca ad [.ref 1, .int 9] (XW n vs be de 4 ro co mi T B hd df) (some (.long ((0 + (-((T 1 0) * (mi 8)))) + ((T 1 3) * (mi 1))))) (XW n vs be de 4 ro co mi T B hd df) := by
  refine PX1_minorOf (Nat.le_of_ble_eq_true rfl) ?_
  intro G hT hC hR
  refine mB hT 1 rfl ?_
  refine hC.1 _ [_] _ _ _ _ (c_bitCount_9) rfl (Nat.le_of_ble_eq_true rfl) rfl ?_
  refine mB hT 39 rfl ?_
  refine mNf (lv2 := [(6, .long ((T 1 0) * (mi 8))), (5, .int 0), (3, .long 0), (2, .int 1), (0, .ref 1), (1, .int 9)]) (st2 := [.int 4]) rfl rfl ?_
  refine hC.2 _ [_] _ _ _ _ (c_bitCount_4) rfl (Nat.le_of_ble_eq_true rfl) rfl ?_
  refine mB hT 40 rfl ?_
  refine mNf (lv2 := [(5, .int 3), (3, .long (0 + (-((T 1 0) * (mi 8))))), (8, .int 0), (6, .long ((T 1 0) * (mi 8))), (2, .int 1), (0, .ref 1), (1, .int 9)]) (st2 := []) rfl rfl ?_
  refine mB hT 32 rfl ?_
  refine hC.2 _ [_] _ _ _ _ (c_bitCount_0) rfl (Nat.le_of_ble_eq_true rfl) rfl ?_
  refine mB hT 20 rfl ?_
  exact hR _ (by decide) _ _ _ rfl rfl
set_option maxRecDepth 20000 in
theorem c_minorOf_4_10 {n vs : Int32} {be de : Int64} {ro co mi : Nat → Int64} {T : Nat → Nat → Int64} {B : Nat → Nat → Nat → Int32} {hd : Nat → Nat → Int32} {df : Nat → Int32} : KX1_minorOf l D ca ad [.ref 1, .int 10] (XW n vs be de 4 ro co mi T B hd df) (some (.long ((0 + (-((T 1 1) * (mi 8)))) + ((T 1 3) * (mi 2))))) (XW n vs be de 4 ro co mi T B hd df) := by
  refine PX1_minorOf (Nat.le_of_ble_eq_true rfl) ?_
  intro G hT hC hR
  refine mB hT 1 rfl ?_
  refine hC.1 _ [_] _ _ _ _ (c_bitCount_10) rfl (Nat.le_of_ble_eq_true rfl) rfl ?_
  refine mB hT 40 rfl ?_
  refine mNf (lv2 := [(5, .int 1), (3, .long 0), (2, .int 1), (0, .ref 1), (1, .int 10)]) (st2 := [.int 10, .ref 9, .long (T 1 1)]) rfl rfl ?_
  refine mB hT 12 rfl ?_
  refine hC.2 _ [_] _ _ _ _ (c_bitCount_2) rfl (Nat.le_of_ble_eq_true rfl) rfl ?_
  refine mB hT 40 rfl ?_
  refine mNf (lv2 := [(5, .int 3), (3, .long (0 + (-((T 1 1) * (mi 8))))), (8, .int 0), (6, .long ((T 1 1) * (mi 8))), (2, .int 1), (0, .ref 1), (1, .int 10)]) (st2 := [.ref 3]) rfl rfl ?_
  refine mB hT 19 rfl ?_
  refine hC.2 _ [_] _ _ _ _ (c_bitCount_0) rfl (Nat.le_of_ble_eq_true rfl) rfl ?_
  refine mB hT 20 rfl ?_
  exact hR _ (by decide) _ _ _ rfl rfl
set_option maxRecDepth 20000 in
theorem c_minorOf_4_11 {n vs : Int32} {be de : Int64} {ro co mi : Nat → Int64} {T : Nat → Nat → Int64} {B : Nat → Nat → Nat → Int32} {hd : Nat → Nat → Int32} {df : Nat → Int32} : KX1_minorOf l D ca ad [.ref 1, .int 11] (XW n vs be de 4 ro co mi T B hd df) (some (.long (((0 + ((T 2 0) * (mi 10))) + (-((T 2 1) * (mi 9)))) + ((T 2 3) * (mi 3))))) (XW n vs be de 4 ro co mi T B hd df) := by
  refine PX1_minorOf (Nat.le_of_ble_eq_true rfl) ?_
  intro G hT hC hR
  refine mB hT 1 rfl ?_
  refine hC.1 _ [_] _ _ _ _ (c_bitCount_11) rfl (Nat.le_of_ble_eq_true rfl) rfl ?_
  refine mB hT 39 rfl ?_
  refine mNf (lv2 := [(6, .long ((T 2 0) * (mi 10))), (5, .int 0), (3, .long 0), (2, .int 2), (0, .ref 1), (1, .int 11)]) (st2 := [.int 5]) rfl rfl ?_
  refine hC.2 _ [_] _ _ _ _ (c_bitCount_5) rfl (Nat.le_of_ble_eq_true rfl) rfl ?_
  refine mB hT 40 rfl ?_
  refine mNf (lv2 := [(5, .int 1), (3, .long (0 + ((T 2 0) * (mi 10)))), (8, .int 1), (6, .long ((T 2 0) * (mi 10))), (2, .int 2), (0, .ref 1), (1, .int 11)]) (st2 := [.long (mi 9), .long (T 2 1)]) rfl rfl ?_
  refine mB hT 7 rfl ?_
  refine hC.2 _ [_] _ _ _ _ (c_bitCount_2) rfl (Nat.le_of_ble_eq_true rfl) rfl ?_
  refine mB hT 40 rfl ?_
  refine mNf (lv2 := [(5, .int 3), (3, .long ((0 + ((T 2 0) * (mi 10))) + (-((T 2 1) * (mi 9))))), (8, .int 0), (6, .long ((T 2 1) * (mi 9))), (2, .int 2), (0, .ref 1), (1, .int 11)]) (st2 := [.ref 3]) rfl rfl ?_
  refine mB hT 19 rfl ?_
  refine hC.2 _ [_] _ _ _ _ (c_bitCount_0) rfl (Nat.le_of_ble_eq_true rfl) rfl ?_
  refine mB hT 20 rfl ?_
  exact hR _ (by decide) _ _ _ rfl rfl
set_option maxRecDepth 20000 in
theorem c_minorOf_4_12 {n vs : Int32} {be de : Int64} {ro co mi : Nat → Int64} {T : Nat → Nat → Int64} {B : Nat → Nat → Nat → Int32} {hd : Nat → Nat → Int32} {df : Nat → Int32} : KX1_minorOf l D ca ad [.ref 1, .int 12] (XW n vs be de 4 ro co mi T B hd df) (some (.long ((0 + (-((T 1 2) * (mi 8)))) + ((T 1 3) * (mi 4))))) (XW n vs be de 4 ro co mi T B hd df) := by
  refine PX1_minorOf (Nat.le_of_ble_eq_true rfl) ?_
  intro G hT hC hR
  refine mB hT 1 rfl ?_
  refine hC.1 _ [_] _ _ _ _ (c_bitCount_12) rfl (Nat.le_of_ble_eq_true rfl) rfl ?_
  refine mB hT 40 rfl ?_
  refine mNf (lv2 := [(5, .int 2), (3, .long 0), (2, .int 1), (0, .ref 1), (1, .int 12)]) (st2 := [.int 3]) rfl rfl ?_
  refine mB hT 25 rfl ?_
  refine hC.2 _ [_] _ _ _ _ (c_bitCount_1) rfl (Nat.le_of_ble_eq_true rfl) rfl ?_
  refine mB hT 40 rfl ?_
  refine mNf (lv2 := [(5, .int 3), (3, .long (0 + (-((T 1 2) * (mi 8))))), (8, .int 0), (6, .long ((T 1 2) * (mi 8))), (2, .int 1), (0, .ref 1), (1, .int 12)]) (st2 := [.long ((T 1 3) * (mi 4))]) rfl rfl ?_
  refine mB hT 6 rfl ?_
  refine hC.2 _ [_] _ _ _ _ (c_bitCount_0) rfl (Nat.le_of_ble_eq_true rfl) rfl ?_
  refine mB hT 20 rfl ?_
  exact hR _ (by decide) _ _ _ rfl rfl
set_option maxRecDepth 20000 in
theorem c_minorOf_4_13 {n vs : Int32} {be de : Int64} {ro co mi : Nat → Int64} {T : Nat → Nat → Int64} {B : Nat → Nat → Nat → Int32} {hd : Nat → Nat → Int32} {df : Nat → Int32} : KX1_minorOf l D ca ad [.ref 1, .int 13] (XW n vs be de 4 ro co mi T B hd df) (some (.long (((0 + ((T 2 0) * (mi 12))) + (-((T 2 2) * (mi 9)))) + ((T 2 3) * (mi 5))))) (XW n vs be de 4 ro co mi T B hd df) := by
  refine PX1_minorOf (Nat.le_of_ble_eq_true rfl) ?_
  intro G hT hC hR
  refine mB hT 1 rfl ?_
  refine hC.1 _ [_] _ _ _ _ (c_bitCount_13) rfl (Nat.le_of_ble_eq_true rfl) rfl ?_
  refine mB hT 39 rfl ?_
  refine mNf (lv2 := [(6, .long ((T 2 0) * (mi 12))), (5, .int 0), (3, .long 0), (2, .int 2), (0, .ref 1), (1, .int 13)]) (st2 := [.int 6]) rfl rfl ?_
  refine hC.2 _ [_] _ _ _ _ (c_bitCount_6) rfl (Nat.le_of_ble_eq_true rfl) rfl ?_
  refine mB hT 40 rfl ?_
  refine mNf (lv2 := [(5, .int 2), (3, .long (0 + ((T 2 0) * (mi 12)))), (8, .int 1), (6, .long ((T 2 0) * (mi 12))), (2, .int 2), (0, .ref 1), (1, .int 13)]) (st2 := [.ref 1]) rfl rfl ?_
  refine mB hT 20 rfl ?_
  refine hC.2 _ [_] _ _ _ _ (c_bitCount_1) rfl (Nat.le_of_ble_eq_true rfl) rfl ?_
  refine mB hT 40 rfl ?_
  refine mNf (lv2 := [(5, .int 3), (3, .long ((0 + ((T 2 0) * (mi 12))) + (-((T 2 2) * (mi 9))))), (8, .int 0), (6, .long ((T 2 2) * (mi 9))), (2, .int 2), (0, .ref 1), (1, .int 13)]) (st2 := [.long ((T 2 3) * (mi 5))]) rfl rfl ?_
  refine mB hT 6 rfl ?_
  refine hC.2 _ [_] _ _ _ _ (c_bitCount_0) rfl (Nat.le_of_ble_eq_true rfl) rfl ?_
  refine mB hT 20 rfl ?_
  exact hR _ (by decide) _ _ _ rfl rfl
set_option maxRecDepth 20000 in
theorem c_minorOf_4_14 {n vs : Int32} {be de : Int64} {ro co mi : Nat → Int64} {T : Nat → Nat → Int64} {B : Nat → Nat → Nat → Int32} {hd : Nat → Nat → Int32} {df : Nat → Int32} : KX1_minorOf l D ca ad [.ref 1, .int 14] (XW n vs be de 4 ro co mi T B hd df) (some (.long (((0 + ((T 2 1) * (mi 12))) + (-((T 2 2) * (mi 10)))) + ((T 2 3) * (mi 6))))) (XW n vs be de 4 ro co mi T B hd df) := by
  refine PX1_minorOf (Nat.le_of_ble_eq_true rfl) ?_
  intro G hT hC hR
  refine mB hT 1 rfl ?_
  refine hC.1 _ [_] _ _ _ _ (c_bitCount_14) rfl (Nat.le_of_ble_eq_true rfl) rfl ?_
  refine mB hT 40 rfl ?_
  refine mNf (lv2 := [(5, .int 1), (3, .long 0), (2, .int 2), (0, .ref 1), (1, .int 14)]) (st2 := [.int 14, .ref 9, .long (T 2 1)]) rfl rfl ?_
  refine mB hT 12 rfl ?_
  refine hC.2 _ [_] _ _ _ _ (c_bitCount_3) rfl (Nat.le_of_ble_eq_true rfl) rfl ?_
  refine mB hT 40 rfl ?_
  refine mNf (lv2 := [(5, .int 2), (3, .long (0 + ((T 2 1) * (mi 12)))), (8, .int 1), (6, .long ((T 2 1) * (mi 12))), (2, .int 2), (0, .ref 1), (1, .int 14)]) (st2 := [.long (mi 10), .long (T 2 2)]) rfl rfl ?_
  refine mB hT 7 rfl ?_
  refine hC.2 _ [_] _ _ _ _ (c_bitCount_1) rfl (Nat.le_of_ble_eq_true rfl) rfl ?_
  refine mB hT 40 rfl ?_
  refine mNf (lv2 := [(5, .int 3), (3, .long ((0 + ((T 2 1) * (mi 12))) + (-((T 2 2) * (mi 10))))), (8, .int 0), (6, .long ((T 2 2) * (mi 10))), (2, .int 2), (0, .ref 1), (1, .int 14)]) (st2 := [.long ((T 2 3) * (mi 6))]) rfl rfl ?_
  refine mB hT 6 rfl ?_
  refine hC.2 _ [_] _ _ _ _ (c_bitCount_0) rfl (Nat.le_of_ble_eq_true rfl) rfl ?_
  refine mB hT 20 rfl ?_
  exact hR _ (by decide) _ _ _ rfl rfl
set_option maxRecDepth 20000 in
theorem c_minorOf_4_15 {n vs : Int32} {be de : Int64} {ro co mi : Nat → Int64} {T : Nat → Nat → Int64} {B : Nat → Nat → Nat → Int32} {hd : Nat → Nat → Int32} {df : Nat → Int32} : KX1_minorOf l D ca ad [.ref 1, .int 15] (XW n vs be de 4 ro co mi T B hd df) (some (.long ((((0 + (-((T 3 0) * (mi 14)))) + ((T 3 1) * (mi 13))) + (-((T 3 2) * (mi 11)))) + ((T 3 3) * (mi 7))))) (XW n vs be de 4 ro co mi T B hd df) := by
  refine PX1_minorOf (Nat.le_of_ble_eq_true rfl) ?_
  intro G hT hC hR
  refine mB hT 1 rfl ?_
  refine hC.1 _ [_] _ _ _ _ (c_bitCount_15) rfl (Nat.le_of_ble_eq_true rfl) rfl ?_
  refine mB hT 39 rfl ?_
  refine mNf (lv2 := [(6, .long ((T 3 0) * (mi 14))), (5, .int 0), (3, .long 0), (2, .int 3), (0, .ref 1), (1, .int 15)]) (st2 := [.int 7]) rfl rfl ?_
  refine hC.2 _ [_] _ _ _ _ (c_bitCount_7) rfl (Nat.le_of_ble_eq_true rfl) rfl ?_
  refine mB hT 40 rfl ?_
  refine mNf (lv2 := [(5, .int 1), (3, .long (0 + (-((T 3 0) * (mi 14))))), (8, .int 0), (6, .long ((T 3 0) * (mi 14))), (2, .int 3), (0, .ref 1), (1, .int 15)]) (st2 := [.long ((T 3 1) * (mi 13))]) rfl rfl ?_
  refine mB hT 6 rfl ?_
  refine hC.2 _ [_] _ _ _ _ (c_bitCount_3) rfl (Nat.le_of_ble_eq_true rfl) rfl ?_
  refine mB hT 40 rfl ?_
  refine mNf (lv2 := [(5, .int 2), (3, .long ((0 + (-((T 3 0) * (mi 14)))) + ((T 3 1) * (mi 13)))), (8, .int 1), (6, .long ((T 3 1) * (mi 13))), (2, .int 3), (0, .ref 1), (1, .int 15)]) (st2 := [.long (mi 11), .long (T 3 2)]) rfl rfl ?_
  refine mB hT 7 rfl ?_
  refine hC.2 _ [_] _ _ _ _ (c_bitCount_1) rfl (Nat.le_of_ble_eq_true rfl) rfl ?_
  refine mB hT 40 rfl ?_
  refine mNf (lv2 := [(5, .int 3), (3, .long (((0 + (-((T 3 0) * (mi 14)))) + ((T 3 1) * (mi 13))) + (-((T 3 2) * (mi 11))))), (8, .int 0), (6, .long ((T 3 2) * (mi 11))), (2, .int 3), (0, .ref 1), (1, .int 15)]) (st2 := [.long ((T 3 3) * (mi 7))]) rfl rfl ?_
  refine mB hT 6 rfl ?_
  refine hC.2 _ [_] _ _ _ _ (c_bitCount_0) rfl (Nat.le_of_ble_eq_true rfl) rfl ?_
  refine mB hT 20 rfl ?_
  exact hR _ (by decide) _ _ _ rfl rfl
set_option maxRecDepth 20000 in
theorem c_det_0 {n vs : Int32} {be de : Int64} {ro co mi : Nat → Int64} {T : Nat → Nat → Int64} {B : Nat → Nat → Nat → Int32} {hd : Nat → Nat → Int32} {df : Nat → Int32} : KX1_determinantOfTable l D ca ad [.ref 1] (XW n vs be de 0 ro co mi T B hd df) (some (.long (detX 0 T))) (XW n vs be de 0 ro co (miX 0 T mi) T B hd df) := by
  refine PX1_determinantOfTable (Nat.le_of_ble_eq_true rfl) ?_
  intro G hT hC hR
  refine mB hT 22 rfl ?_
  exact hR _ (by decide) _ _ _ rfl rfl
set_option maxRecDepth 20000 in
theorem c_det_1 {n vs : Int32} {be de : Int64} {ro co mi : Nat → Int64} {T : Nat → Nat → Int64} {B : Nat → Nat → Nat → Int32} {hd : Nat → Nat → Int32} {df : Nat → Int32} : KX1_determinantOfTable l D ca ad [.ref 1] (XW n vs be de 1 ro co mi T B hd df) (some (.long (detX 1 T))) (XW n vs be de 1 ro co (miX 1 T mi) T B hd df) := by
  refine PX1_determinantOfTable (Nat.le_of_ble_eq_true rfl) ?_
  intro G hT hC hR
  refine mB hT 18 rfl ?_
  refine mWd (w2 := (XW n vs be de 1 ro co (up mi 0 1) T B hd df)) rfl ?_
  refine hC _ 1 [_] _ _ _ _ _ (show KX1_minorOf l D ca ad _ _ (some (.long (mz1 T))) _ from c_minorOf_1_1) rfl rfl (Nat.le_of_ble_eq_true rfl) rfl ?_
  refine mB hT 18 rfl ?_
  exact hR _ (by decide) _ _ _ rfl rfl
set_option maxRecDepth 20000 in
theorem c_det_2 {n vs : Int32} {be de : Int64} {ro co mi : Nat → Int64} {T : Nat → Nat → Int64} {B : Nat → Nat → Nat → Int32} {hd : Nat → Nat → Int32} {df : Nat → Int32} : KX1_determinantOfTable l D ca ad [.ref 1] (XW n vs be de 2 ro co mi T B hd df) (some (.long (detX 2 T))) (XW n vs be de 2 ro co (miX 2 T mi) T B hd df) := by
  refine PX1_determinantOfTable (Nat.le_of_ble_eq_true rfl) ?_
  intro G hT hC hR
  refine mB hT 18 rfl ?_
  refine mWd (w2 := (XW n vs be de 2 ro co (up mi 0 1) T B hd df)) rfl ?_
  refine hC _ 1 [_] _ _ _ _ _ (show KX1_minorOf l D ca ad _ _ (some (.long (mz1 T))) _ from c_minorOf_2_1) rfl rfl (Nat.le_of_ble_eq_true rfl) rfl ?_
  refine mB hT 14 rfl ?_
  refine mNf (lv2 := [(1, .int 2), (0, .ref 1)]) (st2 := [.int 2, .ref 1, .int 2, .ref 9]) rfl rfl ?_
  refine mWd (w2 := (XW n vs be de 2 ro co (up (up mi 0 1) 1 (mz1 T)) T B hd df)) rfl ?_
  refine hC _ 1 [_] _ _ _ _ _ (show KX1_minorOf l D ca ad _ _ (some (.long (mz2 T))) _ from c_minorOf_2_2) rfl rfl (Nat.le_of_ble_eq_true rfl) rfl ?_
  refine mB hT 14 rfl ?_
  refine mWd (w2 := (XW n vs be de 2 ro co (up (up (up mi 0 1) 1 (mz1 T)) 2 (mz2 T)) T B hd df)) rfl ?_
  refine hC _ 1 [_] _ _ _ _ _ (show KX1_minorOf l D ca ad _ _ (some (.long (mz3 T))) _ from c_minorOf_2_3) rfl rfl (Nat.le_of_ble_eq_true rfl) rfl ?_
  refine mB hT 18 rfl ?_
  exact hR _ (by decide) _ _ _ rfl rfl
set_option maxRecDepth 20000 in
theorem c_det_3 {n vs : Int32} {be de : Int64} {ro co mi : Nat → Int64} {T : Nat → Nat → Int64} {B : Nat → Nat → Nat → Int32} {hd : Nat → Nat → Int32} {df : Nat → Int32} : KX1_determinantOfTable l D ca ad [.ref 1] (XW n vs be de 3 ro co mi T B hd df) (some (.long (detX 3 T))) (XW n vs be de 3 ro co (miX 3 T mi) T B hd df) := by
  refine PX1_determinantOfTable (Nat.le_of_ble_eq_true rfl) ?_
  intro G hT hC hR
  refine mB hT 18 rfl ?_
  refine mWd (w2 := (XW n vs be de 3 ro co (up mi 0 1) T B hd df)) rfl ?_
  refine hC _ 1 [_] _ _ _ _ _ (show KX1_minorOf l D ca ad _ _ (some (.long (mz1 T))) _ from c_minorOf_3_1) rfl rfl (Nat.le_of_ble_eq_true rfl) rfl ?_
  refine mB hT 14 rfl ?_
  refine mNf (lv2 := [(1, .int 2), (0, .ref 1)]) (st2 := [.int 2, .ref 1, .int 2, .ref 9]) rfl rfl ?_
  refine mWd (w2 := (XW n vs be de 3 ro co (up (up mi 0 1) 1 (mz1 T)) T B hd df)) rfl ?_
  refine hC _ 1 [_] _ _ _ _ _ (show KX1_minorOf l D ca ad _ _ (some (.long (mz2 T))) _ from c_minorOf_3_2) rfl rfl (Nat.le_of_ble_eq_true rfl) rfl ?_
  refine mB hT 14 rfl ?_
  refine mWd (w2 := (XW n vs be de 3 ro co (up (up (up mi 0 1) 1 (mz1 T)) 2 (mz2 T)) T B hd df)) rfl ?_
  refine hC _ 1 [_] _ _ _ _ _ (show KX1_minorOf l D ca ad _ _ (some (.long (mz3 T))) _ from c_minorOf_3_3) rfl rfl (Nat.le_of_ble_eq_true rfl) rfl ?_
  refine mB hT 14 rfl ?_
  refine mNf (lv2 := [(1, .int 4), (0, .ref 1)]) (st2 := [.int 4, .ref 1, .int 4, .ref 9]) rfl rfl ?_
  refine mWd (w2 := (XW n vs be de 3 ro co (up (up (up (up mi 0 1) 1 (mz1 T)) 2 (mz2 T)) 3 (mz3 T)) T B hd df)) rfl ?_
  refine hC _ 1 [_] _ _ _ _ _ (show KX1_minorOf l D ca ad _ _ (some (.long (mz4 T))) _ from c_minorOf_3_4) rfl rfl (Nat.le_of_ble_eq_true rfl) rfl ?_
  refine mB hT 14 rfl ?_
  refine mWd (w2 := (XW n vs be de 3 ro co (up (up (up (up (up mi 0 1) 1 (mz1 T)) 2 (mz2 T)) 3 (mz3 T)) 4 (mz4 T)) T B hd df)) rfl ?_
  refine hC _ 1 [_] _ _ _ _ _ (show KX1_minorOf l D ca ad _ _ (some (.long (mz5 T))) _ from c_minorOf_3_5) rfl rfl (Nat.le_of_ble_eq_true rfl) rfl ?_
  refine mB hT 14 rfl ?_
  refine mNf (lv2 := [(1, .int 6), (0, .ref 1)]) (st2 := [.int 6, .ref 1, .int 6, .ref 9]) rfl rfl ?_
  refine mWd (w2 := (XW n vs be de 3 ro co (up (up (up (up (up (up mi 0 1) 1 (mz1 T)) 2 (mz2 T)) 3 (mz3 T)) 4 (mz4 T)) 5 (mz5 T)) T B hd df)) rfl ?_
  refine hC _ 1 [_] _ _ _ _ _ (show KX1_minorOf l D ca ad _ _ (some (.long (mz6 T))) _ from c_minorOf_3_6) rfl rfl (Nat.le_of_ble_eq_true rfl) rfl ?_
  refine mB hT 14 rfl ?_
  refine mWd (w2 := (XW n vs be de 3 ro co (up (up (up (up (up (up (up mi 0 1) 1 (mz1 T)) 2 (mz2 T)) 3 (mz3 T)) 4 (mz4 T)) 5 (mz5 T)) 6 (mz6 T)) T B hd df)) rfl ?_
  refine hC _ 1 [_] _ _ _ _ _ (show KX1_minorOf l D ca ad _ _ (some (.long (mz7 T))) _ from c_minorOf_3_7) rfl rfl (Nat.le_of_ble_eq_true rfl) rfl ?_
  refine mB hT 18 rfl ?_
  exact hR _ (by decide) _ _ _ rfl rfl
set_option maxRecDepth 20000 in
theorem c_det_4 {n vs : Int32} {be de : Int64} {ro co mi : Nat → Int64} {T : Nat → Nat → Int64} {B : Nat → Nat → Nat → Int32} {hd : Nat → Nat → Int32} {df : Nat → Int32} : KX1_determinantOfTable l D ca ad [.ref 1] (XW n vs be de 4 ro co mi T B hd df) (some (.long (detX 4 T))) (XW n vs be de 4 ro co (miX 4 T mi) T B hd df) := by
  refine PX1_determinantOfTable (Nat.le_of_ble_eq_true rfl) ?_
  intro G hT hC hR
  refine mB hT 18 rfl ?_
  refine mWd (w2 := (XW n vs be de 4 ro co (up mi 0 1) T B hd df)) rfl ?_
  refine hC _ 1 [_] _ _ _ _ _ (show KX1_minorOf l D ca ad _ _ (some (.long (mz1 T))) _ from c_minorOf_4_1) rfl rfl (Nat.le_of_ble_eq_true rfl) rfl ?_
  refine mB hT 14 rfl ?_
  refine mNf (lv2 := [(1, .int 2), (0, .ref 1)]) (st2 := [.int 2, .ref 1, .int 2, .ref 9]) rfl rfl ?_
  refine mWd (w2 := (XW n vs be de 4 ro co (up (up mi 0 1) 1 (mz1 T)) T B hd df)) rfl ?_
  refine hC _ 1 [_] _ _ _ _ _ (show KX1_minorOf l D ca ad _ _ (some (.long (mz2 T))) _ from c_minorOf_4_2) rfl rfl (Nat.le_of_ble_eq_true rfl) rfl ?_
  refine mB hT 14 rfl ?_
  refine mWd (w2 := (XW n vs be de 4 ro co (up (up (up mi 0 1) 1 (mz1 T)) 2 (mz2 T)) T B hd df)) rfl ?_
  refine hC _ 1 [_] _ _ _ _ _ (show KX1_minorOf l D ca ad _ _ (some (.long (mz3 T))) _ from c_minorOf_4_3) rfl rfl (Nat.le_of_ble_eq_true rfl) rfl ?_
  refine mB hT 14 rfl ?_
  refine mNf (lv2 := [(1, .int 4), (0, .ref 1)]) (st2 := [.int 4, .ref 1, .int 4, .ref 9]) rfl rfl ?_
  refine mWd (w2 := (XW n vs be de 4 ro co (up (up (up (up mi 0 1) 1 (mz1 T)) 2 (mz2 T)) 3 (mz3 T)) T B hd df)) rfl ?_
  refine hC _ 1 [_] _ _ _ _ _ (show KX1_minorOf l D ca ad _ _ (some (.long (mz4 T))) _ from c_minorOf_4_4) rfl rfl (Nat.le_of_ble_eq_true rfl) rfl ?_
  refine mB hT 14 rfl ?_
  refine mWd (w2 := (XW n vs be de 4 ro co (up (up (up (up (up mi 0 1) 1 (mz1 T)) 2 (mz2 T)) 3 (mz3 T)) 4 (mz4 T)) T B hd df)) rfl ?_
  refine hC _ 1 [_] _ _ _ _ _ (show KX1_minorOf l D ca ad _ _ (some (.long (mz5 T))) _ from c_minorOf_4_5) rfl rfl (Nat.le_of_ble_eq_true rfl) rfl ?_
  refine mB hT 14 rfl ?_
  refine mNf (lv2 := [(1, .int 6), (0, .ref 1)]) (st2 := [.int 6, .ref 1, .int 6, .ref 9]) rfl rfl ?_
  refine mWd (w2 := (XW n vs be de 4 ro co (up (up (up (up (up (up mi 0 1) 1 (mz1 T)) 2 (mz2 T)) 3 (mz3 T)) 4 (mz4 T)) 5 (mz5 T)) T B hd df)) rfl ?_
  refine hC _ 1 [_] _ _ _ _ _ (show KX1_minorOf l D ca ad _ _ (some (.long (mz6 T))) _ from c_minorOf_4_6) rfl rfl (Nat.le_of_ble_eq_true rfl) rfl ?_
  refine mB hT 14 rfl ?_
  refine mWd (w2 := (XW n vs be de 4 ro co (up (up (up (up (up (up (up mi 0 1) 1 (mz1 T)) 2 (mz2 T)) 3 (mz3 T)) 4 (mz4 T)) 5 (mz5 T)) 6 (mz6 T)) T B hd df)) rfl ?_
  refine hC _ 1 [_] _ _ _ _ _ (show KX1_minorOf l D ca ad _ _ (some (.long (mz7 T))) _ from c_minorOf_4_7) rfl rfl (Nat.le_of_ble_eq_true rfl) rfl ?_
  refine mB hT 14 rfl ?_
  refine mNf (lv2 := [(1, .int 8), (0, .ref 1)]) (st2 := [.int 8, .ref 1, .int 8, .ref 9]) rfl rfl ?_
  refine mWd (w2 := (XW n vs be de 4 ro co (up (up (up (up (up (up (up (up mi 0 1) 1 (mz1 T)) 2 (mz2 T)) 3 (mz3 T)) 4 (mz4 T)) 5 (mz5 T)) 6 (mz6 T)) 7 (mz7 T)) T B hd df)) rfl ?_
  refine hC _ 1 [_] _ _ _ _ _ (show KX1_minorOf l D ca ad _ _ (some (.long (mz8 T))) _ from c_minorOf_4_8) rfl rfl (Nat.le_of_ble_eq_true rfl) rfl ?_
  refine mB hT 14 rfl ?_
  refine mWd (w2 := (XW n vs be de 4 ro co (up (up (up (up (up (up (up (up (up mi 0 1) 1 (mz1 T)) 2 (mz2 T)) 3 (mz3 T)) 4 (mz4 T)) 5 (mz5 T)) 6 (mz6 T)) 7 (mz7 T)) 8 (mz8 T)) T B hd df)) rfl ?_
  refine hC _ 1 [_] _ _ _ _ _ (show KX1_minorOf l D ca ad _ _ (some (.long (mz9 T))) _ from c_minorOf_4_9) rfl rfl (Nat.le_of_ble_eq_true rfl) rfl ?_
  refine mB hT 14 rfl ?_
  refine mNf (lv2 := [(1, .int 10), (0, .ref 1)]) (st2 := [.int 10, .ref 1, .int 10, .ref 9]) rfl rfl ?_
  refine mWd (w2 := (XW n vs be de 4 ro co (up (up (up (up (up (up (up (up (up (up mi 0 1) 1 (mz1 T)) 2 (mz2 T)) 3 (mz3 T)) 4 (mz4 T)) 5 (mz5 T)) 6 (mz6 T)) 7 (mz7 T)) 8 (mz8 T)) 9 (mz9 T)) T B hd df)) rfl ?_
  refine hC _ 1 [_] _ _ _ _ _ (show KX1_minorOf l D ca ad _ _ (some (.long (mz10 T))) _ from c_minorOf_4_10) rfl rfl (Nat.le_of_ble_eq_true rfl) rfl ?_
  refine mB hT 14 rfl ?_
  refine mWd (w2 := (XW n vs be de 4 ro co (up (up (up (up (up (up (up (up (up (up (up mi 0 1) 1 (mz1 T)) 2 (mz2 T)) 3 (mz3 T)) 4 (mz4 T)) 5 (mz5 T)) 6 (mz6 T)) 7 (mz7 T)) 8 (mz8 T)) 9 (mz9 T)) 10 (mz10 T)) T B hd df)) rfl ?_
  refine hC _ 1 [_] _ _ _ _ _ (show KX1_minorOf l D ca ad _ _ (some (.long (mz11 T))) _ from c_minorOf_4_11) rfl rfl (Nat.le_of_ble_eq_true rfl) rfl ?_
  refine mB hT 14 rfl ?_
  refine mNf (lv2 := [(1, .int 12), (0, .ref 1)]) (st2 := [.int 12, .ref 1, .int 12, .ref 9]) rfl rfl ?_
  refine mWd (w2 := (XW n vs be de 4 ro co (up (up (up (up (up (up (up (up (up (up (up (up mi 0 1) 1 (mz1 T)) 2 (mz2 T)) 3 (mz3 T)) 4 (mz4 T)) 5 (mz5 T)) 6 (mz6 T)) 7 (mz7 T)) 8 (mz8 T)) 9 (mz9 T)) 10 (mz10 T)) 11 (mz11 T)) T B hd df)) rfl ?_
  refine hC _ 1 [_] _ _ _ _ _ (show KX1_minorOf l D ca ad _ _ (some (.long (mz12 T))) _ from c_minorOf_4_12) rfl rfl (Nat.le_of_ble_eq_true rfl) rfl ?_
  refine mB hT 14 rfl ?_
  refine mWd (w2 := (XW n vs be de 4 ro co (up (up (up (up (up (up (up (up (up (up (up (up (up mi 0 1) 1 (mz1 T)) 2 (mz2 T)) 3 (mz3 T)) 4 (mz4 T)) 5 (mz5 T)) 6 (mz6 T)) 7 (mz7 T)) 8 (mz8 T)) 9 (mz9 T)) 10 (mz10 T)) 11 (mz11 T)) 12 (mz12 T)) T B hd df)) rfl ?_
  refine hC _ 1 [_] _ _ _ _ _ (show KX1_minorOf l D ca ad _ _ (some (.long (mz13 T))) _ from c_minorOf_4_13) rfl rfl (Nat.le_of_ble_eq_true rfl) rfl ?_
  refine mB hT 14 rfl ?_
  refine mNf (lv2 := [(1, .int 14), (0, .ref 1)]) (st2 := [.int 14, .ref 1, .int 14, .ref 9]) rfl rfl ?_
  refine mWd (w2 := (XW n vs be de 4 ro co (up (up (up (up (up (up (up (up (up (up (up (up (up (up mi 0 1) 1 (mz1 T)) 2 (mz2 T)) 3 (mz3 T)) 4 (mz4 T)) 5 (mz5 T)) 6 (mz6 T)) 7 (mz7 T)) 8 (mz8 T)) 9 (mz9 T)) 10 (mz10 T)) 11 (mz11 T)) 12 (mz12 T)) 13 (mz13 T)) T B hd df)) rfl ?_
  refine hC _ 1 [_] _ _ _ _ _ (show KX1_minorOf l D ca ad _ _ (some (.long (mz14 T))) _ from c_minorOf_4_14) rfl rfl (Nat.le_of_ble_eq_true rfl) rfl ?_
  refine mB hT 14 rfl ?_
  refine mWd (w2 := (XW n vs be de 4 ro co (up (up (up (up (up (up (up (up (up (up (up (up (up (up (up mi 0 1) 1 (mz1 T)) 2 (mz2 T)) 3 (mz3 T)) 4 (mz4 T)) 5 (mz5 T)) 6 (mz6 T)) 7 (mz7 T)) 8 (mz8 T)) 9 (mz9 T)) 10 (mz10 T)) 11 (mz11 T)) 12 (mz12 T)) 13 (mz13 T)) 14 (mz14 T)) T B hd df)) rfl ?_
  refine hC _ 1 [_] _ _ _ _ _ (show KX1_minorOf l D ca ad _ _ (some (.long (mz15 T))) _ from c_minorOf_4_15) rfl rfl (Nat.le_of_ble_eq_true rfl) rfl ?_
  refine mB hT 18 rfl ?_
  exact hR _ (by decide) _ _ _ rfl rfl
end
