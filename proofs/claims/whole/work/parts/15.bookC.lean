section
variable {l : Launch} {D : va_G} {ca : Nat → ClassId} {ad : Nat → Nat}

set_option maxRecDepth 20000 in
theorem c_copy_0_6_0_4 {n vs : Int32} {be de : Int64} {sz : Int32} {ro co mi : Nat → Int64} {T : Nat → Nat → Int64} {B : Nat → Nat → Nat → Int32} {hd : Nat → Nat → Int32} {df : Nat → Int32} : KX0_copyRows l D ca ad [.ref 29, .ref 10, .int 0, .int 4] (XW n vs be de sz ro co mi T B hd df) none (XW n vs be de sz ro co mi T (cpX B 0 6 0 4) hd df) := by
  refine PX0_copyRows (Nat.le_of_ble_eq_true rfl) ?_
  intro G hT hC hR
  refine mB hT 19 rfl ?_
  refine hC _ 12 31 _ _ _ _ rfl rfl rfl rfl (by decide) ?_
  refine mB hT 19 rfl ?_
  refine mNf (lv2 := [(4, .int 1), (0, .ref 29), (1, .ref 10), (2, .int 0), (3, .int 4)]) (st2 := [.int 23, .int 0, .ref 32, .int 0, .ref 13]) rfl rfl ?_
  refine mWd (w2 := (XW n vs be de sz ro co mi T (up B 0 (up (B 0) 0 (B 6 0))) hd df)) rfl ?_
  refine hC _ 13 32 _ _ _ _ rfl rfl rfl rfl (by decide) ?_
  refine mB hT 19 rfl ?_
  refine mWd (w2 := (XW n vs be de sz ro co mi T (up B 0 (up (up (B 0) 0 (B 6 0)) 1 (B 6 1))) hd df)) rfl ?_
  refine hC _ 14 33 _ _ _ _ rfl rfl rfl rfl (by decide) ?_
  refine mB hT 19 rfl ?_
  refine mNf (lv2 := [(4, .int 3), (0, .ref 29), (1, .ref 10), (2, .int 0), (3, .int 4)]) (st2 := [.int 23, .int 0, .ref 34, .int 0, .ref 15]) rfl rfl ?_
  refine mWd (w2 := (XW n vs be de sz ro co mi T (up B 0 (up (up (up (B 0) 0 (B 6 0)) 1 (B 6 1)) 2 (B 6 2))) hd df)) rfl ?_
  refine hC _ 15 34 _ _ _ _ rfl rfl rfl rfl (by decide) ?_
  refine mB hT 5 rfl ?_
  exact hR _ (by decide) _ _ _ rfl rfl
set_option maxRecDepth 20000 in
theorem c_copy_1_6_0_4 {n vs : Int32} {be de : Int64} {sz : Int32} {ro co mi : Nat → Int64} {T : Nat → Nat → Int64} {B : Nat → Nat → Nat → Int32} {hd : Nat → Nat → Int32} {df : Nat → Int32} : KX0_copyRows l D ca ad [.ref 35, .ref 10, .int 0, .int 4] (XW n vs be de sz ro co mi T B hd df) none (XW n vs be de sz ro co mi T (cpX B 1 6 0 4) hd df) := by
  refine PX0_copyRows (Nat.le_of_ble_eq_true rfl) ?_
  intro G hT hC hR
  refine mB hT 19 rfl ?_
  refine hC _ 12 37 _ _ _ _ rfl rfl rfl rfl (by decide) ?_
  refine mB hT 19 rfl ?_
  refine mNf (lv2 := [(4, .int 1), (0, .ref 35), (1, .ref 10), (2, .int 0), (3, .int 4)]) (st2 := [.int 23, .int 0, .ref 38, .int 0, .ref 13]) rfl rfl ?_
  refine mWd (w2 := (XW n vs be de sz ro co mi T (up B 1 (up (B 1) 0 (B 6 0))) hd df)) rfl ?_
  refine hC _ 13 38 _ _ _ _ rfl rfl rfl rfl (by decide) ?_
  refine mB hT 19 rfl ?_
  refine mWd (w2 := (XW n vs be de sz ro co mi T (up B 1 (up (up (B 1) 0 (B 6 0)) 1 (B 6 1))) hd df)) rfl ?_
  refine hC _ 14 39 _ _ _ _ rfl rfl rfl rfl (by decide) ?_
  refine mB hT 19 rfl ?_
  refine mNf (lv2 := [(4, .int 3), (0, .ref 35), (1, .ref 10), (2, .int 0), (3, .int 4)]) (st2 := [.int 23, .int 0, .ref 40, .int 0, .ref 15]) rfl rfl ?_
  refine mWd (w2 := (XW n vs be de sz ro co mi T (up B 1 (up (up (up (B 1) 0 (B 6 0)) 1 (B 6 1)) 2 (B 6 2))) hd df)) rfl ?_
  refine hC _ 15 40 _ _ _ _ rfl rfl rfl rfl (by decide) ?_
  refine mB hT 5 rfl ?_
  exact hR _ (by decide) _ _ _ rfl rfl
set_option maxRecDepth 20000 in
theorem c_copy_2_6_0_4 {n vs : Int32} {be de : Int64} {sz : Int32} {ro co mi : Nat → Int64} {T : Nat → Nat → Int64} {B : Nat → Nat → Nat → Int32} {hd : Nat → Nat → Int32} {df : Nat → Int32} : KX0_copyRows l D ca ad [.ref 41, .ref 10, .int 0, .int 4] (XW n vs be de sz ro co mi T B hd df) none (XW n vs be de sz ro co mi T (cpX B 2 6 0 4) hd df) := by
  refine PX0_copyRows (Nat.le_of_ble_eq_true rfl) ?_
  intro G hT hC hR
  refine mB hT 19 rfl ?_
  refine hC _ 12 43 _ _ _ _ rfl rfl rfl rfl (by decide) ?_
  refine mB hT 19 rfl ?_
  refine mNf (lv2 := [(4, .int 1), (0, .ref 41), (1, .ref 10), (2, .int 0), (3, .int 4)]) (st2 := [.int 23, .int 0, .ref 44, .int 0, .ref 13]) rfl rfl ?_
  refine mWd (w2 := (XW n vs be de sz ro co mi T (up B 2 (up (B 2) 0 (B 6 0))) hd df)) rfl ?_
  refine hC _ 13 44 _ _ _ _ rfl rfl rfl rfl (by decide) ?_
  refine mB hT 19 rfl ?_
  refine mWd (w2 := (XW n vs be de sz ro co mi T (up B 2 (up (up (B 2) 0 (B 6 0)) 1 (B 6 1))) hd df)) rfl ?_
  refine hC _ 14 45 _ _ _ _ rfl rfl rfl rfl (by decide) ?_
  refine mB hT 19 rfl ?_
  refine mNf (lv2 := [(4, .int 3), (0, .ref 41), (1, .ref 10), (2, .int 0), (3, .int 4)]) (st2 := [.int 23, .int 0, .ref 46, .int 0, .ref 15]) rfl rfl ?_
  refine mWd (w2 := (XW n vs be de sz ro co mi T (up B 2 (up (up (up (B 2) 0 (B 6 0)) 1 (B 6 1)) 2 (B 6 2))) hd df)) rfl ?_
  refine hC _ 15 46 _ _ _ _ rfl rfl rfl rfl (by decide) ?_
  refine mB hT 5 rfl ?_
  exact hR _ (by decide) _ _ _ rfl rfl
set_option maxRecDepth 20000 in
theorem c_copy_3_6_0_4 {n vs : Int32} {be de : Int64} {sz : Int32} {ro co mi : Nat → Int64} {T : Nat → Nat → Int64} {B : Nat → Nat → Nat → Int32} {hd : Nat → Nat → Int32} {df : Nat → Int32} : KX0_copyRows l D ca ad [.ref 47, .ref 10, .int 0, .int 4] (XW n vs be de sz ro co mi T B hd df) none (XW n vs be de sz ro co mi T (cpX B 3 6 0 4) hd df) := by
  refine PX0_copyRows (Nat.le_of_ble_eq_true rfl) ?_
  intro G hT hC hR
  refine mB hT 19 rfl ?_
  refine hC _ 12 49 _ _ _ _ rfl rfl rfl rfl (by decide) ?_
  refine mB hT 19 rfl ?_
  refine mNf (lv2 := [(4, .int 1), (0, .ref 47), (1, .ref 10), (2, .int 0), (3, .int 4)]) (st2 := [.int 23, .int 0, .ref 50, .int 0, .ref 13]) rfl rfl ?_
  refine mWd (w2 := (XW n vs be de sz ro co mi T (up B 3 (up (B 3) 0 (B 6 0))) hd df)) rfl ?_
  refine hC _ 13 50 _ _ _ _ rfl rfl rfl rfl (by decide) ?_
  refine mB hT 19 rfl ?_
  refine mWd (w2 := (XW n vs be de sz ro co mi T (up B 3 (up (up (B 3) 0 (B 6 0)) 1 (B 6 1))) hd df)) rfl ?_
  refine hC _ 14 51 _ _ _ _ rfl rfl rfl rfl (by decide) ?_
  refine mB hT 19 rfl ?_
  refine mNf (lv2 := [(4, .int 3), (0, .ref 47), (1, .ref 10), (2, .int 0), (3, .int 4)]) (st2 := [.int 23, .int 0, .ref 52, .int 0, .ref 15]) rfl rfl ?_
  refine mWd (w2 := (XW n vs be de sz ro co mi T (up B 3 (up (up (up (B 3) 0 (B 6 0)) 1 (B 6 1)) 2 (B 6 2))) hd df)) rfl ?_
  refine hC _ 15 52 _ _ _ _ rfl rfl rfl rfl (by decide) ?_
  refine mB hT 5 rfl ?_
  exact hR _ (by decide) _ _ _ rfl rfl
set_option maxRecDepth 20000 in
theorem c_copy_4_6_0_4 {n vs : Int32} {be de : Int64} {sz : Int32} {ro co mi : Nat → Int64} {T : Nat → Nat → Int64} {B : Nat → Nat → Nat → Int32} {hd : Nat → Nat → Int32} {df : Nat → Int32} : KX0_copyRows l D ca ad [.ref 53, .ref 10, .int 0, .int 4] (XW n vs be de sz ro co mi T B hd df) none (XW n vs be de sz ro co mi T (cpX B 4 6 0 4) hd df) := by
  refine PX0_copyRows (Nat.le_of_ble_eq_true rfl) ?_
  intro G hT hC hR
  refine mB hT 19 rfl ?_
  refine hC _ 12 55 _ _ _ _ rfl rfl rfl rfl (by decide) ?_
  refine mB hT 19 rfl ?_
  refine mNf (lv2 := [(4, .int 1), (0, .ref 53), (1, .ref 10), (2, .int 0), (3, .int 4)]) (st2 := [.int 23, .int 0, .ref 56, .int 0, .ref 13]) rfl rfl ?_
  refine mWd (w2 := (XW n vs be de sz ro co mi T (up B 4 (up (B 4) 0 (B 6 0))) hd df)) rfl ?_
  refine hC _ 13 56 _ _ _ _ rfl rfl rfl rfl (by decide) ?_
  refine mB hT 19 rfl ?_
  refine mWd (w2 := (XW n vs be de sz ro co mi T (up B 4 (up (up (B 4) 0 (B 6 0)) 1 (B 6 1))) hd df)) rfl ?_
  refine hC _ 14 57 _ _ _ _ rfl rfl rfl rfl (by decide) ?_
  refine mB hT 19 rfl ?_
  refine mNf (lv2 := [(4, .int 3), (0, .ref 53), (1, .ref 10), (2, .int 0), (3, .int 4)]) (st2 := [.int 23, .int 0, .ref 58, .int 0, .ref 15]) rfl rfl ?_
  refine mWd (w2 := (XW n vs be de sz ro co mi T (up B 4 (up (up (up (B 4) 0 (B 6 0)) 1 (B 6 1)) 2 (B 6 2))) hd df)) rfl ?_
  refine hC _ 15 58 _ _ _ _ rfl rfl rfl rfl (by decide) ?_
  refine mB hT 5 rfl ?_
  exact hR _ (by decide) _ _ _ rfl rfl
set_option maxRecDepth 20000 in
theorem c_copy_5_6_0_4 {n vs : Int32} {be de : Int64} {sz : Int32} {ro co mi : Nat → Int64} {T : Nat → Nat → Int64} {B : Nat → Nat → Nat → Int32} {hd : Nat → Nat → Int32} {df : Nat → Int32} : KX0_copyRows l D ca ad [.ref 59, .ref 10, .int 0, .int 4] (XW n vs be de sz ro co mi T B hd df) none (XW n vs be de sz ro co mi T (cpX B 5 6 0 4) hd df) := by
  refine PX0_copyRows (Nat.le_of_ble_eq_true rfl) ?_
  intro G hT hC hR
  refine mB hT 19 rfl ?_
  refine hC _ 12 61 _ _ _ _ rfl rfl rfl rfl (by decide) ?_
  refine mB hT 19 rfl ?_
  refine mNf (lv2 := [(4, .int 1), (0, .ref 59), (1, .ref 10), (2, .int 0), (3, .int 4)]) (st2 := [.int 23, .int 0, .ref 62, .int 0, .ref 13]) rfl rfl ?_
  refine mWd (w2 := (XW n vs be de sz ro co mi T (up B 5 (up (B 5) 0 (B 6 0))) hd df)) rfl ?_
  refine hC _ 13 62 _ _ _ _ rfl rfl rfl rfl (by decide) ?_
  refine mB hT 19 rfl ?_
  refine mWd (w2 := (XW n vs be de sz ro co mi T (up B 5 (up (up (B 5) 0 (B 6 0)) 1 (B 6 1))) hd df)) rfl ?_
  refine hC _ 14 63 _ _ _ _ rfl rfl rfl rfl (by decide) ?_
  refine mB hT 19 rfl ?_
  refine mNf (lv2 := [(4, .int 3), (0, .ref 59), (1, .ref 10), (2, .int 0), (3, .int 4)]) (st2 := [.int 23, .int 0, .ref 64, .int 0, .ref 15]) rfl rfl ?_
  refine mWd (w2 := (XW n vs be de sz ro co mi T (up B 5 (up (up (up (B 5) 0 (B 6 0)) 1 (B 6 1)) 2 (B 6 2))) hd df)) rfl ?_
  refine hC _ 15 64 _ _ _ _ rfl rfl rfl rfl (by decide) ?_
  refine mB hT 5 rfl ?_
  exact hR _ (by decide) _ _ _ rfl rfl
set_option maxRecDepth 20000 in
theorem c_copy_6_0_0_4 {n vs : Int32} {be de : Int64} {sz : Int32} {ro co mi : Nat → Int64} {T : Nat → Nat → Int64} {B : Nat → Nat → Nat → Int32} {hd : Nat → Nat → Int32} {df : Nat → Int32} : KX0_copyRows l D ca ad [.ref 10, .ref 29, .int 0, .int 4] (XW n vs be de sz ro co mi T B hd df) none (XW n vs be de sz ro co mi T (cpX B 6 0 0 4) hd df) := by
  refine PX0_copyRows (Nat.le_of_ble_eq_true rfl) ?_
  intro G hT hC hR
  refine mB hT 19 rfl ?_
  refine hC _ 31 12 _ _ _ _ rfl rfl rfl rfl (by decide) ?_
  refine mB hT 19 rfl ?_
  refine mNf (lv2 := [(4, .int 1), (0, .ref 10), (1, .ref 29), (2, .int 0), (3, .int 4)]) (st2 := [.int 23, .int 0, .ref 13, .int 0, .ref 32]) rfl rfl ?_
  refine mWd (w2 := (XW n vs be de sz ro co mi T (up B 6 (up (B 6) 0 (B 0 0))) hd df)) rfl ?_
  refine hC _ 32 13 _ _ _ _ rfl rfl rfl rfl (by decide) ?_
  refine mB hT 19 rfl ?_
  refine mWd (w2 := (XW n vs be de sz ro co mi T (up B 6 (up (up (B 6) 0 (B 0 0)) 1 (B 0 1))) hd df)) rfl ?_
  refine hC _ 33 14 _ _ _ _ rfl rfl rfl rfl (by decide) ?_
  refine mB hT 19 rfl ?_
  refine mNf (lv2 := [(4, .int 3), (0, .ref 10), (1, .ref 29), (2, .int 0), (3, .int 4)]) (st2 := [.int 23, .int 0, .ref 15, .int 0, .ref 34]) rfl rfl ?_
  refine mWd (w2 := (XW n vs be de sz ro co mi T (up B 6 (up (up (up (B 6) 0 (B 0 0)) 1 (B 0 1)) 2 (B 0 2))) hd df)) rfl ?_
  refine hC _ 34 15 _ _ _ _ rfl rfl rfl rfl (by decide) ?_
  refine mB hT 5 rfl ?_
  exact hR _ (by decide) _ _ _ rfl rfl
set_option maxRecDepth 20000 in
theorem c_copy_6_1_0_4 {n vs : Int32} {be de : Int64} {sz : Int32} {ro co mi : Nat → Int64} {T : Nat → Nat → Int64} {B : Nat → Nat → Nat → Int32} {hd : Nat → Nat → Int32} {df : Nat → Int32} : KX0_copyRows l D ca ad [.ref 10, .ref 35, .int 0, .int 4] (XW n vs be de sz ro co mi T B hd df) none (XW n vs be de sz ro co mi T (cpX B 6 1 0 4) hd df) := by
  refine PX0_copyRows (Nat.le_of_ble_eq_true rfl) ?_
  intro G hT hC hR
  refine mB hT 19 rfl ?_
  refine hC _ 37 12 _ _ _ _ rfl rfl rfl rfl (by decide) ?_
  refine mB hT 19 rfl ?_
  refine mNf (lv2 := [(4, .int 1), (0, .ref 10), (1, .ref 35), (2, .int 0), (3, .int 4)]) (st2 := [.int 23, .int 0, .ref 13, .int 0, .ref 38]) rfl rfl ?_
  refine mWd (w2 := (XW n vs be de sz ro co mi T (up B 6 (up (B 6) 0 (B 1 0))) hd df)) rfl ?_
  refine hC _ 38 13 _ _ _ _ rfl rfl rfl rfl (by decide) ?_
  refine mB hT 19 rfl ?_
  refine mWd (w2 := (XW n vs be de sz ro co mi T (up B 6 (up (up (B 6) 0 (B 1 0)) 1 (B 1 1))) hd df)) rfl ?_
  refine hC _ 39 14 _ _ _ _ rfl rfl rfl rfl (by decide) ?_
  refine mB hT 19 rfl ?_
  refine mNf (lv2 := [(4, .int 3), (0, .ref 10), (1, .ref 35), (2, .int 0), (3, .int 4)]) (st2 := [.int 23, .int 0, .ref 15, .int 0, .ref 40]) rfl rfl ?_
  refine mWd (w2 := (XW n vs be de sz ro co mi T (up B 6 (up (up (up (B 6) 0 (B 1 0)) 1 (B 1 1)) 2 (B 1 2))) hd df)) rfl ?_
  refine hC _ 40 15 _ _ _ _ rfl rfl rfl rfl (by decide) ?_
  refine mB hT 5 rfl ?_
  exact hR _ (by decide) _ _ _ rfl rfl
set_option maxRecDepth 20000 in
theorem c_copy_6_2_0_4 {n vs : Int32} {be de : Int64} {sz : Int32} {ro co mi : Nat → Int64} {T : Nat → Nat → Int64} {B : Nat → Nat → Nat → Int32} {hd : Nat → Nat → Int32} {df : Nat → Int32} : KX0_copyRows l D ca ad [.ref 10, .ref 41, .int 0, .int 4] (XW n vs be de sz ro co mi T B hd df) none (XW n vs be de sz ro co mi T (cpX B 6 2 0 4) hd df) := by
  refine PX0_copyRows (Nat.le_of_ble_eq_true rfl) ?_
  intro G hT hC hR
  refine mB hT 19 rfl ?_
  refine hC _ 43 12 _ _ _ _ rfl rfl rfl rfl (by decide) ?_
  refine mB hT 19 rfl ?_
  refine mNf (lv2 := [(4, .int 1), (0, .ref 10), (1, .ref 41), (2, .int 0), (3, .int 4)]) (st2 := [.int 23, .int 0, .ref 13, .int 0, .ref 44]) rfl rfl ?_
  refine mWd (w2 := (XW n vs be de sz ro co mi T (up B 6 (up (B 6) 0 (B 2 0))) hd df)) rfl ?_
  refine hC _ 44 13 _ _ _ _ rfl rfl rfl rfl (by decide) ?_
  refine mB hT 19 rfl ?_
  refine mWd (w2 := (XW n vs be de sz ro co mi T (up B 6 (up (up (B 6) 0 (B 2 0)) 1 (B 2 1))) hd df)) rfl ?_
  refine hC _ 45 14 _ _ _ _ rfl rfl rfl rfl (by decide) ?_
  refine mB hT 19 rfl ?_
  refine mNf (lv2 := [(4, .int 3), (0, .ref 10), (1, .ref 41), (2, .int 0), (3, .int 4)]) (st2 := [.int 23, .int 0, .ref 15, .int 0, .ref 46]) rfl rfl ?_
  refine mWd (w2 := (XW n vs be de sz ro co mi T (up B 6 (up (up (up (B 6) 0 (B 2 0)) 1 (B 2 1)) 2 (B 2 2))) hd df)) rfl ?_
  refine hC _ 46 15 _ _ _ _ rfl rfl rfl rfl (by decide) ?_
  refine mB hT 5 rfl ?_
  exact hR _ (by decide) _ _ _ rfl rfl
set_option maxRecDepth 20000 in
theorem c_copy_6_3_0_4 {n vs : Int32} {be de : Int64} {sz : Int32} {ro co mi : Nat → Int64} {T : Nat → Nat → Int64} {B : Nat → Nat → Nat → Int32} {hd : Nat → Nat → Int32} {df : Nat → Int32} : KX0_copyRows l D ca ad [.ref 10, .ref 47, .int 0, .int 4] (XW n vs be de sz ro co mi T B hd df) none (XW n vs be de sz ro co mi T (cpX B 6 3 0 4) hd df) := by
  refine PX0_copyRows (Nat.le_of_ble_eq_true rfl) ?_
  intro G hT hC hR
  refine mB hT 19 rfl ?_
  refine hC _ 49 12 _ _ _ _ rfl rfl rfl rfl (by decide) ?_
  refine mB hT 19 rfl ?_
  refine mNf (lv2 := [(4, .int 1), (0, .ref 10), (1, .ref 47), (2, .int 0), (3, .int 4)]) (st2 := [.int 23, .int 0, .ref 13, .int 0, .ref 50]) rfl rfl ?_
  refine mWd (w2 := (XW n vs be de sz ro co mi T (up B 6 (up (B 6) 0 (B 3 0))) hd df)) rfl ?_
  refine hC _ 50 13 _ _ _ _ rfl rfl rfl rfl (by decide) ?_
  refine mB hT 19 rfl ?_
  refine mWd (w2 := (XW n vs be de sz ro co mi T (up B 6 (up (up (B 6) 0 (B 3 0)) 1 (B 3 1))) hd df)) rfl ?_
  refine hC _ 51 14 _ _ _ _ rfl rfl rfl rfl (by decide) ?_
  refine mB hT 19 rfl ?_
  refine mNf (lv2 := [(4, .int 3), (0, .ref 10), (1, .ref 47), (2, .int 0), (3, .int 4)]) (st2 := [.int 23, .int 0, .ref 15, .int 0, .ref 52]) rfl rfl ?_
  refine mWd (w2 := (XW n vs be de sz ro co mi T (up B 6 (up (up (up (B 6) 0 (B 3 0)) 1 (B 3 1)) 2 (B 3 2))) hd df)) rfl ?_
  refine hC _ 52 15 _ _ _ _ rfl rfl rfl rfl (by decide) ?_
  refine mB hT 5 rfl ?_
  exact hR _ (by decide) _ _ _ rfl rfl
set_option maxRecDepth 20000 in
theorem c_copy_6_4_0_4 {n vs : Int32} {be de : Int64} {sz : Int32} {ro co mi : Nat → Int64} {T : Nat → Nat → Int64} {B : Nat → Nat → Nat → Int32} {hd : Nat → Nat → Int32} {df : Nat → Int32} : KX0_copyRows l D ca ad [.ref 10, .ref 53, .int 0, .int 4] (XW n vs be de sz ro co mi T B hd df) none (XW n vs be de sz ro co mi T (cpX B 6 4 0 4) hd df) := by
  refine PX0_copyRows (Nat.le_of_ble_eq_true rfl) ?_
  intro G hT hC hR
  refine mB hT 19 rfl ?_
  refine hC _ 55 12 _ _ _ _ rfl rfl rfl rfl (by decide) ?_
  refine mB hT 19 rfl ?_
  refine mNf (lv2 := [(4, .int 1), (0, .ref 10), (1, .ref 53), (2, .int 0), (3, .int 4)]) (st2 := [.int 23, .int 0, .ref 13, .int 0, .ref 56]) rfl rfl ?_
  refine mWd (w2 := (XW n vs be de sz ro co mi T (up B 6 (up (B 6) 0 (B 4 0))) hd df)) rfl ?_
  refine hC _ 56 13 _ _ _ _ rfl rfl rfl rfl (by decide) ?_
  refine mB hT 19 rfl ?_
  refine mWd (w2 := (XW n vs be de sz ro co mi T (up B 6 (up (up (B 6) 0 (B 4 0)) 1 (B 4 1))) hd df)) rfl ?_
  refine hC _ 57 14 _ _ _ _ rfl rfl rfl rfl (by decide) ?_
  refine mB hT 19 rfl ?_
  refine mNf (lv2 := [(4, .int 3), (0, .ref 10), (1, .ref 53), (2, .int 0), (3, .int 4)]) (st2 := [.int 23, .int 0, .ref 15, .int 0, .ref 58]) rfl rfl ?_
  refine mWd (w2 := (XW n vs be de sz ro co mi T (up B 6 (up (up (up (B 6) 0 (B 4 0)) 1 (B 4 1)) 2 (B 4 2))) hd df)) rfl ?_
  refine hC _ 58 15 _ _ _ _ rfl rfl rfl rfl (by decide) ?_
  refine mB hT 5 rfl ?_
  exact hR _ (by decide) _ _ _ rfl rfl
set_option maxRecDepth 20000 in
theorem c_copy_6_5_0_4 {n vs : Int32} {be de : Int64} {sz : Int32} {ro co mi : Nat → Int64} {T : Nat → Nat → Int64} {B : Nat → Nat → Nat → Int32} {hd : Nat → Nat → Int32} {df : Nat → Int32} : KX0_copyRows l D ca ad [.ref 10, .ref 59, .int 0, .int 4] (XW n vs be de sz ro co mi T B hd df) none (XW n vs be de sz ro co mi T (cpX B 6 5 0 4) hd df) := by
  refine PX0_copyRows (Nat.le_of_ble_eq_true rfl) ?_
  intro G hT hC hR
  refine mB hT 19 rfl ?_
  refine hC _ 61 12 _ _ _ _ rfl rfl rfl rfl (by decide) ?_
  refine mB hT 19 rfl ?_
  refine mNf (lv2 := [(4, .int 1), (0, .ref 10), (1, .ref 59), (2, .int 0), (3, .int 4)]) (st2 := [.int 23, .int 0, .ref 13, .int 0, .ref 62]) rfl rfl ?_
  refine mWd (w2 := (XW n vs be de sz ro co mi T (up B 6 (up (B 6) 0 (B 5 0))) hd df)) rfl ?_
  refine hC _ 62 13 _ _ _ _ rfl rfl rfl rfl (by decide) ?_
  refine mB hT 19 rfl ?_
  refine mWd (w2 := (XW n vs be de sz ro co mi T (up B 6 (up (up (B 6) 0 (B 5 0)) 1 (B 5 1))) hd df)) rfl ?_
  refine hC _ 63 14 _ _ _ _ rfl rfl rfl rfl (by decide) ?_
  refine mB hT 19 rfl ?_
  refine mNf (lv2 := [(4, .int 3), (0, .ref 10), (1, .ref 59), (2, .int 0), (3, .int 4)]) (st2 := [.int 23, .int 0, .ref 15, .int 0, .ref 64]) rfl rfl ?_
  refine mWd (w2 := (XW n vs be de sz ro co mi T (up B 6 (up (up (up (B 6) 0 (B 5 0)) 1 (B 5 1)) 2 (B 5 2))) hd df)) rfl ?_
  refine hC _ 64 15 _ _ _ _ rfl rfl rfl rfl (by decide) ?_
  refine mB hT 5 rfl ?_
  exact hR _ (by decide) _ _ _ rfl rfl
set_option maxRecDepth 20000 in
theorem c_copy_7_6_0_0 {n vs : Int32} {be de : Int64} {sz : Int32} {ro co mi : Nat → Int64} {T : Nat → Nat → Int64} {B : Nat → Nat → Nat → Int32} {hd : Nat → Nat → Int32} {df : Nat → Int32} : KX0_copyRows l D ca ad [.ref 16, .ref 10, .int 0, .int 0] (XW n vs be de sz ro co mi T B hd df) none (XW n vs be de sz ro co mi T (cpX B 7 6 0 0) hd df) := by
  refine PX0_copyRows (Nat.le_of_ble_eq_true rfl) ?_
  intro G hT hC hR
  refine mB hT 5 rfl ?_
  exact hR _ (by decide) _ _ _ rfl rfl
set_option maxRecDepth 20000 in
theorem c_copy_7_6_0_1 {n vs : Int32} {be de : Int64} {sz : Int32} {ro co mi : Nat → Int64} {T : Nat → Nat → Int64} {B : Nat → Nat → Nat → Int32} {hd : Nat → Nat → Int32} {df : Nat → Int32} : KX0_copyRows l D ca ad [.ref 16, .ref 10, .int 0, .int 1] (XW n vs be de sz ro co mi T B hd df) none (XW n vs be de sz ro co mi T (cpX B 7 6 0 1) hd df) := by
  refine PX0_copyRows (Nat.le_of_ble_eq_true rfl) ?_
  intro G hT hC hR
  refine mB hT 19 rfl ?_
  refine hC _ 12 18 _ _ _ _ rfl rfl rfl rfl (by decide) ?_
  refine mB hT 5 rfl ?_
  exact hR _ (by decide) _ _ _ rfl rfl
set_option maxRecDepth 20000 in
theorem c_copy_7_6_0_2 {n vs : Int32} {be de : Int64} {sz : Int32} {ro co mi : Nat → Int64} {T : Nat → Nat → Int64} {B : Nat → Nat → Nat → Int32} {hd : Nat → Nat → Int32} {df : Nat → Int32} : KX0_copyRows l D ca ad [.ref 16, .ref 10, .int 0, .int 2] (XW n vs be de sz ro co mi T B hd df) none (XW n vs be de sz ro co mi T (cpX B 7 6 0 2) hd df) := by
  refine PX0_copyRows (Nat.le_of_ble_eq_true rfl) ?_
  intro G hT hC hR
  refine mB hT 19 rfl ?_
  refine hC _ 12 18 _ _ _ _ rfl rfl rfl rfl (by decide) ?_
  refine mB hT 19 rfl ?_
  refine mNf (lv2 := [(4, .int 1), (0, .ref 16), (1, .ref 10), (2, .int 0), (3, .int 2)]) (st2 := [.int 23, .int 0, .ref 19, .int 0, .ref 13]) rfl rfl ?_
  refine mWd (w2 := (XW n vs be de sz ro co mi T (up B 7 (up (B 7) 0 (B 6 0))) hd df)) rfl ?_
  refine hC _ 13 19 _ _ _ _ rfl rfl rfl rfl (by decide) ?_
  refine mB hT 5 rfl ?_
  exact hR _ (by decide) _ _ _ rfl rfl
set_option maxRecDepth 20000 in
theorem c_copy_7_6_0_3 {n vs : Int32} {be de : Int64} {sz : Int32} {ro co mi : Nat → Int64} {T : Nat → Nat → Int64} {B : Nat → Nat → Nat → Int32} {hd : Nat → Nat → Int32} {df : Nat → Int32} : KX0_copyRows l D ca ad [.ref 16, .ref 10, .int 0, .int 3] (XW n vs be de sz ro co mi T B hd df) none (XW n vs be de sz ro co mi T (cpX B 7 6 0 3) hd df) := by
  refine PX0_copyRows (Nat.le_of_ble_eq_true rfl) ?_
  intro G hT hC hR
  refine mB hT 19 rfl ?_
  refine hC _ 12 18 _ _ _ _ rfl rfl rfl rfl (by decide) ?_
  refine mB hT 19 rfl ?_
  refine mNf (lv2 := [(4, .int 1), (0, .ref 16), (1, .ref 10), (2, .int 0), (3, .int 3)]) (st2 := [.int 23, .int 0, .ref 19, .int 0, .ref 13]) rfl rfl ?_
  refine mWd (w2 := (XW n vs be de sz ro co mi T (up B 7 (up (B 7) 0 (B 6 0))) hd df)) rfl ?_
  refine hC _ 13 19 _ _ _ _ rfl rfl rfl rfl (by decide) ?_
  refine mB hT 19 rfl ?_
  refine mWd (w2 := (XW n vs be de sz ro co mi T (up B 7 (up (up (B 7) 0 (B 6 0)) 1 (B 6 1))) hd df)) rfl ?_
  refine hC _ 14 20 _ _ _ _ rfl rfl rfl rfl (by decide) ?_
  refine mB hT 5 rfl ?_
  exact hR _ (by decide) _ _ _ rfl rfl
set_option maxRecDepth 20000 in
theorem c_copy_7_6_0_4 {n vs : Int32} {be de : Int64} {sz : Int32} {ro co mi : Nat → Int64} {T : Nat → Nat → Int64} {B : Nat → Nat → Nat → Int32} {hd : Nat → Nat → Int32} {df : Nat → Int32} : KX0_copyRows l D ca ad [.ref 16, .ref 10, .int 0, .int 4] (XW n vs be de sz ro co mi T B hd df) none (XW n vs be de sz ro co mi T (cpX B 7 6 0 4) hd df) := by
  refine PX0_copyRows (Nat.le_of_ble_eq_true rfl) ?_
  intro G hT hC hR
  refine mB hT 19 rfl ?_
  refine hC _ 12 18 _ _ _ _ rfl rfl rfl rfl (by decide) ?_
  refine mB hT 19 rfl ?_
  refine mNf (lv2 := [(4, .int 1), (0, .ref 16), (1, .ref 10), (2, .int 0), (3, .int 4)]) (st2 := [.int 23, .int 0, .ref 19, .int 0, .ref 13]) rfl rfl ?_
  refine mWd (w2 := (XW n vs be de sz ro co mi T (up B 7 (up (B 7) 0 (B 6 0))) hd df)) rfl ?_
  refine hC _ 13 19 _ _ _ _ rfl rfl rfl rfl (by decide) ?_
  refine mB hT 19 rfl ?_
  refine mWd (w2 := (XW n vs be de sz ro co mi T (up B 7 (up (up (B 7) 0 (B 6 0)) 1 (B 6 1))) hd df)) rfl ?_
  refine hC _ 14 20 _ _ _ _ rfl rfl rfl rfl (by decide) ?_
  refine mB hT 19 rfl ?_
  refine mNf (lv2 := [(4, .int 3), (0, .ref 16), (1, .ref 10), (2, .int 0), (3, .int 4)]) (st2 := [.int 23, .int 0, .ref 21, .int 0, .ref 15]) rfl rfl ?_
  refine mWd (w2 := (XW n vs be de sz ro co mi T (up B 7 (up (up (up (B 7) 0 (B 6 0)) 1 (B 6 1)) 2 (B 6 2))) hd df)) rfl ?_
  refine hC _ 15 21 _ _ _ _ rfl rfl rfl rfl (by decide) ?_
  refine mB hT 5 rfl ?_
  exact hR _ (by decide) _ _ _ rfl rfl
set_option maxRecDepth 20000 in
theorem c_copy_7_0_0_4 {n vs : Int32} {be de : Int64} {sz : Int32} {ro co mi : Nat → Int64} {T : Nat → Nat → Int64} {B : Nat → Nat → Nat → Int32} {hd : Nat → Nat → Int32} {df : Nat → Int32} : KX0_copyRows l D ca ad [.ref 16, .ref 29, .int 0, .int 4] (XW n vs be de sz ro co mi T B hd df) none (XW n vs be de sz ro co mi T (cpX B 7 0 0 4) hd df) := by
  refine PX0_copyRows (Nat.le_of_ble_eq_true rfl) ?_
  intro G hT hC hR
  refine mB hT 19 rfl ?_
  refine hC _ 31 18 _ _ _ _ rfl rfl rfl rfl (by decide) ?_
  refine mB hT 19 rfl ?_
  refine mNf (lv2 := [(4, .int 1), (0, .ref 16), (1, .ref 29), (2, .int 0), (3, .int 4)]) (st2 := [.int 23, .int 0, .ref 19, .int 0, .ref 32]) rfl rfl ?_
  refine mWd (w2 := (XW n vs be de sz ro co mi T (up B 7 (up (B 7) 0 (B 0 0))) hd df)) rfl ?_
  refine hC _ 32 19 _ _ _ _ rfl rfl rfl rfl (by decide) ?_
  refine mB hT 19 rfl ?_
  refine mWd (w2 := (XW n vs be de sz ro co mi T (up B 7 (up (up (B 7) 0 (B 0 0)) 1 (B 0 1))) hd df)) rfl ?_
  refine hC _ 33 20 _ _ _ _ rfl rfl rfl rfl (by decide) ?_
  refine mB hT 19 rfl ?_
  refine mNf (lv2 := [(4, .int 3), (0, .ref 16), (1, .ref 29), (2, .int 0), (3, .int 4)]) (st2 := [.int 23, .int 0, .ref 21, .int 0, .ref 34]) rfl rfl ?_
  refine mWd (w2 := (XW n vs be de sz ro co mi T (up B 7 (up (up (up (B 7) 0 (B 0 0)) 1 (B 0 1)) 2 (B 0 2))) hd df)) rfl ?_
  refine hC _ 34 21 _ _ _ _ rfl rfl rfl rfl (by decide) ?_
  refine mB hT 5 rfl ?_
  exact hR _ (by decide) _ _ _ rfl rfl
set_option maxRecDepth 20000 in
theorem c_copy_7_0_1_4 {n vs : Int32} {be de : Int64} {sz : Int32} {ro co mi : Nat → Int64} {T : Nat → Nat → Int64} {B : Nat → Nat → Nat → Int32} {hd : Nat → Nat → Int32} {df : Nat → Int32} : KX0_copyRows l D ca ad [.ref 16, .ref 29, .int 1, .int 4] (XW n vs be de sz ro co mi T B hd df) none (XW n vs be de sz ro co mi T (cpX B 7 0 1 4) hd df) := by
  refine PX0_copyRows (Nat.le_of_ble_eq_true rfl) ?_
  intro G hT hC hR
  refine mB hT 19 rfl ?_
  refine hC _ 32 19 _ _ _ _ rfl rfl rfl rfl (by decide) ?_
  refine mB hT 19 rfl ?_
  refine mNf (lv2 := [(4, .int 2), (0, .ref 16), (1, .ref 29), (2, .int 1), (3, .int 4)]) (st2 := [.int 23, .int 0, .ref 20, .int 0, .ref 33]) rfl rfl ?_
  refine mWd (w2 := (XW n vs be de sz ro co mi T (up B 7 (up (B 7) 1 (B 0 1))) hd df)) rfl ?_
  refine hC _ 33 20 _ _ _ _ rfl rfl rfl rfl (by decide) ?_
  refine mB hT 19 rfl ?_
  refine mWd (w2 := (XW n vs be de sz ro co mi T (up B 7 (up (up (B 7) 1 (B 0 1)) 2 (B 0 2))) hd df)) rfl ?_
  refine hC _ 34 21 _ _ _ _ rfl rfl rfl rfl (by decide) ?_
  refine mB hT 5 rfl ?_
  exact hR _ (by decide) _ _ _ rfl rfl
set_option maxRecDepth 20000 in
theorem c_copy_7_0_2_4 {n vs : Int32} {be de : Int64} {sz : Int32} {ro co mi : Nat → Int64} {T : Nat → Nat → Int64} {B : Nat → Nat → Nat → Int32} {hd : Nat → Nat → Int32} {df : Nat → Int32} : KX0_copyRows l D ca ad [.ref 16, .ref 29, .int 2, .int 4] (XW n vs be de sz ro co mi T B hd df) none (XW n vs be de sz ro co mi T (cpX B 7 0 2 4) hd df) := by
  refine PX0_copyRows (Nat.le_of_ble_eq_true rfl) ?_
  intro G hT hC hR
  refine mB hT 19 rfl ?_
  refine hC _ 33 20 _ _ _ _ rfl rfl rfl rfl (by decide) ?_
  refine mB hT 19 rfl ?_
  refine mNf (lv2 := [(4, .int 3), (0, .ref 16), (1, .ref 29), (2, .int 2), (3, .int 4)]) (st2 := [.int 23, .int 0, .ref 21, .int 0, .ref 34]) rfl rfl ?_
  refine mWd (w2 := (XW n vs be de sz ro co mi T (up B 7 (up (B 7) 2 (B 0 2))) hd df)) rfl ?_
  refine hC _ 34 21 _ _ _ _ rfl rfl rfl rfl (by decide) ?_
  refine mB hT 5 rfl ?_
  exact hR _ (by decide) _ _ _ rfl rfl
set_option maxRecDepth 20000 in
theorem c_copy_7_0_3_4 {n vs : Int32} {be de : Int64} {sz : Int32} {ro co mi : Nat → Int64} {T : Nat → Nat → Int64} {B : Nat → Nat → Nat → Int32} {hd : Nat → Nat → Int32} {df : Nat → Int32} : KX0_copyRows l D ca ad [.ref 16, .ref 29, .int 3, .int 4] (XW n vs be de sz ro co mi T B hd df) none (XW n vs be de sz ro co mi T (cpX B 7 0 3 4) hd df) := by
  refine PX0_copyRows (Nat.le_of_ble_eq_true rfl) ?_
  intro G hT hC hR
  refine mB hT 19 rfl ?_
  refine hC _ 34 21 _ _ _ _ rfl rfl rfl rfl (by decide) ?_
  refine mB hT 5 rfl ?_
  exact hR _ (by decide) _ _ _ rfl rfl
set_option maxRecDepth 20000 in
theorem c_copy_7_0_4_4 {n vs : Int32} {be de : Int64} {sz : Int32} {ro co mi : Nat → Int64} {T : Nat → Nat → Int64} {B : Nat → Nat → Nat → Int32} {hd : Nat → Nat → Int32} {df : Nat → Int32} : KX0_copyRows l D ca ad [.ref 16, .ref 29, .int 4, .int 4] (XW n vs be de sz ro co mi T B hd df) none (XW n vs be de sz ro co mi T (cpX B 7 0 4 4) hd df) := by
  refine PX0_copyRows (Nat.le_of_ble_eq_true rfl) ?_
  intro G hT hC hR
  refine mB hT 5 rfl ?_
  exact hR _ (by decide) _ _ _ rfl rfl
set_option maxRecDepth 20000 in
theorem c_copy_7_1_0_4 {n vs : Int32} {be de : Int64} {sz : Int32} {ro co mi : Nat → Int64} {T : Nat → Nat → Int64} {B : Nat → Nat → Nat → Int32} {hd : Nat → Nat → Int32} {df : Nat → Int32} : KX0_copyRows l D ca ad [.ref 16, .ref 35, .int 0, .int 4] (XW n vs be de sz ro co mi T B hd df) none (XW n vs be de sz ro co mi T (cpX B 7 1 0 4) hd df) := by
  refine PX0_copyRows (Nat.le_of_ble_eq_true rfl) ?_
  intro G hT hC hR
  refine mB hT 19 rfl ?_
  refine hC _ 37 18 _ _ _ _ rfl rfl rfl rfl (by decide) ?_
  refine mB hT 19 rfl ?_
  refine mNf (lv2 := [(4, .int 1), (0, .ref 16), (1, .ref 35), (2, .int 0), (3, .int 4)]) (st2 := [.int 23, .int 0, .ref 19, .int 0, .ref 38]) rfl rfl ?_
  refine mWd (w2 := (XW n vs be de sz ro co mi T (up B 7 (up (B 7) 0 (B 1 0))) hd df)) rfl ?_
  refine hC _ 38 19 _ _ _ _ rfl rfl rfl rfl (by decide) ?_
  refine mB hT 19 rfl ?_
  refine mWd (w2 := (XW n vs be de sz ro co mi T (up B 7 (up (up (B 7) 0 (B 1 0)) 1 (B 1 1))) hd df)) rfl ?_
  refine hC _ 39 20 _ _ _ _ rfl rfl rfl rfl (by decide) ?_
  refine mB hT 19 rfl ?_
  refine mNf (lv2 := [(4, .int 3), (0, .ref 16), (1, .ref 35), (2, .int 0), (3, .int 4)]) (st2 := [.int 23, .int 0, .ref 21, .int 0, .ref 40]) rfl rfl ?_
  refine mWd (w2 := (XW n vs be de sz ro co mi T (up B 7 (up (up (up (B 7) 0 (B 1 0)) 1 (B 1 1)) 2 (B 1 2))) hd df)) rfl ?_
  refine hC _ 40 21 _ _ _ _ rfl rfl rfl rfl (by decide) ?_
  refine mB hT 5 rfl ?_
  exact hR _ (by decide) _ _ _ rfl rfl
set_option maxRecDepth 20000 in
theorem c_copy_7_1_1_4 {n vs : Int32} {be de : Int64} {sz : Int32} {ro co mi : Nat → Int64} {T : Nat → Nat → Int64} {B : Nat → Nat → Nat → Int32} {hd : Nat → Nat → Int32} {df : Nat → Int32} : KX0_copyRows l D ca ad [.ref 16, .ref 35, .int 1, .int 4] (XW n vs be de sz ro co mi T B hd df) none (XW n vs be de sz ro co mi T (cpX B 7 1 1 4) hd df) := by
  refine PX0_copyRows (Nat.le_of_ble_eq_true rfl) ?_
  intro G hT hC hR
  refine mB hT 19 rfl ?_
  refine hC _ 38 19 _ _ _ _ rfl rfl rfl rfl (by decide) ?_
  refine mB hT 19 rfl ?_
  refine mNf (lv2 := [(4, .int 2), (0, .ref 16), (1, .ref 35), (2, .int 1), (3, .int 4)]) (st2 := [.int 23, .int 0, .ref 20, .int 0, .ref 39]) rfl rfl ?_
  refine mWd (w2 := (XW n vs be de sz ro co mi T (up B 7 (up (B 7) 1 (B 1 1))) hd df)) rfl ?_
  refine hC _ 39 20 _ _ _ _ rfl rfl rfl rfl (by decide) ?_
  refine mB hT 19 rfl ?_
  refine mWd (w2 := (XW n vs be de sz ro co mi T (up B 7 (up (up (B 7) 1 (B 1 1)) 2 (B 1 2))) hd df)) rfl ?_
  refine hC _ 40 21 _ _ _ _ rfl rfl rfl rfl (by decide) ?_
  refine mB hT 5 rfl ?_
  exact hR _ (by decide) _ _ _ rfl rfl
set_option maxRecDepth 20000 in
theorem c_copy_7_1_2_4 {n vs : Int32} {be de : Int64} {sz : Int32} {ro co mi : Nat → Int64} {T : Nat → Nat → Int64} {B : Nat → Nat → Nat → Int32} {hd : Nat → Nat → Int32} {df : Nat → Int32} : KX0_copyRows l D ca ad [.ref 16, .ref 35, .int 2, .int 4] (XW n vs be de sz ro co mi T B hd df) none (XW n vs be de sz ro co mi T (cpX B 7 1 2 4) hd df) := by
  refine PX0_copyRows (Nat.le_of_ble_eq_true rfl) ?_
  intro G hT hC hR
  refine mB hT 19 rfl ?_
  refine hC _ 39 20 _ _ _ _ rfl rfl rfl rfl (by decide) ?_
  refine mB hT 19 rfl ?_
  refine mNf (lv2 := [(4, .int 3), (0, .ref 16), (1, .ref 35), (2, .int 2), (3, .int 4)]) (st2 := [.int 23, .int 0, .ref 21, .int 0, .ref 40]) rfl rfl ?_
  refine mWd (w2 := (XW n vs be de sz ro co mi T (up B 7 (up (B 7) 2 (B 1 2))) hd df)) rfl ?_
  refine hC _ 40 21 _ _ _ _ rfl rfl rfl rfl (by decide) ?_
  refine mB hT 5 rfl ?_
  exact hR _ (by decide) _ _ _ rfl rfl
set_option maxRecDepth 20000 in
theorem c_copy_7_1_3_4 {n vs : Int32} {be de : Int64} {sz : Int32} {ro co mi : Nat → Int64} {T : Nat → Nat → Int64} {B : Nat → Nat → Nat → Int32} {hd : Nat → Nat → Int32} {df : Nat → Int32} : KX0_copyRows l D ca ad [.ref 16, .ref 35, .int 3, .int 4] (XW n vs be de sz ro co mi T B hd df) none (XW n vs be de sz ro co mi T (cpX B 7 1 3 4) hd df) := by
  refine PX0_copyRows (Nat.le_of_ble_eq_true rfl) ?_
  intro G hT hC hR
  refine mB hT 19 rfl ?_
  refine hC _ 40 21 _ _ _ _ rfl rfl rfl rfl (by decide) ?_
  refine mB hT 5 rfl ?_
  exact hR _ (by decide) _ _ _ rfl rfl
set_option maxRecDepth 20000 in
theorem c_copy_7_1_4_4 {n vs : Int32} {be de : Int64} {sz : Int32} {ro co mi : Nat → Int64} {T : Nat → Nat → Int64} {B : Nat → Nat → Nat → Int32} {hd : Nat → Nat → Int32} {df : Nat → Int32} : KX0_copyRows l D ca ad [.ref 16, .ref 35, .int 4, .int 4] (XW n vs be de sz ro co mi T B hd df) none (XW n vs be de sz ro co mi T (cpX B 7 1 4 4) hd df) := by
  refine PX0_copyRows (Nat.le_of_ble_eq_true rfl) ?_
  intro G hT hC hR
  refine mB hT 5 rfl ?_
  exact hR _ (by decide) _ _ _ rfl rfl
set_option maxRecDepth 20000 in
theorem c_copy_7_2_0_4 {n vs : Int32} {be de : Int64} {sz : Int32} {ro co mi : Nat → Int64} {T : Nat → Nat → Int64} {B : Nat → Nat → Nat → Int32} {hd : Nat → Nat → Int32} {df : Nat → Int32} : KX0_copyRows l D ca ad [.ref 16, .ref 41, .int 0, .int 4] (XW n vs be de sz ro co mi T B hd df) none (XW n vs be de sz ro co mi T (cpX B 7 2 0 4) hd df) := by
  refine PX0_copyRows (Nat.le_of_ble_eq_true rfl) ?_
  intro G hT hC hR
  refine mB hT 19 rfl ?_
  refine hC _ 43 18 _ _ _ _ rfl rfl rfl rfl (by decide) ?_
  refine mB hT 19 rfl ?_
  refine mNf (lv2 := [(4, .int 1), (0, .ref 16), (1, .ref 41), (2, .int 0), (3, .int 4)]) (st2 := [.int 23, .int 0, .ref 19, .int 0, .ref 44]) rfl rfl ?_
  refine mWd (w2 := (XW n vs be de sz ro co mi T (up B 7 (up (B 7) 0 (B 2 0))) hd df)) rfl ?_
  refine hC _ 44 19 _ _ _ _ rfl rfl rfl rfl (by decide) ?_
  refine mB hT 19 rfl ?_
  refine mWd (w2 := (XW n vs be de sz ro co mi T (up B 7 (up (up (B 7) 0 (B 2 0)) 1 (B 2 1))) hd df)) rfl ?_
  refine hC _ 45 20 _ _ _ _ rfl rfl rfl rfl (by decide) ?_
  refine mB hT 19 rfl ?_
  refine mNf (lv2 := [(4, .int 3), (0, .ref 16), (1, .ref 41), (2, .int 0), (3, .int 4)]) (st2 := [.int 23, .int 0, .ref 21, .int 0, .ref 46]) rfl rfl ?_
  refine mWd (w2 := (XW n vs be de sz ro co mi T (up B 7 (up (up (up (B 7) 0 (B 2 0)) 1 (B 2 1)) 2 (B 2 2))) hd df)) rfl ?_
  refine hC _ 46 21 _ _ _ _ rfl rfl rfl rfl (by decide) ?_
  refine mB hT 5 rfl ?_
  exact hR _ (by decide) _ _ _ rfl rfl
set_option maxRecDepth 20000 in
theorem c_copy_7_2_1_4 {n vs : Int32} {be de : Int64} {sz : Int32} {ro co mi : Nat → Int64} {T : Nat → Nat → Int64} {B : Nat → Nat → Nat → Int32} {hd : Nat → Nat → Int32} {df : Nat → Int32} : KX0_copyRows l D ca ad [.ref 16, .ref 41, .int 1, .int 4] (XW n vs be de sz ro co mi T B hd df) none (XW n vs be de sz ro co mi T (cpX B 7 2 1 4) hd df) := by
  refine PX0_copyRows (Nat.le_of_ble_eq_true rfl) ?_
  intro G hT hC hR
  refine mB hT 19 rfl ?_
  refine hC _ 44 19 _ _ _ _ rfl rfl rfl rfl (by decide) ?_
  refine mB hT 19 rfl ?_
  refine mNf (lv2 := [(4, .int 2), (0, .ref 16), (1, .ref 41), (2, .int 1), (3, .int 4)]) (st2 := [.int 23, .int 0, .ref 20, .int 0, .ref 45]) rfl rfl ?_
  refine mWd (w2 := (XW n vs be de sz ro co mi T (up B 7 (up (B 7) 1 (B 2 1))) hd df)) rfl ?_
  refine hC _ 45 20 _ _ _ _ rfl rfl rfl rfl (by decide) ?_
  refine mB hT 19 rfl ?_
  refine mWd (w2 := (XW n vs be de sz ro co mi T (up B 7 (up (up (B 7) 1 (B 2 1)) 2 (B 2 2))) hd df)) rfl ?_
  refine hC _ 46 21 _ _ _ _ rfl rfl rfl rfl (by decide) ?_
  refine mB hT 5 rfl ?_
  exact hR _ (by decide) _ _ _ rfl rfl
set_option maxRecDepth 20000 in
theorem c_copy_7_2_2_4 {n vs : Int32} {be de : Int64} {sz : Int32} {ro co mi : Nat → Int64} {T : Nat → Nat → Int64} {B : Nat → Nat → Nat → Int32} {hd : Nat → Nat → Int32} {df : Nat → Int32} : KX0_copyRows l D ca ad [.ref 16, .ref 41, .int 2, .int 4] (XW n vs be de sz ro co mi T B hd df) none (XW n vs be de sz ro co mi T (cpX B 7 2 2 4) hd df) := by
  refine PX0_copyRows (Nat.le_of_ble_eq_true rfl) ?_
  intro G hT hC hR
  refine mB hT 19 rfl ?_
  refine hC _ 45 20 _ _ _ _ rfl rfl rfl rfl (by decide) ?_
  refine mB hT 19 rfl ?_
  refine mNf (lv2 := [(4, .int 3), (0, .ref 16), (1, .ref 41), (2, .int 2), (3, .int 4)]) (st2 := [.int 23, .int 0, .ref 21, .int 0, .ref 46]) rfl rfl ?_
  refine mWd (w2 := (XW n vs be de sz ro co mi T (up B 7 (up (B 7) 2 (B 2 2))) hd df)) rfl ?_
  refine hC _ 46 21 _ _ _ _ rfl rfl rfl rfl (by decide) ?_
  refine mB hT 5 rfl ?_
  exact hR _ (by decide) _ _ _ rfl rfl
set_option maxRecDepth 20000 in
theorem c_copy_7_2_3_4 {n vs : Int32} {be de : Int64} {sz : Int32} {ro co mi : Nat → Int64} {T : Nat → Nat → Int64} {B : Nat → Nat → Nat → Int32} {hd : Nat → Nat → Int32} {df : Nat → Int32} : KX0_copyRows l D ca ad [.ref 16, .ref 41, .int 3, .int 4] (XW n vs be de sz ro co mi T B hd df) none (XW n vs be de sz ro co mi T (cpX B 7 2 3 4) hd df) := by
  refine PX0_copyRows (Nat.le_of_ble_eq_true rfl) ?_
  intro G hT hC hR
  refine mB hT 19 rfl ?_
  refine hC _ 46 21 _ _ _ _ rfl rfl rfl rfl (by decide) ?_
  refine mB hT 5 rfl ?_
  exact hR _ (by decide) _ _ _ rfl rfl
set_option maxRecDepth 20000 in
theorem c_copy_7_2_4_4 {n vs : Int32} {be de : Int64} {sz : Int32} {ro co mi : Nat → Int64} {T : Nat → Nat → Int64} {B : Nat → Nat → Nat → Int32} {hd : Nat → Nat → Int32} {df : Nat → Int32} : KX0_copyRows l D ca ad [.ref 16, .ref 41, .int 4, .int 4] (XW n vs be de sz ro co mi T B hd df) none (XW n vs be de sz ro co mi T (cpX B 7 2 4 4) hd df) := by
  refine PX0_copyRows (Nat.le_of_ble_eq_true rfl) ?_
  intro G hT hC hR
  refine mB hT 5 rfl ?_
  exact hR _ (by decide) _ _ _ rfl rfl
set_option maxRecDepth 20000 in
theorem c_copy_7_3_0_4 {n vs : Int32} {be de : Int64} {sz : Int32} {ro co mi : Nat → Int64} {T : Nat → Nat → Int64} {B : Nat → Nat → Nat → Int32} {hd : Nat → Nat → Int32} {df : Nat → Int32} : KX0_copyRows l D ca ad [.ref 16, .ref 47, .int 0, .int 4] (XW n vs be de sz ro co mi T B hd df) none (XW n vs be de sz ro co mi T (cpX B 7 3 0 4) hd df) := by
  refine PX0_copyRows (Nat.le_of_ble_eq_true rfl) ?_
  intro G hT hC hR
  refine mB hT 19 rfl ?_
  refine hC _ 49 18 _ _ _ _ rfl rfl rfl rfl (by decide) ?_
  refine mB hT 19 rfl ?_
  refine mNf (lv2 := [(4, .int 1), (0, .ref 16), (1, .ref 47), (2, .int 0), (3, .int 4)]) (st2 := [.int 23, .int 0, .ref 19, .int 0, .ref 50]) rfl rfl ?_
  refine mWd (w2 := (XW n vs be de sz ro co mi T (up B 7 (up (B 7) 0 (B 3 0))) hd df)) rfl ?_
  refine hC _ 50 19 _ _ _ _ rfl rfl rfl rfl (by decide) ?_
  refine mB hT 19 rfl ?_
  refine mWd (w2 := (XW n vs be de sz ro co mi T (up B 7 (up (up (B 7) 0 (B 3 0)) 1 (B 3 1))) hd df)) rfl ?_
  refine hC _ 51 20 _ _ _ _ rfl rfl rfl rfl (by decide) ?_
  refine mB hT 19 rfl ?_
  refine mNf (lv2 := [(4, .int 3), (0, .ref 16), (1, .ref 47), (2, .int 0), (3, .int 4)]) (st2 := [.int 23, .int 0, .ref 21, .int 0, .ref 52]) rfl rfl ?_
  refine mWd (w2 := (XW n vs be de sz ro co mi T (up B 7 (up (up (up (B 7) 0 (B 3 0)) 1 (B 3 1)) 2 (B 3 2))) hd df)) rfl ?_
  refine hC _ 52 21 _ _ _ _ rfl rfl rfl rfl (by decide) ?_
  refine mB hT 5 rfl ?_
  exact hR _ (by decide) _ _ _ rfl rfl
set_option maxRecDepth 20000 in
theorem c_copy_7_3_1_4 {n vs : Int32} {be de : Int64} {sz : Int32} {ro co mi : Nat → Int64} {T : Nat → Nat → Int64} {B : Nat → Nat → Nat → Int32} {hd : Nat → Nat → Int32} {df : Nat → Int32} : KX0_copyRows l D ca ad [.ref 16, .ref 47, .int 1, .int 4] (XW n vs be de sz ro co mi T B hd df) none (XW n vs be de sz ro co mi T (cpX B 7 3 1 4) hd df) := by
  refine PX0_copyRows (Nat.le_of_ble_eq_true rfl) ?_
  intro G hT hC hR
  refine mB hT 19 rfl ?_
  refine hC _ 50 19 _ _ _ _ rfl rfl rfl rfl (by decide) ?_
  refine mB hT 19 rfl ?_
  refine mNf (lv2 := [(4, .int 2), (0, .ref 16), (1, .ref 47), (2, .int 1), (3, .int 4)]) (st2 := [.int 23, .int 0, .ref 20, .int 0, .ref 51]) rfl rfl ?_
  refine mWd (w2 := (XW n vs be de sz ro co mi T (up B 7 (up (B 7) 1 (B 3 1))) hd df)) rfl ?_
  refine hC _ 51 20 _ _ _ _ rfl rfl rfl rfl (by decide) ?_
  refine mB hT 19 rfl ?_
  refine mWd (w2 := (XW n vs be de sz ro co mi T (up B 7 (up (up (B 7) 1 (B 3 1)) 2 (B 3 2))) hd df)) rfl ?_
  refine hC _ 52 21 _ _ _ _ rfl rfl rfl rfl (by decide) ?_
  refine mB hT 5 rfl ?_
  exact hR _ (by decide) _ _ _ rfl rfl
set_option maxRecDepth 20000 in
theorem c_copy_7_3_2_4 {n vs : Int32} {be de : Int64} {sz : Int32} {ro co mi : Nat → Int64} {T : Nat → Nat → Int64} {B : Nat → Nat → Nat → Int32} {hd : Nat → Nat → Int32} {df : Nat → Int32} : KX0_copyRows l D ca ad [.ref 16, .ref 47, .int 2, .int 4] (XW n vs be de sz ro co mi T B hd df) none (XW n vs be de sz ro co mi T (cpX B 7 3 2 4) hd df) := by
  refine PX0_copyRows (Nat.le_of_ble_eq_true rfl) ?_
  intro G hT hC hR
  refine mB hT 19 rfl ?_
  refine hC _ 51 20 _ _ _ _ rfl rfl rfl rfl (by decide) ?_
  refine mB hT 19 rfl ?_
  refine mNf (lv2 := [(4, .int 3), (0, .ref 16), (1, .ref 47), (2, .int 2), (3, .int 4)]) (st2 := [.int 23, .int 0, .ref 21, .int 0, .ref 52]) rfl rfl ?_
  refine mWd (w2 := (XW n vs be de sz ro co mi T (up B 7 (up (B 7) 2 (B 3 2))) hd df)) rfl ?_
  refine hC _ 52 21 _ _ _ _ rfl rfl rfl rfl (by decide) ?_
  refine mB hT 5 rfl ?_
  exact hR _ (by decide) _ _ _ rfl rfl
set_option maxRecDepth 20000 in
theorem c_copy_7_3_3_4 {n vs : Int32} {be de : Int64} {sz : Int32} {ro co mi : Nat → Int64} {T : Nat → Nat → Int64} {B : Nat → Nat → Nat → Int32} {hd : Nat → Nat → Int32} {df : Nat → Int32} : KX0_copyRows l D ca ad [.ref 16, .ref 47, .int 3, .int 4] (XW n vs be de sz ro co mi T B hd df) none (XW n vs be de sz ro co mi T (cpX B 7 3 3 4) hd df) := by
  refine PX0_copyRows (Nat.le_of_ble_eq_true rfl) ?_
  intro G hT hC hR
  refine mB hT 19 rfl ?_
  refine hC _ 52 21 _ _ _ _ rfl rfl rfl rfl (by decide) ?_
  refine mB hT 5 rfl ?_
  exact hR _ (by decide) _ _ _ rfl rfl
set_option maxRecDepth 20000 in
theorem c_copy_7_3_4_4 {n vs : Int32} {be de : Int64} {sz : Int32} {ro co mi : Nat → Int64} {T : Nat → Nat → Int64} {B : Nat → Nat → Nat → Int32} {hd : Nat → Nat → Int32} {df : Nat → Int32} : KX0_copyRows l D ca ad [.ref 16, .ref 47, .int 4, .int 4] (XW n vs be de sz ro co mi T B hd df) none (XW n vs be de sz ro co mi T (cpX B 7 3 4 4) hd df) := by
  refine PX0_copyRows (Nat.le_of_ble_eq_true rfl) ?_
  intro G hT hC hR
  refine mB hT 5 rfl ?_
  exact hR _ (by decide) _ _ _ rfl rfl
set_option maxRecDepth 20000 in
theorem c_copy_7_4_0_4 {n vs : Int32} {be de : Int64} {sz : Int32} {ro co mi : Nat → Int64} {T : Nat → Nat → Int64} {B : Nat → Nat → Nat → Int32} {hd : Nat → Nat → Int32} {df : Nat → Int32} : KX0_copyRows l D ca ad [.ref 16, .ref 53, .int 0, .int 4] (XW n vs be de sz ro co mi T B hd df) none (XW n vs be de sz ro co mi T (cpX B 7 4 0 4) hd df) := by
  refine PX0_copyRows (Nat.le_of_ble_eq_true rfl) ?_
  intro G hT hC hR
  refine mB hT 19 rfl ?_
  refine hC _ 55 18 _ _ _ _ rfl rfl rfl rfl (by decide) ?_
  refine mB hT 19 rfl ?_
  refine mNf (lv2 := [(4, .int 1), (0, .ref 16), (1, .ref 53), (2, .int 0), (3, .int 4)]) (st2 := [.int 23, .int 0, .ref 19, .int 0, .ref 56]) rfl rfl ?_
  refine mWd (w2 := (XW n vs be de sz ro co mi T (up B 7 (up (B 7) 0 (B 4 0))) hd df)) rfl ?_
  refine hC _ 56 19 _ _ _ _ rfl rfl rfl rfl (by decide) ?_
  refine mB hT 19 rfl ?_
  refine mWd (w2 := (XW n vs be de sz ro co mi T (up B 7 (up (up (B 7) 0 (B 4 0)) 1 (B 4 1))) hd df)) rfl ?_
  refine hC _ 57 20 _ _ _ _ rfl rfl rfl rfl (by decide) ?_
  refine mB hT 19 rfl ?_
  refine mNf (lv2 := [(4, .int 3), (0, .ref 16), (1, .ref 53), (2, .int 0), (3, .int 4)]) (st2 := [.int 23, .int 0, .ref 21, .int 0, .ref 58]) rfl rfl ?_
  refine mWd (w2 := (XW n vs be de sz ro co mi T (up B 7 (up (up (up (B 7) 0 (B 4 0)) 1 (B 4 1)) 2 (B 4 2))) hd df)) rfl ?_
  refine hC _ 58 21 _ _ _ _ rfl rfl rfl rfl (by decide) ?_
  refine mB hT 5 rfl ?_
  exact hR _ (by decide) _ _ _ rfl rfl
set_option maxRecDepth 20000 in
theorem c_copy_7_4_1_4 {n vs : Int32} {be de : Int64} {sz : Int32} {ro co mi : Nat → Int64} {T : Nat → Nat → Int64} {B : Nat → Nat → Nat → Int32} {hd : Nat → Nat → Int32} {df : Nat → Int32} : KX0_copyRows l D ca ad [.ref 16, .ref 53, .int 1, .int 4] (XW n vs be de sz ro co mi T B hd df) none (XW n vs be de sz ro co mi T (cpX B 7 4 1 4) hd df) := by
  refine PX0_copyRows (Nat.le_of_ble_eq_true rfl) ?_
  intro G hT hC hR
  refine mB hT 19 rfl ?_
  refine hC _ 56 19 _ _ _ _ rfl rfl rfl rfl (by decide) ?_
  refine mB hT 19 rfl ?_
  refine mNf (lv2 := [(4, .int 2), (0, .ref 16), (1, .ref 53), (2, .int 1), (3, .int 4)]) (st2 := [.int 23, .int 0, .ref 20, .int 0, .ref 57]) rfl rfl ?_
  refine mWd (w2 := (XW n vs be de sz ro co mi T (up B 7 (up (B 7) 1 (B 4 1))) hd df)) rfl ?_
  refine hC _ 57 20 _ _ _ _ rfl rfl rfl rfl (by decide) ?_
  refine mB hT 19 rfl ?_
  refine mWd (w2 := (XW n vs be de sz ro co mi T (up B 7 (up (up (B 7) 1 (B 4 1)) 2 (B 4 2))) hd df)) rfl ?_
  refine hC _ 58 21 _ _ _ _ rfl rfl rfl rfl (by decide) ?_
  refine mB hT 5 rfl ?_
  exact hR _ (by decide) _ _ _ rfl rfl
set_option maxRecDepth 20000 in
theorem c_copy_7_4_2_4 {n vs : Int32} {be de : Int64} {sz : Int32} {ro co mi : Nat → Int64} {T : Nat → Nat → Int64} {B : Nat → Nat → Nat → Int32} {hd : Nat → Nat → Int32} {df : Nat → Int32} : KX0_copyRows l D ca ad [.ref 16, .ref 53, .int 2, .int 4] (XW n vs be de sz ro co mi T B hd df) none (XW n vs be de sz ro co mi T (cpX B 7 4 2 4) hd df) := by
  refine PX0_copyRows (Nat.le_of_ble_eq_true rfl) ?_
  intro G hT hC hR
  refine mB hT 19 rfl ?_
  refine hC _ 57 20 _ _ _ _ rfl rfl rfl rfl (by decide) ?_
  refine mB hT 19 rfl ?_
  refine mNf (lv2 := [(4, .int 3), (0, .ref 16), (1, .ref 53), (2, .int 2), (3, .int 4)]) (st2 := [.int 23, .int 0, .ref 21, .int 0, .ref 58]) rfl rfl ?_
  refine mWd (w2 := (XW n vs be de sz ro co mi T (up B 7 (up (B 7) 2 (B 4 2))) hd df)) rfl ?_
  refine hC _ 58 21 _ _ _ _ rfl rfl rfl rfl (by decide) ?_
  refine mB hT 5 rfl ?_
  exact hR _ (by decide) _ _ _ rfl rfl
set_option maxRecDepth 20000 in
theorem c_copy_7_4_3_4 {n vs : Int32} {be de : Int64} {sz : Int32} {ro co mi : Nat → Int64} {T : Nat → Nat → Int64} {B : Nat → Nat → Nat → Int32} {hd : Nat → Nat → Int32} {df : Nat → Int32} : KX0_copyRows l D ca ad [.ref 16, .ref 53, .int 3, .int 4] (XW n vs be de sz ro co mi T B hd df) none (XW n vs be de sz ro co mi T (cpX B 7 4 3 4) hd df) := by
  refine PX0_copyRows (Nat.le_of_ble_eq_true rfl) ?_
  intro G hT hC hR
  refine mB hT 19 rfl ?_
  refine hC _ 58 21 _ _ _ _ rfl rfl rfl rfl (by decide) ?_
  refine mB hT 5 rfl ?_
  exact hR _ (by decide) _ _ _ rfl rfl
set_option maxRecDepth 20000 in
theorem c_copy_7_4_4_4 {n vs : Int32} {be de : Int64} {sz : Int32} {ro co mi : Nat → Int64} {T : Nat → Nat → Int64} {B : Nat → Nat → Nat → Int32} {hd : Nat → Nat → Int32} {df : Nat → Int32} : KX0_copyRows l D ca ad [.ref 16, .ref 53, .int 4, .int 4] (XW n vs be de sz ro co mi T B hd df) none (XW n vs be de sz ro co mi T (cpX B 7 4 4 4) hd df) := by
  refine PX0_copyRows (Nat.le_of_ble_eq_true rfl) ?_
  intro G hT hC hR
  refine mB hT 5 rfl ?_
  exact hR _ (by decide) _ _ _ rfl rfl
set_option maxRecDepth 20000 in
theorem c_copy_7_5_0_4 {n vs : Int32} {be de : Int64} {sz : Int32} {ro co mi : Nat → Int64} {T : Nat → Nat → Int64} {B : Nat → Nat → Nat → Int32} {hd : Nat → Nat → Int32} {df : Nat → Int32} : KX0_copyRows l D ca ad [.ref 16, .ref 59, .int 0, .int 4] (XW n vs be de sz ro co mi T B hd df) none (XW n vs be de sz ro co mi T (cpX B 7 5 0 4) hd df) := by
  refine PX0_copyRows (Nat.le_of_ble_eq_true rfl) ?_
  intro G hT hC hR
  refine mB hT 19 rfl ?_
  refine hC _ 61 18 _ _ _ _ rfl rfl rfl rfl (by decide) ?_
  refine mB hT 19 rfl ?_
  refine mNf (lv2 := [(4, .int 1), (0, .ref 16), (1, .ref 59), (2, .int 0), (3, .int 4)]) (st2 := [.int 23, .int 0, .ref 19, .int 0, .ref 62]) rfl rfl ?_
  refine mWd (w2 := (XW n vs be de sz ro co mi T (up B 7 (up (B 7) 0 (B 5 0))) hd df)) rfl ?_
  refine hC _ 62 19 _ _ _ _ rfl rfl rfl rfl (by decide) ?_
  refine mB hT 19 rfl ?_
  refine mWd (w2 := (XW n vs be de sz ro co mi T (up B 7 (up (up (B 7) 0 (B 5 0)) 1 (B 5 1))) hd df)) rfl ?_
  refine hC _ 63 20 _ _ _ _ rfl rfl rfl rfl (by decide) ?_
  refine mB hT 19 rfl ?_
  refine mNf (lv2 := [(4, .int 3), (0, .ref 16), (1, .ref 59), (2, .int 0), (3, .int 4)]) (st2 := [.int 23, .int 0, .ref 21, .int 0, .ref 64]) rfl rfl ?_
  refine mWd (w2 := (XW n vs be de sz ro co mi T (up B 7 (up (up (up (B 7) 0 (B 5 0)) 1 (B 5 1)) 2 (B 5 2))) hd df)) rfl ?_
  refine hC _ 64 21 _ _ _ _ rfl rfl rfl rfl (by decide) ?_
  refine mB hT 5 rfl ?_
  exact hR _ (by decide) _ _ _ rfl rfl
set_option maxRecDepth 20000 in
theorem c_copy_7_5_1_4 {n vs : Int32} {be de : Int64} {sz : Int32} {ro co mi : Nat → Int64} {T : Nat → Nat → Int64} {B : Nat → Nat → Nat → Int32} {hd : Nat → Nat → Int32} {df : Nat → Int32} : KX0_copyRows l D ca ad [.ref 16, .ref 59, .int 1, .int 4] (XW n vs be de sz ro co mi T B hd df) none (XW n vs be de sz ro co mi T (cpX B 7 5 1 4) hd df) := by
  refine PX0_copyRows (Nat.le_of_ble_eq_true rfl) ?_
  intro G hT hC hR
  refine mB hT 19 rfl ?_
  refine hC _ 62 19 _ _ _ _ rfl rfl rfl rfl (by decide) ?_
  refine mB hT 19 rfl ?_
  refine mNf (lv2 := [(4, .int 2), (0, .ref 16), (1, .ref 59), (2, .int 1), (3, .int 4)]) (st2 := [.int 23, .int 0, .ref 20, .int 0, .ref 63]) rfl rfl ?_
  refine mWd (w2 := (XW n vs be de sz ro co mi T (up B 7 (up (B 7) 1 (B 5 1))) hd df)) rfl ?_
  refine hC _ 63 20 _ _ _ _ rfl rfl rfl rfl (by decide) ?_
  refine mB hT 19 rfl ?_
  refine mWd (w2 := (XW n vs be de sz ro co mi T (up B 7 (up (up (B 7) 1 (B 5 1)) 2 (B 5 2))) hd df)) rfl ?_
  refine hC _ 64 21 _ _ _ _ rfl rfl rfl rfl (by decide) ?_
  refine mB hT 5 rfl ?_
  exact hR _ (by decide) _ _ _ rfl rfl
set_option maxRecDepth 20000 in
theorem c_copy_7_5_2_4 {n vs : Int32} {be de : Int64} {sz : Int32} {ro co mi : Nat → Int64} {T : Nat → Nat → Int64} {B : Nat → Nat → Nat → Int32} {hd : Nat → Nat → Int32} {df : Nat → Int32} : KX0_copyRows l D ca ad [.ref 16, .ref 59, .int 2, .int 4] (XW n vs be de sz ro co mi T B hd df) none (XW n vs be de sz ro co mi T (cpX B 7 5 2 4) hd df) := by
  refine PX0_copyRows (Nat.le_of_ble_eq_true rfl) ?_
  intro G hT hC hR
  refine mB hT 19 rfl ?_
  refine hC _ 63 20 _ _ _ _ rfl rfl rfl rfl (by decide) ?_
  refine mB hT 19 rfl ?_
  refine mNf (lv2 := [(4, .int 3), (0, .ref 16), (1, .ref 59), (2, .int 2), (3, .int 4)]) (st2 := [.int 23, .int 0, .ref 21, .int 0, .ref 64]) rfl rfl ?_
  refine mWd (w2 := (XW n vs be de sz ro co mi T (up B 7 (up (B 7) 2 (B 5 2))) hd df)) rfl ?_
  refine hC _ 64 21 _ _ _ _ rfl rfl rfl rfl (by decide) ?_
  refine mB hT 5 rfl ?_
  exact hR _ (by decide) _ _ _ rfl rfl
set_option maxRecDepth 20000 in
theorem c_copy_7_5_3_4 {n vs : Int32} {be de : Int64} {sz : Int32} {ro co mi : Nat → Int64} {T : Nat → Nat → Int64} {B : Nat → Nat → Nat → Int32} {hd : Nat → Nat → Int32} {df : Nat → Int32} : KX0_copyRows l D ca ad [.ref 16, .ref 59, .int 3, .int 4] (XW n vs be de sz ro co mi T B hd df) none (XW n vs be de sz ro co mi T (cpX B 7 5 3 4) hd df) := by
  refine PX0_copyRows (Nat.le_of_ble_eq_true rfl) ?_
  intro G hT hC hR
  refine mB hT 19 rfl ?_
  refine hC _ 64 21 _ _ _ _ rfl rfl rfl rfl (by decide) ?_
  refine mB hT 5 rfl ?_
  exact hR _ (by decide) _ _ _ rfl rfl
set_option maxRecDepth 20000 in
theorem c_copy_7_5_4_4 {n vs : Int32} {be de : Int64} {sz : Int32} {ro co mi : Nat → Int64} {T : Nat → Nat → Int64} {B : Nat → Nat → Nat → Int32} {hd : Nat → Nat → Int32} {df : Nat → Int32} : KX0_copyRows l D ca ad [.ref 16, .ref 59, .int 4, .int 4] (XW n vs be de sz ro co mi T B hd df) none (XW n vs be de sz ro co mi T (cpX B 7 5 4 4) hd df) := by
  refine PX0_copyRows (Nat.le_of_ble_eq_true rfl) ?_
  intro G hT hC hR
  refine mB hT 5 rfl ?_
  exact hR _ (by decide) _ _ _ rfl rfl
set_option maxRecDepth 20000 in
theorem c_place_0_0 {w : mW} : KX2_placeOfEmits l D ca ad [.int 0, .int 0] w (some (.int 12)) w := by
  refine PX2_placeOfEmits (Nat.le_of_ble_eq_true rfl) ?_
  intro G hT hC hR
  refine mB hT 7 rfl ?_
  exact hR _ (by decide) _ _ _ rfl rfl
set_option maxRecDepth 20000 in
theorem c_place_0_1 {w : mW} : KX2_placeOfEmits l D ca ad [.int 0, .int 1] w (some (.int 15)) w := by
  refine PX2_placeOfEmits (Nat.le_of_ble_eq_true rfl) ?_
  intro G hT hC hR
  refine mB hT 7 rfl ?_
  exact hR _ (by decide) _ _ _ rfl rfl
set_option maxRecDepth 20000 in
theorem c_place_0_2 {w : mW} : KX2_placeOfEmits l D ca ad [.int 0, .int 2] w (some (.int 18)) w := by
  refine PX2_placeOfEmits (Nat.le_of_ble_eq_true rfl) ?_
  intro G hT hC hR
  refine mB hT 7 rfl ?_
  exact hR _ (by decide) _ _ _ rfl rfl
set_option maxRecDepth 20000 in
theorem c_place_1_0 {w : mW} : KX2_placeOfEmits l D ca ad [.int 1, .int 0] w (some (.int 13)) w := by
  refine PX2_placeOfEmits (Nat.le_of_ble_eq_true rfl) ?_
  intro G hT hC hR
  refine mB hT 7 rfl ?_
  exact hR _ (by decide) _ _ _ rfl rfl
set_option maxRecDepth 20000 in
theorem c_place_1_1 {w : mW} : KX2_placeOfEmits l D ca ad [.int 1, .int 1] w (some (.int 16)) w := by
  refine PX2_placeOfEmits (Nat.le_of_ble_eq_true rfl) ?_
  intro G hT hC hR
  refine mB hT 7 rfl ?_
  exact hR _ (by decide) _ _ _ rfl rfl
set_option maxRecDepth 20000 in
theorem c_place_1_2 {w : mW} : KX2_placeOfEmits l D ca ad [.int 1, .int 2] w (some (.int 19)) w := by
  refine PX2_placeOfEmits (Nat.le_of_ble_eq_true rfl) ?_
  intro G hT hC hR
  refine mB hT 7 rfl ?_
  exact hR _ (by decide) _ _ _ rfl rfl
set_option maxRecDepth 20000 in
theorem c_place_2_0 {w : mW} : KX2_placeOfEmits l D ca ad [.int 2, .int 0] w (some (.int 14)) w := by
  refine PX2_placeOfEmits (Nat.le_of_ble_eq_true rfl) ?_
  intro G hT hC hR
  refine mB hT 7 rfl ?_
  exact hR _ (by decide) _ _ _ rfl rfl
set_option maxRecDepth 20000 in
theorem c_place_2_1 {w : mW} : KX2_placeOfEmits l D ca ad [.int 2, .int 1] w (some (.int 17)) w := by
  refine PX2_placeOfEmits (Nat.le_of_ble_eq_true rfl) ?_
  intro G hT hC hR
  refine mB hT 7 rfl ?_
  exact hR _ (by decide) _ _ _ rfl rfl
set_option maxRecDepth 20000 in
theorem c_place_2_2 {w : mW} : KX2_placeOfEmits l D ca ad [.int 2, .int 2] w (some (.int 20)) w := by
  refine PX2_placeOfEmits (Nat.le_of_ble_eq_true rfl) ?_
  intro G hT hC hR
  refine mB hT 7 rfl ?_
  exact hR _ (by decide) _ _ _ rfl rfl
set_option maxRecDepth 20000 in
theorem c_emission_6_0_0_0 {n vs : Int32} {be de : Int64} {sz : Int32} {ro co mi : Nat → Int64} {T : Nat → Nat → Int64} {B : Nat → Nat → Nat → Int32} {hd : Nat → Nat → Int32} {df : Nat → Int32} : KX0_emission l D ca ad [.ref 10, .int 0, .int 0, .int 0] (XW n vs be de sz ro co mi T B hd df) (some (.long (emX (B 6 0) 0 0))) (XW n vs be de sz ro co mi T B hd df) := by
  refine PX0_emission (Nat.le_of_ble_eq_true rfl) ?_
  intro G hT hC hR
  refine mB hT 6 rfl ?_
  refine hC _ [_, _] _ _ _ _ (c_place_0_0) rfl (Nat.le_of_ble_eq_true rfl) rfl ?_
  refine mB hT 9 rfl ?_
  exact hR _ (by decide) _ _ _ rfl rfl
set_option maxRecDepth 20000 in
theorem c_emission_6_0_0_1 {n vs : Int32} {be de : Int64} {sz : Int32} {ro co mi : Nat → Int64} {T : Nat → Nat → Int64} {B : Nat → Nat → Nat → Int32} {hd : Nat → Nat → Int32} {df : Nat → Int32} : KX0_emission l D ca ad [.ref 10, .int 0, .int 0, .int 1] (XW n vs be de sz ro co mi T B hd df) (some (.long (emX (B 6 0) 0 1))) (XW n vs be de sz ro co mi T B hd df) := by
  refine PX0_emission (Nat.le_of_ble_eq_true rfl) ?_
  intro G hT hC hR
  refine mB hT 6 rfl ?_
  refine hC _ [_, _] _ _ _ _ (c_place_0_1) rfl (Nat.le_of_ble_eq_true rfl) rfl ?_
  refine mB hT 9 rfl ?_
  exact hR _ (by decide) _ _ _ rfl rfl
set_option maxRecDepth 20000 in
theorem c_emission_6_0_0_2 {n vs : Int32} {be de : Int64} {sz : Int32} {ro co mi : Nat → Int64} {T : Nat → Nat → Int64} {B : Nat → Nat → Nat → Int32} {hd : Nat → Nat → Int32} {df : Nat → Int32} : KX0_emission l D ca ad [.ref 10, .int 0, .int 0, .int 2] (XW n vs be de sz ro co mi T B hd df) (some (.long (emX (B 6 0) 0 2))) (XW n vs be de sz ro co mi T B hd df) := by
  refine PX0_emission (Nat.le_of_ble_eq_true rfl) ?_
  intro G hT hC hR
  refine mB hT 6 rfl ?_
  refine hC _ [_, _] _ _ _ _ (c_place_0_2) rfl (Nat.le_of_ble_eq_true rfl) rfl ?_
  refine mB hT 9 rfl ?_
  exact hR _ (by decide) _ _ _ rfl rfl
set_option maxRecDepth 20000 in
theorem c_emission_6_0_1_0 {n vs : Int32} {be de : Int64} {sz : Int32} {ro co mi : Nat → Int64} {T : Nat → Nat → Int64} {B : Nat → Nat → Nat → Int32} {hd : Nat → Nat → Int32} {df : Nat → Int32} : KX0_emission l D ca ad [.ref 10, .int 0, .int 1, .int 0] (XW n vs be de sz ro co mi T B hd df) (some (.long (emX (B 6 0) 1 0))) (XW n vs be de sz ro co mi T B hd df) := by
  refine PX0_emission (Nat.le_of_ble_eq_true rfl) ?_
  intro G hT hC hR
  refine mB hT 6 rfl ?_
  refine hC _ [_, _] _ _ _ _ (c_place_1_0) rfl (Nat.le_of_ble_eq_true rfl) rfl ?_
  refine mB hT 9 rfl ?_
  exact hR _ (by decide) _ _ _ rfl rfl
set_option maxRecDepth 20000 in
theorem c_emission_6_0_1_1 {n vs : Int32} {be de : Int64} {sz : Int32} {ro co mi : Nat → Int64} {T : Nat → Nat → Int64} {B : Nat → Nat → Nat → Int32} {hd : Nat → Nat → Int32} {df : Nat → Int32} : KX0_emission l D ca ad [.ref 10, .int 0, .int 1, .int 1] (XW n vs be de sz ro co mi T B hd df) (some (.long (emX (B 6 0) 1 1))) (XW n vs be de sz ro co mi T B hd df) := by
  refine PX0_emission (Nat.le_of_ble_eq_true rfl) ?_
  intro G hT hC hR
  refine mB hT 6 rfl ?_
  refine hC _ [_, _] _ _ _ _ (c_place_1_1) rfl (Nat.le_of_ble_eq_true rfl) rfl ?_
  refine mB hT 9 rfl ?_
  exact hR _ (by decide) _ _ _ rfl rfl
set_option maxRecDepth 20000 in
theorem c_emission_6_0_1_2 {n vs : Int32} {be de : Int64} {sz : Int32} {ro co mi : Nat → Int64} {T : Nat → Nat → Int64} {B : Nat → Nat → Nat → Int32} {hd : Nat → Nat → Int32} {df : Nat → Int32} : KX0_emission l D ca ad [.ref 10, .int 0, .int 1, .int 2] (XW n vs be de sz ro co mi T B hd df) (some (.long (emX (B 6 0) 1 2))) (XW n vs be de sz ro co mi T B hd df) := by
  refine PX0_emission (Nat.le_of_ble_eq_true rfl) ?_
  intro G hT hC hR
  refine mB hT 6 rfl ?_
  refine hC _ [_, _] _ _ _ _ (c_place_1_2) rfl (Nat.le_of_ble_eq_true rfl) rfl ?_
  refine mB hT 9 rfl ?_
  exact hR _ (by decide) _ _ _ rfl rfl
set_option maxRecDepth 20000 in
theorem c_emission_6_0_2_0 {n vs : Int32} {be de : Int64} {sz : Int32} {ro co mi : Nat → Int64} {T : Nat → Nat → Int64} {B : Nat → Nat → Nat → Int32} {hd : Nat → Nat → Int32} {df : Nat → Int32} : KX0_emission l D ca ad [.ref 10, .int 0, .int 2, .int 0] (XW n vs be de sz ro co mi T B hd df) (some (.long (emX (B 6 0) 2 0))) (XW n vs be de sz ro co mi T B hd df) := by
  refine PX0_emission (Nat.le_of_ble_eq_true rfl) ?_
  intro G hT hC hR
  refine mB hT 6 rfl ?_
  refine hC _ [_, _] _ _ _ _ (c_place_2_0) rfl (Nat.le_of_ble_eq_true rfl) rfl ?_
  refine mB hT 9 rfl ?_
  exact hR _ (by decide) _ _ _ rfl rfl
set_option maxRecDepth 20000 in
theorem c_emission_6_0_2_1 {n vs : Int32} {be de : Int64} {sz : Int32} {ro co mi : Nat → Int64} {T : Nat → Nat → Int64} {B : Nat → Nat → Nat → Int32} {hd : Nat → Nat → Int32} {df : Nat → Int32} : KX0_emission l D ca ad [.ref 10, .int 0, .int 2, .int 1] (XW n vs be de sz ro co mi T B hd df) (some (.long (emX (B 6 0) 2 1))) (XW n vs be de sz ro co mi T B hd df) := by
  refine PX0_emission (Nat.le_of_ble_eq_true rfl) ?_
  intro G hT hC hR
  refine mB hT 6 rfl ?_
  refine hC _ [_, _] _ _ _ _ (c_place_2_1) rfl (Nat.le_of_ble_eq_true rfl) rfl ?_
  refine mB hT 9 rfl ?_
  exact hR _ (by decide) _ _ _ rfl rfl
set_option maxRecDepth 20000 in
theorem c_emission_6_0_2_2 {n vs : Int32} {be de : Int64} {sz : Int32} {ro co mi : Nat → Int64} {T : Nat → Nat → Int64} {B : Nat → Nat → Nat → Int32} {hd : Nat → Nat → Int32} {df : Nat → Int32} : KX0_emission l D ca ad [.ref 10, .int 0, .int 2, .int 2] (XW n vs be de sz ro co mi T B hd df) (some (.long (emX (B 6 0) 2 2))) (XW n vs be de sz ro co mi T B hd df) := by
  refine PX0_emission (Nat.le_of_ble_eq_true rfl) ?_
  intro G hT hC hR
  refine mB hT 6 rfl ?_
  refine hC _ [_, _] _ _ _ _ (c_place_2_2) rfl (Nat.le_of_ble_eq_true rfl) rfl ?_
  refine mB hT 9 rfl ?_
  exact hR _ (by decide) _ _ _ rfl rfl
theorem c_emission_6_0 {n vs : Int32} {be de : Int64} {sz : Int32} {ro co mi : Nat → Int64} {T : Nat → Nat → Int64} {B : Nat → Nat → Nat → Int32} {hd : Nat → Nat → Int32} {df : Nat → Int32} (k s : Nat) (hk : k < 3) (hs : s < 3) : KX0_emission l D ca ad [.ref 10, .int 0, .int (Int32.ofNat k), .int (Int32.ofNat s)] (XW n vs be de sz ro co mi T B hd df) (some (.long (emX (B 6 0) k s))) (XW n vs be de sz ro co mi T B hd df) := by
  match k, hk, s, hs with
  | 0, _, 0, _ => exact c_emission_6_0_0_0
  | 0, _, 1, _ => exact c_emission_6_0_0_1
  | 0, _, 2, _ => exact c_emission_6_0_0_2
  | 1, _, 0, _ => exact c_emission_6_0_1_0
  | 1, _, 1, _ => exact c_emission_6_0_1_1
  | 1, _, 2, _ => exact c_emission_6_0_1_2
  | 2, _, 0, _ => exact c_emission_6_0_2_0
  | 2, _, 1, _ => exact c_emission_6_0_2_1
  | 2, _, 2, _ => exact c_emission_6_0_2_2
set_option maxRecDepth 20000 in
theorem c_emission_6_1_0_0 {n vs : Int32} {be de : Int64} {sz : Int32} {ro co mi : Nat → Int64} {T : Nat → Nat → Int64} {B : Nat → Nat → Nat → Int32} {hd : Nat → Nat → Int32} {df : Nat → Int32} : KX0_emission l D ca ad [.ref 10, .int 1, .int 0, .int 0] (XW n vs be de sz ro co mi T B hd df) (some (.long (emX (B 6 1) 0 0))) (XW n vs be de sz ro co mi T B hd df) := by
  refine PX0_emission (Nat.le_of_ble_eq_true rfl) ?_
  intro G hT hC hR
  refine mB hT 6 rfl ?_
  refine hC _ [_, _] _ _ _ _ (c_place_0_0) rfl (Nat.le_of_ble_eq_true rfl) rfl ?_
  refine mB hT 9 rfl ?_
  exact hR _ (by decide) _ _ _ rfl rfl
set_option maxRecDepth 20000 in
theorem c_emission_6_1_0_1 {n vs : Int32} {be de : Int64} {sz : Int32} {ro co mi : Nat → Int64} {T : Nat → Nat → Int64} {B : Nat → Nat → Nat → Int32} {hd : Nat → Nat → Int32} {df : Nat → Int32} : KX0_emission l D ca ad [.ref 10, .int 1, .int 0, .int 1] (XW n vs be de sz ro co mi T B hd df) (some (.long (emX (B 6 1) 0 1))) (XW n vs be de sz ro co mi T B hd df) := by
  refine PX0_emission (Nat.le_of_ble_eq_true rfl) ?_
  intro G hT hC hR
  refine mB hT 6 rfl ?_
  refine hC _ [_, _] _ _ _ _ (c_place_0_1) rfl (Nat.le_of_ble_eq_true rfl) rfl ?_
  refine mB hT 9 rfl ?_
  exact hR _ (by decide) _ _ _ rfl rfl
set_option maxRecDepth 20000 in
theorem c_emission_6_1_0_2 {n vs : Int32} {be de : Int64} {sz : Int32} {ro co mi : Nat → Int64} {T : Nat → Nat → Int64} {B : Nat → Nat → Nat → Int32} {hd : Nat → Nat → Int32} {df : Nat → Int32} : KX0_emission l D ca ad [.ref 10, .int 1, .int 0, .int 2] (XW n vs be de sz ro co mi T B hd df) (some (.long (emX (B 6 1) 0 2))) (XW n vs be de sz ro co mi T B hd df) := by
  refine PX0_emission (Nat.le_of_ble_eq_true rfl) ?_
  intro G hT hC hR
  refine mB hT 6 rfl ?_
  refine hC _ [_, _] _ _ _ _ (c_place_0_2) rfl (Nat.le_of_ble_eq_true rfl) rfl ?_
  refine mB hT 9 rfl ?_
  exact hR _ (by decide) _ _ _ rfl rfl
set_option maxRecDepth 20000 in
theorem c_emission_6_1_1_0 {n vs : Int32} {be de : Int64} {sz : Int32} {ro co mi : Nat → Int64} {T : Nat → Nat → Int64} {B : Nat → Nat → Nat → Int32} {hd : Nat → Nat → Int32} {df : Nat → Int32} : KX0_emission l D ca ad [.ref 10, .int 1, .int 1, .int 0] (XW n vs be de sz ro co mi T B hd df) (some (.long (emX (B 6 1) 1 0))) (XW n vs be de sz ro co mi T B hd df) := by
  refine PX0_emission (Nat.le_of_ble_eq_true rfl) ?_
  intro G hT hC hR
  refine mB hT 6 rfl ?_
  refine hC _ [_, _] _ _ _ _ (c_place_1_0) rfl (Nat.le_of_ble_eq_true rfl) rfl ?_
  refine mB hT 9 rfl ?_
  exact hR _ (by decide) _ _ _ rfl rfl
set_option maxRecDepth 20000 in
theorem c_emission_6_1_1_1 {n vs : Int32} {be de : Int64} {sz : Int32} {ro co mi : Nat → Int64} {T : Nat → Nat → Int64} {B : Nat → Nat → Nat → Int32} {hd : Nat → Nat → Int32} {df : Nat → Int32} : KX0_emission l D ca ad [.ref 10, .int 1, .int 1, .int 1] (XW n vs be de sz ro co mi T B hd df) (some (.long (emX (B 6 1) 1 1))) (XW n vs be de sz ro co mi T B hd df) := by
  refine PX0_emission (Nat.le_of_ble_eq_true rfl) ?_
  intro G hT hC hR
  refine mB hT 6 rfl ?_
  refine hC _ [_, _] _ _ _ _ (c_place_1_1) rfl (Nat.le_of_ble_eq_true rfl) rfl ?_
  refine mB hT 9 rfl ?_
  exact hR _ (by decide) _ _ _ rfl rfl
set_option maxRecDepth 20000 in
theorem c_emission_6_1_1_2 {n vs : Int32} {be de : Int64} {sz : Int32} {ro co mi : Nat → Int64} {T : Nat → Nat → Int64} {B : Nat → Nat → Nat → Int32} {hd : Nat → Nat → Int32} {df : Nat → Int32} : KX0_emission l D ca ad [.ref 10, .int 1, .int 1, .int 2] (XW n vs be de sz ro co mi T B hd df) (some (.long (emX (B 6 1) 1 2))) (XW n vs be de sz ro co mi T B hd df) := by
  refine PX0_emission (Nat.le_of_ble_eq_true rfl) ?_
  intro G hT hC hR
  refine mB hT 6 rfl ?_
  refine hC _ [_, _] _ _ _ _ (c_place_1_2) rfl (Nat.le_of_ble_eq_true rfl) rfl ?_
  refine mB hT 9 rfl ?_
  exact hR _ (by decide) _ _ _ rfl rfl
set_option maxRecDepth 20000 in
theorem c_emission_6_1_2_0 {n vs : Int32} {be de : Int64} {sz : Int32} {ro co mi : Nat → Int64} {T : Nat → Nat → Int64} {B : Nat → Nat → Nat → Int32} {hd : Nat → Nat → Int32} {df : Nat → Int32} : KX0_emission l D ca ad [.ref 10, .int 1, .int 2, .int 0] (XW n vs be de sz ro co mi T B hd df) (some (.long (emX (B 6 1) 2 0))) (XW n vs be de sz ro co mi T B hd df) := by
  refine PX0_emission (Nat.le_of_ble_eq_true rfl) ?_
  intro G hT hC hR
  refine mB hT 6 rfl ?_
  refine hC _ [_, _] _ _ _ _ (c_place_2_0) rfl (Nat.le_of_ble_eq_true rfl) rfl ?_
  refine mB hT 9 rfl ?_
  exact hR _ (by decide) _ _ _ rfl rfl
set_option maxRecDepth 20000 in
theorem c_emission_6_1_2_1 {n vs : Int32} {be de : Int64} {sz : Int32} {ro co mi : Nat → Int64} {T : Nat → Nat → Int64} {B : Nat → Nat → Nat → Int32} {hd : Nat → Nat → Int32} {df : Nat → Int32} : KX0_emission l D ca ad [.ref 10, .int 1, .int 2, .int 1] (XW n vs be de sz ro co mi T B hd df) (some (.long (emX (B 6 1) 2 1))) (XW n vs be de sz ro co mi T B hd df) := by
  refine PX0_emission (Nat.le_of_ble_eq_true rfl) ?_
  intro G hT hC hR
  refine mB hT 6 rfl ?_
  refine hC _ [_, _] _ _ _ _ (c_place_2_1) rfl (Nat.le_of_ble_eq_true rfl) rfl ?_
  refine mB hT 9 rfl ?_
  exact hR _ (by decide) _ _ _ rfl rfl
set_option maxRecDepth 20000 in
theorem c_emission_6_1_2_2 {n vs : Int32} {be de : Int64} {sz : Int32} {ro co mi : Nat → Int64} {T : Nat → Nat → Int64} {B : Nat → Nat → Nat → Int32} {hd : Nat → Nat → Int32} {df : Nat → Int32} : KX0_emission l D ca ad [.ref 10, .int 1, .int 2, .int 2] (XW n vs be de sz ro co mi T B hd df) (some (.long (emX (B 6 1) 2 2))) (XW n vs be de sz ro co mi T B hd df) := by
  refine PX0_emission (Nat.le_of_ble_eq_true rfl) ?_
  intro G hT hC hR
  refine mB hT 6 rfl ?_
  refine hC _ [_, _] _ _ _ _ (c_place_2_2) rfl (Nat.le_of_ble_eq_true rfl) rfl ?_
  refine mB hT 9 rfl ?_
  exact hR _ (by decide) _ _ _ rfl rfl
theorem c_emission_6_1 {n vs : Int32} {be de : Int64} {sz : Int32} {ro co mi : Nat → Int64} {T : Nat → Nat → Int64} {B : Nat → Nat → Nat → Int32} {hd : Nat → Nat → Int32} {df : Nat → Int32} (k s : Nat) (hk : k < 3) (hs : s < 3) : KX0_emission l D ca ad [.ref 10, .int 1, .int (Int32.ofNat k), .int (Int32.ofNat s)] (XW n vs be de sz ro co mi T B hd df) (some (.long (emX (B 6 1) k s))) (XW n vs be de sz ro co mi T B hd df) := by
  match k, hk, s, hs with
  | 0, _, 0, _ => exact c_emission_6_1_0_0
  | 0, _, 1, _ => exact c_emission_6_1_0_1
  | 0, _, 2, _ => exact c_emission_6_1_0_2
  | 1, _, 0, _ => exact c_emission_6_1_1_0
  | 1, _, 1, _ => exact c_emission_6_1_1_1
  | 1, _, 2, _ => exact c_emission_6_1_1_2
  | 2, _, 0, _ => exact c_emission_6_1_2_0
  | 2, _, 1, _ => exact c_emission_6_1_2_1
  | 2, _, 2, _ => exact c_emission_6_1_2_2
set_option maxRecDepth 20000 in
theorem c_emission_6_2_0_0 {n vs : Int32} {be de : Int64} {sz : Int32} {ro co mi : Nat → Int64} {T : Nat → Nat → Int64} {B : Nat → Nat → Nat → Int32} {hd : Nat → Nat → Int32} {df : Nat → Int32} : KX0_emission l D ca ad [.ref 10, .int 2, .int 0, .int 0] (XW n vs be de sz ro co mi T B hd df) (some (.long (emX (B 6 2) 0 0))) (XW n vs be de sz ro co mi T B hd df) := by
  refine PX0_emission (Nat.le_of_ble_eq_true rfl) ?_
  intro G hT hC hR
  refine mB hT 6 rfl ?_
  refine hC _ [_, _] _ _ _ _ (c_place_0_0) rfl (Nat.le_of_ble_eq_true rfl) rfl ?_
  refine mB hT 9 rfl ?_
  exact hR _ (by decide) _ _ _ rfl rfl
set_option maxRecDepth 20000 in
theorem c_emission_6_2_0_1 {n vs : Int32} {be de : Int64} {sz : Int32} {ro co mi : Nat → Int64} {T : Nat → Nat → Int64} {B : Nat → Nat → Nat → Int32} {hd : Nat → Nat → Int32} {df : Nat → Int32} : KX0_emission l D ca ad [.ref 10, .int 2, .int 0, .int 1] (XW n vs be de sz ro co mi T B hd df) (some (.long (emX (B 6 2) 0 1))) (XW n vs be de sz ro co mi T B hd df) := by
  refine PX0_emission (Nat.le_of_ble_eq_true rfl) ?_
  intro G hT hC hR
  refine mB hT 6 rfl ?_
  refine hC _ [_, _] _ _ _ _ (c_place_0_1) rfl (Nat.le_of_ble_eq_true rfl) rfl ?_
  refine mB hT 9 rfl ?_
  exact hR _ (by decide) _ _ _ rfl rfl
set_option maxRecDepth 20000 in
theorem c_emission_6_2_0_2 {n vs : Int32} {be de : Int64} {sz : Int32} {ro co mi : Nat → Int64} {T : Nat → Nat → Int64} {B : Nat → Nat → Nat → Int32} {hd : Nat → Nat → Int32} {df : Nat → Int32} : KX0_emission l D ca ad [.ref 10, .int 2, .int 0, .int 2] (XW n vs be de sz ro co mi T B hd df) (some (.long (emX (B 6 2) 0 2))) (XW n vs be de sz ro co mi T B hd df) := by
  refine PX0_emission (Nat.le_of_ble_eq_true rfl) ?_
  intro G hT hC hR
  refine mB hT 6 rfl ?_
  refine hC _ [_, _] _ _ _ _ (c_place_0_2) rfl (Nat.le_of_ble_eq_true rfl) rfl ?_
  refine mB hT 9 rfl ?_
  exact hR _ (by decide) _ _ _ rfl rfl
set_option maxRecDepth 20000 in
theorem c_emission_6_2_1_0 {n vs : Int32} {be de : Int64} {sz : Int32} {ro co mi : Nat → Int64} {T : Nat → Nat → Int64} {B : Nat → Nat → Nat → Int32} {hd : Nat → Nat → Int32} {df : Nat → Int32} : KX0_emission l D ca ad [.ref 10, .int 2, .int 1, .int 0] (XW n vs be de sz ro co mi T B hd df) (some (.long (emX (B 6 2) 1 0))) (XW n vs be de sz ro co mi T B hd df) := by
  refine PX0_emission (Nat.le_of_ble_eq_true rfl) ?_
  intro G hT hC hR
  refine mB hT 6 rfl ?_
  refine hC _ [_, _] _ _ _ _ (c_place_1_0) rfl (Nat.le_of_ble_eq_true rfl) rfl ?_
  refine mB hT 9 rfl ?_
  exact hR _ (by decide) _ _ _ rfl rfl
set_option maxRecDepth 20000 in
theorem c_emission_6_2_1_1 {n vs : Int32} {be de : Int64} {sz : Int32} {ro co mi : Nat → Int64} {T : Nat → Nat → Int64} {B : Nat → Nat → Nat → Int32} {hd : Nat → Nat → Int32} {df : Nat → Int32} : KX0_emission l D ca ad [.ref 10, .int 2, .int 1, .int 1] (XW n vs be de sz ro co mi T B hd df) (some (.long (emX (B 6 2) 1 1))) (XW n vs be de sz ro co mi T B hd df) := by
  refine PX0_emission (Nat.le_of_ble_eq_true rfl) ?_
  intro G hT hC hR
  refine mB hT 6 rfl ?_
  refine hC _ [_, _] _ _ _ _ (c_place_1_1) rfl (Nat.le_of_ble_eq_true rfl) rfl ?_
  refine mB hT 9 rfl ?_
  exact hR _ (by decide) _ _ _ rfl rfl
set_option maxRecDepth 20000 in
theorem c_emission_6_2_1_2 {n vs : Int32} {be de : Int64} {sz : Int32} {ro co mi : Nat → Int64} {T : Nat → Nat → Int64} {B : Nat → Nat → Nat → Int32} {hd : Nat → Nat → Int32} {df : Nat → Int32} : KX0_emission l D ca ad [.ref 10, .int 2, .int 1, .int 2] (XW n vs be de sz ro co mi T B hd df) (some (.long (emX (B 6 2) 1 2))) (XW n vs be de sz ro co mi T B hd df) := by
  refine PX0_emission (Nat.le_of_ble_eq_true rfl) ?_
  intro G hT hC hR
  refine mB hT 6 rfl ?_
  refine hC _ [_, _] _ _ _ _ (c_place_1_2) rfl (Nat.le_of_ble_eq_true rfl) rfl ?_
  refine mB hT 9 rfl ?_
  exact hR _ (by decide) _ _ _ rfl rfl
set_option maxRecDepth 20000 in
theorem c_emission_6_2_2_0 {n vs : Int32} {be de : Int64} {sz : Int32} {ro co mi : Nat → Int64} {T : Nat → Nat → Int64} {B : Nat → Nat → Nat → Int32} {hd : Nat → Nat → Int32} {df : Nat → Int32} : KX0_emission l D ca ad [.ref 10, .int 2, .int 2, .int 0] (XW n vs be de sz ro co mi T B hd df) (some (.long (emX (B 6 2) 2 0))) (XW n vs be de sz ro co mi T B hd df) := by
  refine PX0_emission (Nat.le_of_ble_eq_true rfl) ?_
  intro G hT hC hR
  refine mB hT 6 rfl ?_
  refine hC _ [_, _] _ _ _ _ (c_place_2_0) rfl (Nat.le_of_ble_eq_true rfl) rfl ?_
  refine mB hT 9 rfl ?_
  exact hR _ (by decide) _ _ _ rfl rfl
set_option maxRecDepth 20000 in
theorem c_emission_6_2_2_1 {n vs : Int32} {be de : Int64} {sz : Int32} {ro co mi : Nat → Int64} {T : Nat → Nat → Int64} {B : Nat → Nat → Nat → Int32} {hd : Nat → Nat → Int32} {df : Nat → Int32} : KX0_emission l D ca ad [.ref 10, .int 2, .int 2, .int 1] (XW n vs be de sz ro co mi T B hd df) (some (.long (emX (B 6 2) 2 1))) (XW n vs be de sz ro co mi T B hd df) := by
  refine PX0_emission (Nat.le_of_ble_eq_true rfl) ?_
  intro G hT hC hR
  refine mB hT 6 rfl ?_
  refine hC _ [_, _] _ _ _ _ (c_place_2_1) rfl (Nat.le_of_ble_eq_true rfl) rfl ?_
  refine mB hT 9 rfl ?_
  exact hR _ (by decide) _ _ _ rfl rfl
set_option maxRecDepth 20000 in
theorem c_emission_6_2_2_2 {n vs : Int32} {be de : Int64} {sz : Int32} {ro co mi : Nat → Int64} {T : Nat → Nat → Int64} {B : Nat → Nat → Nat → Int32} {hd : Nat → Nat → Int32} {df : Nat → Int32} : KX0_emission l D ca ad [.ref 10, .int 2, .int 2, .int 2] (XW n vs be de sz ro co mi T B hd df) (some (.long (emX (B 6 2) 2 2))) (XW n vs be de sz ro co mi T B hd df) := by
  refine PX0_emission (Nat.le_of_ble_eq_true rfl) ?_
  intro G hT hC hR
  refine mB hT 6 rfl ?_
  refine hC _ [_, _] _ _ _ _ (c_place_2_2) rfl (Nat.le_of_ble_eq_true rfl) rfl ?_
  refine mB hT 9 rfl ?_
  exact hR _ (by decide) _ _ _ rfl rfl
theorem c_emission_6_2 {n vs : Int32} {be de : Int64} {sz : Int32} {ro co mi : Nat → Int64} {T : Nat → Nat → Int64} {B : Nat → Nat → Nat → Int32} {hd : Nat → Nat → Int32} {df : Nat → Int32} (k s : Nat) (hk : k < 3) (hs : s < 3) : KX0_emission l D ca ad [.ref 10, .int 2, .int (Int32.ofNat k), .int (Int32.ofNat s)] (XW n vs be de sz ro co mi T B hd df) (some (.long (emX (B 6 2) k s))) (XW n vs be de sz ro co mi T B hd df) := by
  match k, hk, s, hs with
  | 0, _, 0, _ => exact c_emission_6_2_0_0
  | 0, _, 1, _ => exact c_emission_6_2_0_1
  | 0, _, 2, _ => exact c_emission_6_2_0_2
  | 1, _, 0, _ => exact c_emission_6_2_1_0
  | 1, _, 1, _ => exact c_emission_6_2_1_1
  | 1, _, 2, _ => exact c_emission_6_2_1_2
  | 2, _, 0, _ => exact c_emission_6_2_2_0
  | 2, _, 1, _ => exact c_emission_6_2_2_1
  | 2, _, 2, _ => exact c_emission_6_2_2_2
set_option maxRecDepth 20000 in
theorem c_emission_6_3_0_0 {n vs : Int32} {be de : Int64} {sz : Int32} {ro co mi : Nat → Int64} {T : Nat → Nat → Int64} {B : Nat → Nat → Nat → Int32} {hd : Nat → Nat → Int32} {df : Nat → Int32} : KX0_emission l D ca ad [.ref 10, .int 3, .int 0, .int 0] (XW n vs be de sz ro co mi T B hd df) (some (.long (emX (B 6 3) 0 0))) (XW n vs be de sz ro co mi T B hd df) := by
  refine PX0_emission (Nat.le_of_ble_eq_true rfl) ?_
  intro G hT hC hR
  refine mB hT 6 rfl ?_
  refine hC _ [_, _] _ _ _ _ (c_place_0_0) rfl (Nat.le_of_ble_eq_true rfl) rfl ?_
  refine mB hT 9 rfl ?_
  exact hR _ (by decide) _ _ _ rfl rfl
set_option maxRecDepth 20000 in
theorem c_emission_6_3_0_1 {n vs : Int32} {be de : Int64} {sz : Int32} {ro co mi : Nat → Int64} {T : Nat → Nat → Int64} {B : Nat → Nat → Nat → Int32} {hd : Nat → Nat → Int32} {df : Nat → Int32} : KX0_emission l D ca ad [.ref 10, .int 3, .int 0, .int 1] (XW n vs be de sz ro co mi T B hd df) (some (.long (emX (B 6 3) 0 1))) (XW n vs be de sz ro co mi T B hd df) := by
  refine PX0_emission (Nat.le_of_ble_eq_true rfl) ?_
  intro G hT hC hR
  refine mB hT 6 rfl ?_
  refine hC _ [_, _] _ _ _ _ (c_place_0_1) rfl (Nat.le_of_ble_eq_true rfl) rfl ?_
  refine mB hT 9 rfl ?_
  exact hR _ (by decide) _ _ _ rfl rfl
set_option maxRecDepth 20000 in
theorem c_emission_6_3_0_2 {n vs : Int32} {be de : Int64} {sz : Int32} {ro co mi : Nat → Int64} {T : Nat → Nat → Int64} {B : Nat → Nat → Nat → Int32} {hd : Nat → Nat → Int32} {df : Nat → Int32} : KX0_emission l D ca ad [.ref 10, .int 3, .int 0, .int 2] (XW n vs be de sz ro co mi T B hd df) (some (.long (emX (B 6 3) 0 2))) (XW n vs be de sz ro co mi T B hd df) := by
  refine PX0_emission (Nat.le_of_ble_eq_true rfl) ?_
  intro G hT hC hR
  refine mB hT 6 rfl ?_
  refine hC _ [_, _] _ _ _ _ (c_place_0_2) rfl (Nat.le_of_ble_eq_true rfl) rfl ?_
  refine mB hT 9 rfl ?_
  exact hR _ (by decide) _ _ _ rfl rfl
set_option maxRecDepth 20000 in
theorem c_emission_6_3_1_0 {n vs : Int32} {be de : Int64} {sz : Int32} {ro co mi : Nat → Int64} {T : Nat → Nat → Int64} {B : Nat → Nat → Nat → Int32} {hd : Nat → Nat → Int32} {df : Nat → Int32} : KX0_emission l D ca ad [.ref 10, .int 3, .int 1, .int 0] (XW n vs be de sz ro co mi T B hd df) (some (.long (emX (B 6 3) 1 0))) (XW n vs be de sz ro co mi T B hd df) := by
  refine PX0_emission (Nat.le_of_ble_eq_true rfl) ?_
  intro G hT hC hR
  refine mB hT 6 rfl ?_
  refine hC _ [_, _] _ _ _ _ (c_place_1_0) rfl (Nat.le_of_ble_eq_true rfl) rfl ?_
  refine mB hT 9 rfl ?_
  exact hR _ (by decide) _ _ _ rfl rfl
set_option maxRecDepth 20000 in
theorem c_emission_6_3_1_1 {n vs : Int32} {be de : Int64} {sz : Int32} {ro co mi : Nat → Int64} {T : Nat → Nat → Int64} {B : Nat → Nat → Nat → Int32} {hd : Nat → Nat → Int32} {df : Nat → Int32} : KX0_emission l D ca ad [.ref 10, .int 3, .int 1, .int 1] (XW n vs be de sz ro co mi T B hd df) (some (.long (emX (B 6 3) 1 1))) (XW n vs be de sz ro co mi T B hd df) := by
  refine PX0_emission (Nat.le_of_ble_eq_true rfl) ?_
  intro G hT hC hR
  refine mB hT 6 rfl ?_
  refine hC _ [_, _] _ _ _ _ (c_place_1_1) rfl (Nat.le_of_ble_eq_true rfl) rfl ?_
  refine mB hT 9 rfl ?_
  exact hR _ (by decide) _ _ _ rfl rfl
set_option maxRecDepth 20000 in
theorem c_emission_6_3_1_2 {n vs : Int32} {be de : Int64} {sz : Int32} {ro co mi : Nat → Int64} {T : Nat → Nat → Int64} {B : Nat → Nat → Nat → Int32} {hd : Nat → Nat → Int32} {df : Nat → Int32} : KX0_emission l D ca ad [.ref 10, .int 3, .int 1, .int 2] (XW n vs be de sz ro co mi T B hd df) (some (.long (emX (B 6 3) 1 2))) (XW n vs be de sz ro co mi T B hd df) := by
  refine PX0_emission (Nat.le_of_ble_eq_true rfl) ?_
  intro G hT hC hR
  refine mB hT 6 rfl ?_
  refine hC _ [_, _] _ _ _ _ (c_place_1_2) rfl (Nat.le_of_ble_eq_true rfl) rfl ?_
  refine mB hT 9 rfl ?_
  exact hR _ (by decide) _ _ _ rfl rfl
set_option maxRecDepth 20000 in
theorem c_emission_6_3_2_0 {n vs : Int32} {be de : Int64} {sz : Int32} {ro co mi : Nat → Int64} {T : Nat → Nat → Int64} {B : Nat → Nat → Nat → Int32} {hd : Nat → Nat → Int32} {df : Nat → Int32} : KX0_emission l D ca ad [.ref 10, .int 3, .int 2, .int 0] (XW n vs be de sz ro co mi T B hd df) (some (.long (emX (B 6 3) 2 0))) (XW n vs be de sz ro co mi T B hd df) := by
  refine PX0_emission (Nat.le_of_ble_eq_true rfl) ?_
  intro G hT hC hR
  refine mB hT 6 rfl ?_
  refine hC _ [_, _] _ _ _ _ (c_place_2_0) rfl (Nat.le_of_ble_eq_true rfl) rfl ?_
  refine mB hT 9 rfl ?_
  exact hR _ (by decide) _ _ _ rfl rfl
set_option maxRecDepth 20000 in
theorem c_emission_6_3_2_1 {n vs : Int32} {be de : Int64} {sz : Int32} {ro co mi : Nat → Int64} {T : Nat → Nat → Int64} {B : Nat → Nat → Nat → Int32} {hd : Nat → Nat → Int32} {df : Nat → Int32} : KX0_emission l D ca ad [.ref 10, .int 3, .int 2, .int 1] (XW n vs be de sz ro co mi T B hd df) (some (.long (emX (B 6 3) 2 1))) (XW n vs be de sz ro co mi T B hd df) := by
  refine PX0_emission (Nat.le_of_ble_eq_true rfl) ?_
  intro G hT hC hR
  refine mB hT 6 rfl ?_
  refine hC _ [_, _] _ _ _ _ (c_place_2_1) rfl (Nat.le_of_ble_eq_true rfl) rfl ?_
  refine mB hT 9 rfl ?_
  exact hR _ (by decide) _ _ _ rfl rfl
set_option maxRecDepth 20000 in
theorem c_emission_6_3_2_2 {n vs : Int32} {be de : Int64} {sz : Int32} {ro co mi : Nat → Int64} {T : Nat → Nat → Int64} {B : Nat → Nat → Nat → Int32} {hd : Nat → Nat → Int32} {df : Nat → Int32} : KX0_emission l D ca ad [.ref 10, .int 3, .int 2, .int 2] (XW n vs be de sz ro co mi T B hd df) (some (.long (emX (B 6 3) 2 2))) (XW n vs be de sz ro co mi T B hd df) := by
  refine PX0_emission (Nat.le_of_ble_eq_true rfl) ?_
  intro G hT hC hR
  refine mB hT 6 rfl ?_
  refine hC _ [_, _] _ _ _ _ (c_place_2_2) rfl (Nat.le_of_ble_eq_true rfl) rfl ?_
  refine mB hT 9 rfl ?_
  exact hR _ (by decide) _ _ _ rfl rfl
theorem c_emission_6_3 {n vs : Int32} {be de : Int64} {sz : Int32} {ro co mi : Nat → Int64} {T : Nat → Nat → Int64} {B : Nat → Nat → Nat → Int32} {hd : Nat → Nat → Int32} {df : Nat → Int32} (k s : Nat) (hk : k < 3) (hs : s < 3) : KX0_emission l D ca ad [.ref 10, .int 3, .int (Int32.ofNat k), .int (Int32.ofNat s)] (XW n vs be de sz ro co mi T B hd df) (some (.long (emX (B 6 3) k s))) (XW n vs be de sz ro co mi T B hd df) := by
  match k, hk, s, hs with
  | 0, _, 0, _ => exact c_emission_6_3_0_0
  | 0, _, 1, _ => exact c_emission_6_3_0_1
  | 0, _, 2, _ => exact c_emission_6_3_0_2
  | 1, _, 0, _ => exact c_emission_6_3_1_0
  | 1, _, 1, _ => exact c_emission_6_3_1_1
  | 1, _, 2, _ => exact c_emission_6_3_1_2
  | 2, _, 0, _ => exact c_emission_6_3_2_0
  | 2, _, 1, _ => exact c_emission_6_3_2_1
  | 2, _, 2, _ => exact c_emission_6_3_2_2
set_option maxRecDepth 20000 in
theorem c_emission_7_0_0_0 {n vs : Int32} {be de : Int64} {sz : Int32} {ro co mi : Nat → Int64} {T : Nat → Nat → Int64} {B : Nat → Nat → Nat → Int32} {hd : Nat → Nat → Int32} {df : Nat → Int32} : KX0_emission l D ca ad [.ref 16, .int 0, .int 0, .int 0] (XW n vs be de sz ro co mi T B hd df) (some (.long (emX (B 7 0) 0 0))) (XW n vs be de sz ro co mi T B hd df) := by
  refine PX0_emission (Nat.le_of_ble_eq_true rfl) ?_
  intro G hT hC hR
  refine mB hT 6 rfl ?_
  refine hC _ [_, _] _ _ _ _ (c_place_0_0) rfl (Nat.le_of_ble_eq_true rfl) rfl ?_
  refine mB hT 9 rfl ?_
  exact hR _ (by decide) _ _ _ rfl rfl
set_option maxRecDepth 20000 in
theorem c_emission_7_0_0_1 {n vs : Int32} {be de : Int64} {sz : Int32} {ro co mi : Nat → Int64} {T : Nat → Nat → Int64} {B : Nat → Nat → Nat → Int32} {hd : Nat → Nat → Int32} {df : Nat → Int32} : KX0_emission l D ca ad [.ref 16, .int 0, .int 0, .int 1] (XW n vs be de sz ro co mi T B hd df) (some (.long (emX (B 7 0) 0 1))) (XW n vs be de sz ro co mi T B hd df) := by
  refine PX0_emission (Nat.le_of_ble_eq_true rfl) ?_
  intro G hT hC hR
  refine mB hT 6 rfl ?_
  refine hC _ [_, _] _ _ _ _ (c_place_0_1) rfl (Nat.le_of_ble_eq_true rfl) rfl ?_
  refine mB hT 9 rfl ?_
  exact hR _ (by decide) _ _ _ rfl rfl
set_option maxRecDepth 20000 in
theorem c_emission_7_0_0_2 {n vs : Int32} {be de : Int64} {sz : Int32} {ro co mi : Nat → Int64} {T : Nat → Nat → Int64} {B : Nat → Nat → Nat → Int32} {hd : Nat → Nat → Int32} {df : Nat → Int32} : KX0_emission l D ca ad [.ref 16, .int 0, .int 0, .int 2] (XW n vs be de sz ro co mi T B hd df) (some (.long (emX (B 7 0) 0 2))) (XW n vs be de sz ro co mi T B hd df) := by
  refine PX0_emission (Nat.le_of_ble_eq_true rfl) ?_
  intro G hT hC hR
  refine mB hT 6 rfl ?_
  refine hC _ [_, _] _ _ _ _ (c_place_0_2) rfl (Nat.le_of_ble_eq_true rfl) rfl ?_
  refine mB hT 9 rfl ?_
  exact hR _ (by decide) _ _ _ rfl rfl
set_option maxRecDepth 20000 in
theorem c_emission_7_0_1_0 {n vs : Int32} {be de : Int64} {sz : Int32} {ro co mi : Nat → Int64} {T : Nat → Nat → Int64} {B : Nat → Nat → Nat → Int32} {hd : Nat → Nat → Int32} {df : Nat → Int32} : KX0_emission l D ca ad [.ref 16, .int 0, .int 1, .int 0] (XW n vs be de sz ro co mi T B hd df) (some (.long (emX (B 7 0) 1 0))) (XW n vs be de sz ro co mi T B hd df) := by
  refine PX0_emission (Nat.le_of_ble_eq_true rfl) ?_
  intro G hT hC hR
  refine mB hT 6 rfl ?_
  refine hC _ [_, _] _ _ _ _ (c_place_1_0) rfl (Nat.le_of_ble_eq_true rfl) rfl ?_
  refine mB hT 9 rfl ?_
  exact hR _ (by decide) _ _ _ rfl rfl
set_option maxRecDepth 20000 in
theorem c_emission_7_0_1_1 {n vs : Int32} {be de : Int64} {sz : Int32} {ro co mi : Nat → Int64} {T : Nat → Nat → Int64} {B : Nat → Nat → Nat → Int32} {hd : Nat → Nat → Int32} {df : Nat → Int32} : KX0_emission l D ca ad [.ref 16, .int 0, .int 1, .int 1] (XW n vs be de sz ro co mi T B hd df) (some (.long (emX (B 7 0) 1 1))) (XW n vs be de sz ro co mi T B hd df) := by
  refine PX0_emission (Nat.le_of_ble_eq_true rfl) ?_
  intro G hT hC hR
  refine mB hT 6 rfl ?_
  refine hC _ [_, _] _ _ _ _ (c_place_1_1) rfl (Nat.le_of_ble_eq_true rfl) rfl ?_
  refine mB hT 9 rfl ?_
  exact hR _ (by decide) _ _ _ rfl rfl
set_option maxRecDepth 20000 in
theorem c_emission_7_0_1_2 {n vs : Int32} {be de : Int64} {sz : Int32} {ro co mi : Nat → Int64} {T : Nat → Nat → Int64} {B : Nat → Nat → Nat → Int32} {hd : Nat → Nat → Int32} {df : Nat → Int32} : KX0_emission l D ca ad [.ref 16, .int 0, .int 1, .int 2] (XW n vs be de sz ro co mi T B hd df) (some (.long (emX (B 7 0) 1 2))) (XW n vs be de sz ro co mi T B hd df) := by
  refine PX0_emission (Nat.le_of_ble_eq_true rfl) ?_
  intro G hT hC hR
  refine mB hT 6 rfl ?_
  refine hC _ [_, _] _ _ _ _ (c_place_1_2) rfl (Nat.le_of_ble_eq_true rfl) rfl ?_
  refine mB hT 9 rfl ?_
  exact hR _ (by decide) _ _ _ rfl rfl
set_option maxRecDepth 20000 in
theorem c_emission_7_0_2_0 {n vs : Int32} {be de : Int64} {sz : Int32} {ro co mi : Nat → Int64} {T : Nat → Nat → Int64} {B : Nat → Nat → Nat → Int32} {hd : Nat → Nat → Int32} {df : Nat → Int32} : KX0_emission l D ca ad [.ref 16, .int 0, .int 2, .int 0] (XW n vs be de sz ro co mi T B hd df) (some (.long (emX (B 7 0) 2 0))) (XW n vs be de sz ro co mi T B hd df) := by
  refine PX0_emission (Nat.le_of_ble_eq_true rfl) ?_
  intro G hT hC hR
  refine mB hT 6 rfl ?_
  refine hC _ [_, _] _ _ _ _ (c_place_2_0) rfl (Nat.le_of_ble_eq_true rfl) rfl ?_
  refine mB hT 9 rfl ?_
  exact hR _ (by decide) _ _ _ rfl rfl
set_option maxRecDepth 20000 in
theorem c_emission_7_0_2_1 {n vs : Int32} {be de : Int64} {sz : Int32} {ro co mi : Nat → Int64} {T : Nat → Nat → Int64} {B : Nat → Nat → Nat → Int32} {hd : Nat → Nat → Int32} {df : Nat → Int32} : KX0_emission l D ca ad [.ref 16, .int 0, .int 2, .int 1] (XW n vs be de sz ro co mi T B hd df) (some (.long (emX (B 7 0) 2 1))) (XW n vs be de sz ro co mi T B hd df) := by
  refine PX0_emission (Nat.le_of_ble_eq_true rfl) ?_
  intro G hT hC hR
  refine mB hT 6 rfl ?_
  refine hC _ [_, _] _ _ _ _ (c_place_2_1) rfl (Nat.le_of_ble_eq_true rfl) rfl ?_
  refine mB hT 9 rfl ?_
  exact hR _ (by decide) _ _ _ rfl rfl
set_option maxRecDepth 20000 in
theorem c_emission_7_0_2_2 {n vs : Int32} {be de : Int64} {sz : Int32} {ro co mi : Nat → Int64} {T : Nat → Nat → Int64} {B : Nat → Nat → Nat → Int32} {hd : Nat → Nat → Int32} {df : Nat → Int32} : KX0_emission l D ca ad [.ref 16, .int 0, .int 2, .int 2] (XW n vs be de sz ro co mi T B hd df) (some (.long (emX (B 7 0) 2 2))) (XW n vs be de sz ro co mi T B hd df) := by
  refine PX0_emission (Nat.le_of_ble_eq_true rfl) ?_
  intro G hT hC hR
  refine mB hT 6 rfl ?_
  refine hC _ [_, _] _ _ _ _ (c_place_2_2) rfl (Nat.le_of_ble_eq_true rfl) rfl ?_
  refine mB hT 9 rfl ?_
  exact hR _ (by decide) _ _ _ rfl rfl
theorem c_emission_7_0 {n vs : Int32} {be de : Int64} {sz : Int32} {ro co mi : Nat → Int64} {T : Nat → Nat → Int64} {B : Nat → Nat → Nat → Int32} {hd : Nat → Nat → Int32} {df : Nat → Int32} (k s : Nat) (hk : k < 3) (hs : s < 3) : KX0_emission l D ca ad [.ref 16, .int 0, .int (Int32.ofNat k), .int (Int32.ofNat s)] (XW n vs be de sz ro co mi T B hd df) (some (.long (emX (B 7 0) k s))) (XW n vs be de sz ro co mi T B hd df) := by
  match k, hk, s, hs with
  | 0, _, 0, _ => exact c_emission_7_0_0_0
  | 0, _, 1, _ => exact c_emission_7_0_0_1
  | 0, _, 2, _ => exact c_emission_7_0_0_2
  | 1, _, 0, _ => exact c_emission_7_0_1_0
  | 1, _, 1, _ => exact c_emission_7_0_1_1
  | 1, _, 2, _ => exact c_emission_7_0_1_2
  | 2, _, 0, _ => exact c_emission_7_0_2_0
  | 2, _, 1, _ => exact c_emission_7_0_2_1
  | 2, _, 2, _ => exact c_emission_7_0_2_2
set_option maxRecDepth 20000 in
theorem c_emission_7_1_0_0 {n vs : Int32} {be de : Int64} {sz : Int32} {ro co mi : Nat → Int64} {T : Nat → Nat → Int64} {B : Nat → Nat → Nat → Int32} {hd : Nat → Nat → Int32} {df : Nat → Int32} : KX0_emission l D ca ad [.ref 16, .int 1, .int 0, .int 0] (XW n vs be de sz ro co mi T B hd df) (some (.long (emX (B 7 1) 0 0))) (XW n vs be de sz ro co mi T B hd df) := by
  refine PX0_emission (Nat.le_of_ble_eq_true rfl) ?_
  intro G hT hC hR
  refine mB hT 6 rfl ?_
  refine hC _ [_, _] _ _ _ _ (c_place_0_0) rfl (Nat.le_of_ble_eq_true rfl) rfl ?_
  refine mB hT 9 rfl ?_
  exact hR _ (by decide) _ _ _ rfl rfl
set_option maxRecDepth 20000 in
theorem c_emission_7_1_0_1 {n vs : Int32} {be de : Int64} {sz : Int32} {ro co mi : Nat → Int64} {T : Nat → Nat → Int64} {B : Nat → Nat → Nat → Int32} {hd : Nat → Nat → Int32} {df : Nat → Int32} : KX0_emission l D ca ad [.ref 16, .int 1, .int 0, .int 1] (XW n vs be de sz ro co mi T B hd df) (some (.long (emX (B 7 1) 0 1))) (XW n vs be de sz ro co mi T B hd df) := by
  refine PX0_emission (Nat.le_of_ble_eq_true rfl) ?_
  intro G hT hC hR
  refine mB hT 6 rfl ?_
  refine hC _ [_, _] _ _ _ _ (c_place_0_1) rfl (Nat.le_of_ble_eq_true rfl) rfl ?_
  refine mB hT 9 rfl ?_
  exact hR _ (by decide) _ _ _ rfl rfl
set_option maxRecDepth 20000 in
theorem c_emission_7_1_0_2 {n vs : Int32} {be de : Int64} {sz : Int32} {ro co mi : Nat → Int64} {T : Nat → Nat → Int64} {B : Nat → Nat → Nat → Int32} {hd : Nat → Nat → Int32} {df : Nat → Int32} : KX0_emission l D ca ad [.ref 16, .int 1, .int 0, .int 2] (XW n vs be de sz ro co mi T B hd df) (some (.long (emX (B 7 1) 0 2))) (XW n vs be de sz ro co mi T B hd df) := by
  refine PX0_emission (Nat.le_of_ble_eq_true rfl) ?_
  intro G hT hC hR
  refine mB hT 6 rfl ?_
  refine hC _ [_, _] _ _ _ _ (c_place_0_2) rfl (Nat.le_of_ble_eq_true rfl) rfl ?_
  refine mB hT 9 rfl ?_
  exact hR _ (by decide) _ _ _ rfl rfl
set_option maxRecDepth 20000 in
theorem c_emission_7_1_1_0 {n vs : Int32} {be de : Int64} {sz : Int32} {ro co mi : Nat → Int64} {T : Nat → Nat → Int64} {B : Nat → Nat → Nat → Int32} {hd : Nat → Nat → Int32} {df : Nat → Int32} : KX0_emission l D ca ad [.ref 16, .int 1, .int 1, .int 0] (XW n vs be de sz ro co mi T B hd df) (some (.long (emX (B 7 1) 1 0))) (XW n vs be de sz ro co mi T B hd df) := by
  refine PX0_emission (Nat.le_of_ble_eq_true rfl) ?_
  intro G hT hC hR
  refine mB hT 6 rfl ?_
  refine hC _ [_, _] _ _ _ _ (c_place_1_0) rfl (Nat.le_of_ble_eq_true rfl) rfl ?_
  refine mB hT 9 rfl ?_
  exact hR _ (by decide) _ _ _ rfl rfl
set_option maxRecDepth 20000 in
theorem c_emission_7_1_1_1 {n vs : Int32} {be de : Int64} {sz : Int32} {ro co mi : Nat → Int64} {T : Nat → Nat → Int64} {B : Nat → Nat → Nat → Int32} {hd : Nat → Nat → Int32} {df : Nat → Int32} : KX0_emission l D ca ad [.ref 16, .int 1, .int 1, .int 1] (XW n vs be de sz ro co mi T B hd df) (some (.long (emX (B 7 1) 1 1))) (XW n vs be de sz ro co mi T B hd df) := by
  refine PX0_emission (Nat.le_of_ble_eq_true rfl) ?_
  intro G hT hC hR
  refine mB hT 6 rfl ?_
  refine hC _ [_, _] _ _ _ _ (c_place_1_1) rfl (Nat.le_of_ble_eq_true rfl) rfl ?_
  refine mB hT 9 rfl ?_
  exact hR _ (by decide) _ _ _ rfl rfl
set_option maxRecDepth 20000 in
theorem c_emission_7_1_1_2 {n vs : Int32} {be de : Int64} {sz : Int32} {ro co mi : Nat → Int64} {T : Nat → Nat → Int64} {B : Nat → Nat → Nat → Int32} {hd : Nat → Nat → Int32} {df : Nat → Int32} : KX0_emission l D ca ad [.ref 16, .int 1, .int 1, .int 2] (XW n vs be de sz ro co mi T B hd df) (some (.long (emX (B 7 1) 1 2))) (XW n vs be de sz ro co mi T B hd df) := by
  refine PX0_emission (Nat.le_of_ble_eq_true rfl) ?_
  intro G hT hC hR
  refine mB hT 6 rfl ?_
  refine hC _ [_, _] _ _ _ _ (c_place_1_2) rfl (Nat.le_of_ble_eq_true rfl) rfl ?_
  refine mB hT 9 rfl ?_
  exact hR _ (by decide) _ _ _ rfl rfl
set_option maxRecDepth 20000 in
theorem c_emission_7_1_2_0 {n vs : Int32} {be de : Int64} {sz : Int32} {ro co mi : Nat → Int64} {T : Nat → Nat → Int64} {B : Nat → Nat → Nat → Int32} {hd : Nat → Nat → Int32} {df : Nat → Int32} : KX0_emission l D ca ad [.ref 16, .int 1, .int 2, .int 0] (XW n vs be de sz ro co mi T B hd df) (some (.long (emX (B 7 1) 2 0))) (XW n vs be de sz ro co mi T B hd df) := by
  refine PX0_emission (Nat.le_of_ble_eq_true rfl) ?_
  intro G hT hC hR
  refine mB hT 6 rfl ?_
  refine hC _ [_, _] _ _ _ _ (c_place_2_0) rfl (Nat.le_of_ble_eq_true rfl) rfl ?_
  refine mB hT 9 rfl ?_
  exact hR _ (by decide) _ _ _ rfl rfl
set_option maxRecDepth 20000 in
theorem c_emission_7_1_2_1 {n vs : Int32} {be de : Int64} {sz : Int32} {ro co mi : Nat → Int64} {T : Nat → Nat → Int64} {B : Nat → Nat → Nat → Int32} {hd : Nat → Nat → Int32} {df : Nat → Int32} : KX0_emission l D ca ad [.ref 16, .int 1, .int 2, .int 1] (XW n vs be de sz ro co mi T B hd df) (some (.long (emX (B 7 1) 2 1))) (XW n vs be de sz ro co mi T B hd df) := by
  refine PX0_emission (Nat.le_of_ble_eq_true rfl) ?_
  intro G hT hC hR
  refine mB hT 6 rfl ?_
  refine hC _ [_, _] _ _ _ _ (c_place_2_1) rfl (Nat.le_of_ble_eq_true rfl) rfl ?_
  refine mB hT 9 rfl ?_
  exact hR _ (by decide) _ _ _ rfl rfl
set_option maxRecDepth 20000 in
theorem c_emission_7_1_2_2 {n vs : Int32} {be de : Int64} {sz : Int32} {ro co mi : Nat → Int64} {T : Nat → Nat → Int64} {B : Nat → Nat → Nat → Int32} {hd : Nat → Nat → Int32} {df : Nat → Int32} : KX0_emission l D ca ad [.ref 16, .int 1, .int 2, .int 2] (XW n vs be de sz ro co mi T B hd df) (some (.long (emX (B 7 1) 2 2))) (XW n vs be de sz ro co mi T B hd df) := by
  refine PX0_emission (Nat.le_of_ble_eq_true rfl) ?_
  intro G hT hC hR
  refine mB hT 6 rfl ?_
  refine hC _ [_, _] _ _ _ _ (c_place_2_2) rfl (Nat.le_of_ble_eq_true rfl) rfl ?_
  refine mB hT 9 rfl ?_
  exact hR _ (by decide) _ _ _ rfl rfl
theorem c_emission_7_1 {n vs : Int32} {be de : Int64} {sz : Int32} {ro co mi : Nat → Int64} {T : Nat → Nat → Int64} {B : Nat → Nat → Nat → Int32} {hd : Nat → Nat → Int32} {df : Nat → Int32} (k s : Nat) (hk : k < 3) (hs : s < 3) : KX0_emission l D ca ad [.ref 16, .int 1, .int (Int32.ofNat k), .int (Int32.ofNat s)] (XW n vs be de sz ro co mi T B hd df) (some (.long (emX (B 7 1) k s))) (XW n vs be de sz ro co mi T B hd df) := by
  match k, hk, s, hs with
  | 0, _, 0, _ => exact c_emission_7_1_0_0
  | 0, _, 1, _ => exact c_emission_7_1_0_1
  | 0, _, 2, _ => exact c_emission_7_1_0_2
  | 1, _, 0, _ => exact c_emission_7_1_1_0
  | 1, _, 1, _ => exact c_emission_7_1_1_1
  | 1, _, 2, _ => exact c_emission_7_1_1_2
  | 2, _, 0, _ => exact c_emission_7_1_2_0
  | 2, _, 1, _ => exact c_emission_7_1_2_1
  | 2, _, 2, _ => exact c_emission_7_1_2_2
set_option maxRecDepth 20000 in
theorem c_emission_7_2_0_0 {n vs : Int32} {be de : Int64} {sz : Int32} {ro co mi : Nat → Int64} {T : Nat → Nat → Int64} {B : Nat → Nat → Nat → Int32} {hd : Nat → Nat → Int32} {df : Nat → Int32} : KX0_emission l D ca ad [.ref 16, .int 2, .int 0, .int 0] (XW n vs be de sz ro co mi T B hd df) (some (.long (emX (B 7 2) 0 0))) (XW n vs be de sz ro co mi T B hd df) := by
  refine PX0_emission (Nat.le_of_ble_eq_true rfl) ?_
  intro G hT hC hR
  refine mB hT 6 rfl ?_
  refine hC _ [_, _] _ _ _ _ (c_place_0_0) rfl (Nat.le_of_ble_eq_true rfl) rfl ?_
  refine mB hT 9 rfl ?_
  exact hR _ (by decide) _ _ _ rfl rfl
set_option maxRecDepth 20000 in
theorem c_emission_7_2_0_1 {n vs : Int32} {be de : Int64} {sz : Int32} {ro co mi : Nat → Int64} {T : Nat → Nat → Int64} {B : Nat → Nat → Nat → Int32} {hd : Nat → Nat → Int32} {df : Nat → Int32} : KX0_emission l D ca ad [.ref 16, .int 2, .int 0, .int 1] (XW n vs be de sz ro co mi T B hd df) (some (.long (emX (B 7 2) 0 1))) (XW n vs be de sz ro co mi T B hd df) := by
  refine PX0_emission (Nat.le_of_ble_eq_true rfl) ?_
  intro G hT hC hR
  refine mB hT 6 rfl ?_
  refine hC _ [_, _] _ _ _ _ (c_place_0_1) rfl (Nat.le_of_ble_eq_true rfl) rfl ?_
  refine mB hT 9 rfl ?_
  exact hR _ (by decide) _ _ _ rfl rfl
set_option maxRecDepth 20000 in
theorem c_emission_7_2_0_2 {n vs : Int32} {be de : Int64} {sz : Int32} {ro co mi : Nat → Int64} {T : Nat → Nat → Int64} {B : Nat → Nat → Nat → Int32} {hd : Nat → Nat → Int32} {df : Nat → Int32} : KX0_emission l D ca ad [.ref 16, .int 2, .int 0, .int 2] (XW n vs be de sz ro co mi T B hd df) (some (.long (emX (B 7 2) 0 2))) (XW n vs be de sz ro co mi T B hd df) := by
  refine PX0_emission (Nat.le_of_ble_eq_true rfl) ?_
  intro G hT hC hR
  refine mB hT 6 rfl ?_
  refine hC _ [_, _] _ _ _ _ (c_place_0_2) rfl (Nat.le_of_ble_eq_true rfl) rfl ?_
  refine mB hT 9 rfl ?_
  exact hR _ (by decide) _ _ _ rfl rfl
set_option maxRecDepth 20000 in
theorem c_emission_7_2_1_0 {n vs : Int32} {be de : Int64} {sz : Int32} {ro co mi : Nat → Int64} {T : Nat → Nat → Int64} {B : Nat → Nat → Nat → Int32} {hd : Nat → Nat → Int32} {df : Nat → Int32} : KX0_emission l D ca ad [.ref 16, .int 2, .int 1, .int 0] (XW n vs be de sz ro co mi T B hd df) (some (.long (emX (B 7 2) 1 0))) (XW n vs be de sz ro co mi T B hd df) := by
  refine PX0_emission (Nat.le_of_ble_eq_true rfl) ?_
  intro G hT hC hR
  refine mB hT 6 rfl ?_
  refine hC _ [_, _] _ _ _ _ (c_place_1_0) rfl (Nat.le_of_ble_eq_true rfl) rfl ?_
  refine mB hT 9 rfl ?_
  exact hR _ (by decide) _ _ _ rfl rfl
set_option maxRecDepth 20000 in
theorem c_emission_7_2_1_1 {n vs : Int32} {be de : Int64} {sz : Int32} {ro co mi : Nat → Int64} {T : Nat → Nat → Int64} {B : Nat → Nat → Nat → Int32} {hd : Nat → Nat → Int32} {df : Nat → Int32} : KX0_emission l D ca ad [.ref 16, .int 2, .int 1, .int 1] (XW n vs be de sz ro co mi T B hd df) (some (.long (emX (B 7 2) 1 1))) (XW n vs be de sz ro co mi T B hd df) := by
  refine PX0_emission (Nat.le_of_ble_eq_true rfl) ?_
  intro G hT hC hR
  refine mB hT 6 rfl ?_
  refine hC _ [_, _] _ _ _ _ (c_place_1_1) rfl (Nat.le_of_ble_eq_true rfl) rfl ?_
  refine mB hT 9 rfl ?_
  exact hR _ (by decide) _ _ _ rfl rfl
set_option maxRecDepth 20000 in
theorem c_emission_7_2_1_2 {n vs : Int32} {be de : Int64} {sz : Int32} {ro co mi : Nat → Int64} {T : Nat → Nat → Int64} {B : Nat → Nat → Nat → Int32} {hd : Nat → Nat → Int32} {df : Nat → Int32} : KX0_emission l D ca ad [.ref 16, .int 2, .int 1, .int 2] (XW n vs be de sz ro co mi T B hd df) (some (.long (emX (B 7 2) 1 2))) (XW n vs be de sz ro co mi T B hd df) := by
  refine PX0_emission (Nat.le_of_ble_eq_true rfl) ?_
  intro G hT hC hR
  refine mB hT 6 rfl ?_
  refine hC _ [_, _] _ _ _ _ (c_place_1_2) rfl (Nat.le_of_ble_eq_true rfl) rfl ?_
  refine mB hT 9 rfl ?_
  exact hR _ (by decide) _ _ _ rfl rfl
set_option maxRecDepth 20000 in
theorem c_emission_7_2_2_0 {n vs : Int32} {be de : Int64} {sz : Int32} {ro co mi : Nat → Int64} {T : Nat → Nat → Int64} {B : Nat → Nat → Nat → Int32} {hd : Nat → Nat → Int32} {df : Nat → Int32} : KX0_emission l D ca ad [.ref 16, .int 2, .int 2, .int 0] (XW n vs be de sz ro co mi T B hd df) (some (.long (emX (B 7 2) 2 0))) (XW n vs be de sz ro co mi T B hd df) := by
  refine PX0_emission (Nat.le_of_ble_eq_true rfl) ?_
  intro G hT hC hR
  refine mB hT 6 rfl ?_
  refine hC _ [_, _] _ _ _ _ (c_place_2_0) rfl (Nat.le_of_ble_eq_true rfl) rfl ?_
  refine mB hT 9 rfl ?_
  exact hR _ (by decide) _ _ _ rfl rfl
set_option maxRecDepth 20000 in
theorem c_emission_7_2_2_1 {n vs : Int32} {be de : Int64} {sz : Int32} {ro co mi : Nat → Int64} {T : Nat → Nat → Int64} {B : Nat → Nat → Nat → Int32} {hd : Nat → Nat → Int32} {df : Nat → Int32} : KX0_emission l D ca ad [.ref 16, .int 2, .int 2, .int 1] (XW n vs be de sz ro co mi T B hd df) (some (.long (emX (B 7 2) 2 1))) (XW n vs be de sz ro co mi T B hd df) := by
  refine PX0_emission (Nat.le_of_ble_eq_true rfl) ?_
  intro G hT hC hR
  refine mB hT 6 rfl ?_
  refine hC _ [_, _] _ _ _ _ (c_place_2_1) rfl (Nat.le_of_ble_eq_true rfl) rfl ?_
  refine mB hT 9 rfl ?_
  exact hR _ (by decide) _ _ _ rfl rfl
set_option maxRecDepth 20000 in
theorem c_emission_7_2_2_2 {n vs : Int32} {be de : Int64} {sz : Int32} {ro co mi : Nat → Int64} {T : Nat → Nat → Int64} {B : Nat → Nat → Nat → Int32} {hd : Nat → Nat → Int32} {df : Nat → Int32} : KX0_emission l D ca ad [.ref 16, .int 2, .int 2, .int 2] (XW n vs be de sz ro co mi T B hd df) (some (.long (emX (B 7 2) 2 2))) (XW n vs be de sz ro co mi T B hd df) := by
  refine PX0_emission (Nat.le_of_ble_eq_true rfl) ?_
  intro G hT hC hR
  refine mB hT 6 rfl ?_
  refine hC _ [_, _] _ _ _ _ (c_place_2_2) rfl (Nat.le_of_ble_eq_true rfl) rfl ?_
  refine mB hT 9 rfl ?_
  exact hR _ (by decide) _ _ _ rfl rfl
theorem c_emission_7_2 {n vs : Int32} {be de : Int64} {sz : Int32} {ro co mi : Nat → Int64} {T : Nat → Nat → Int64} {B : Nat → Nat → Nat → Int32} {hd : Nat → Nat → Int32} {df : Nat → Int32} (k s : Nat) (hk : k < 3) (hs : s < 3) : KX0_emission l D ca ad [.ref 16, .int 2, .int (Int32.ofNat k), .int (Int32.ofNat s)] (XW n vs be de sz ro co mi T B hd df) (some (.long (emX (B 7 2) k s))) (XW n vs be de sz ro co mi T B hd df) := by
  match k, hk, s, hs with
  | 0, _, 0, _ => exact c_emission_7_2_0_0
  | 0, _, 1, _ => exact c_emission_7_2_0_1
  | 0, _, 2, _ => exact c_emission_7_2_0_2
  | 1, _, 0, _ => exact c_emission_7_2_1_0
  | 1, _, 1, _ => exact c_emission_7_2_1_1
  | 1, _, 2, _ => exact c_emission_7_2_1_2
  | 2, _, 0, _ => exact c_emission_7_2_2_0
  | 2, _, 1, _ => exact c_emission_7_2_2_1
  | 2, _, 2, _ => exact c_emission_7_2_2_2
set_option maxRecDepth 20000 in
theorem c_emission_7_3_0_0 {n vs : Int32} {be de : Int64} {sz : Int32} {ro co mi : Nat → Int64} {T : Nat → Nat → Int64} {B : Nat → Nat → Nat → Int32} {hd : Nat → Nat → Int32} {df : Nat → Int32} : KX0_emission l D ca ad [.ref 16, .int 3, .int 0, .int 0] (XW n vs be de sz ro co mi T B hd df) (some (.long (emX (B 7 3) 0 0))) (XW n vs be de sz ro co mi T B hd df) := by
  refine PX0_emission (Nat.le_of_ble_eq_true rfl) ?_
  intro G hT hC hR
  refine mB hT 6 rfl ?_
  refine hC _ [_, _] _ _ _ _ (c_place_0_0) rfl (Nat.le_of_ble_eq_true rfl) rfl ?_
  refine mB hT 9 rfl ?_
  exact hR _ (by decide) _ _ _ rfl rfl
set_option maxRecDepth 20000 in
theorem c_emission_7_3_0_1 {n vs : Int32} {be de : Int64} {sz : Int32} {ro co mi : Nat → Int64} {T : Nat → Nat → Int64} {B : Nat → Nat → Nat → Int32} {hd : Nat → Nat → Int32} {df : Nat → Int32} : KX0_emission l D ca ad [.ref 16, .int 3, .int 0, .int 1] (XW n vs be de sz ro co mi T B hd df) (some (.long (emX (B 7 3) 0 1))) (XW n vs be de sz ro co mi T B hd df) := by
  refine PX0_emission (Nat.le_of_ble_eq_true rfl) ?_
  intro G hT hC hR
  refine mB hT 6 rfl ?_
  refine hC _ [_, _] _ _ _ _ (c_place_0_1) rfl (Nat.le_of_ble_eq_true rfl) rfl ?_
  refine mB hT 9 rfl ?_
  exact hR _ (by decide) _ _ _ rfl rfl
set_option maxRecDepth 20000 in
theorem c_emission_7_3_0_2 {n vs : Int32} {be de : Int64} {sz : Int32} {ro co mi : Nat → Int64} {T : Nat → Nat → Int64} {B : Nat → Nat → Nat → Int32} {hd : Nat → Nat → Int32} {df : Nat → Int32} : KX0_emission l D ca ad [.ref 16, .int 3, .int 0, .int 2] (XW n vs be de sz ro co mi T B hd df) (some (.long (emX (B 7 3) 0 2))) (XW n vs be de sz ro co mi T B hd df) := by
  refine PX0_emission (Nat.le_of_ble_eq_true rfl) ?_
  intro G hT hC hR
  refine mB hT 6 rfl ?_
  refine hC _ [_, _] _ _ _ _ (c_place_0_2) rfl (Nat.le_of_ble_eq_true rfl) rfl ?_
  refine mB hT 9 rfl ?_
  exact hR _ (by decide) _ _ _ rfl rfl
set_option maxRecDepth 20000 in
theorem c_emission_7_3_1_0 {n vs : Int32} {be de : Int64} {sz : Int32} {ro co mi : Nat → Int64} {T : Nat → Nat → Int64} {B : Nat → Nat → Nat → Int32} {hd : Nat → Nat → Int32} {df : Nat → Int32} : KX0_emission l D ca ad [.ref 16, .int 3, .int 1, .int 0] (XW n vs be de sz ro co mi T B hd df) (some (.long (emX (B 7 3) 1 0))) (XW n vs be de sz ro co mi T B hd df) := by
  refine PX0_emission (Nat.le_of_ble_eq_true rfl) ?_
  intro G hT hC hR
  refine mB hT 6 rfl ?_
  refine hC _ [_, _] _ _ _ _ (c_place_1_0) rfl (Nat.le_of_ble_eq_true rfl) rfl ?_
  refine mB hT 9 rfl ?_
  exact hR _ (by decide) _ _ _ rfl rfl
set_option maxRecDepth 20000 in
theorem c_emission_7_3_1_1 {n vs : Int32} {be de : Int64} {sz : Int32} {ro co mi : Nat → Int64} {T : Nat → Nat → Int64} {B : Nat → Nat → Nat → Int32} {hd : Nat → Nat → Int32} {df : Nat → Int32} : KX0_emission l D ca ad [.ref 16, .int 3, .int 1, .int 1] (XW n vs be de sz ro co mi T B hd df) (some (.long (emX (B 7 3) 1 1))) (XW n vs be de sz ro co mi T B hd df) := by
  refine PX0_emission (Nat.le_of_ble_eq_true rfl) ?_
  intro G hT hC hR
  refine mB hT 6 rfl ?_
  refine hC _ [_, _] _ _ _ _ (c_place_1_1) rfl (Nat.le_of_ble_eq_true rfl) rfl ?_
  refine mB hT 9 rfl ?_
  exact hR _ (by decide) _ _ _ rfl rfl
set_option maxRecDepth 20000 in
theorem c_emission_7_3_1_2 {n vs : Int32} {be de : Int64} {sz : Int32} {ro co mi : Nat → Int64} {T : Nat → Nat → Int64} {B : Nat → Nat → Nat → Int32} {hd : Nat → Nat → Int32} {df : Nat → Int32} : KX0_emission l D ca ad [.ref 16, .int 3, .int 1, .int 2] (XW n vs be de sz ro co mi T B hd df) (some (.long (emX (B 7 3) 1 2))) (XW n vs be de sz ro co mi T B hd df) := by
  refine PX0_emission (Nat.le_of_ble_eq_true rfl) ?_
  intro G hT hC hR
  refine mB hT 6 rfl ?_
  refine hC _ [_, _] _ _ _ _ (c_place_1_2) rfl (Nat.le_of_ble_eq_true rfl) rfl ?_
  refine mB hT 9 rfl ?_
  exact hR _ (by decide) _ _ _ rfl rfl
set_option maxRecDepth 20000 in
theorem c_emission_7_3_2_0 {n vs : Int32} {be de : Int64} {sz : Int32} {ro co mi : Nat → Int64} {T : Nat → Nat → Int64} {B : Nat → Nat → Nat → Int32} {hd : Nat → Nat → Int32} {df : Nat → Int32} : KX0_emission l D ca ad [.ref 16, .int 3, .int 2, .int 0] (XW n vs be de sz ro co mi T B hd df) (some (.long (emX (B 7 3) 2 0))) (XW n vs be de sz ro co mi T B hd df) := by
  refine PX0_emission (Nat.le_of_ble_eq_true rfl) ?_
  intro G hT hC hR
  refine mB hT 6 rfl ?_
  refine hC _ [_, _] _ _ _ _ (c_place_2_0) rfl (Nat.le_of_ble_eq_true rfl) rfl ?_
  refine mB hT 9 rfl ?_
  exact hR _ (by decide) _ _ _ rfl rfl
set_option maxRecDepth 20000 in
theorem c_emission_7_3_2_1 {n vs : Int32} {be de : Int64} {sz : Int32} {ro co mi : Nat → Int64} {T : Nat → Nat → Int64} {B : Nat → Nat → Nat → Int32} {hd : Nat → Nat → Int32} {df : Nat → Int32} : KX0_emission l D ca ad [.ref 16, .int 3, .int 2, .int 1] (XW n vs be de sz ro co mi T B hd df) (some (.long (emX (B 7 3) 2 1))) (XW n vs be de sz ro co mi T B hd df) := by
  refine PX0_emission (Nat.le_of_ble_eq_true rfl) ?_
  intro G hT hC hR
  refine mB hT 6 rfl ?_
  refine hC _ [_, _] _ _ _ _ (c_place_2_1) rfl (Nat.le_of_ble_eq_true rfl) rfl ?_
  refine mB hT 9 rfl ?_
  exact hR _ (by decide) _ _ _ rfl rfl
set_option maxRecDepth 20000 in
theorem c_emission_7_3_2_2 {n vs : Int32} {be de : Int64} {sz : Int32} {ro co mi : Nat → Int64} {T : Nat → Nat → Int64} {B : Nat → Nat → Nat → Int32} {hd : Nat → Nat → Int32} {df : Nat → Int32} : KX0_emission l D ca ad [.ref 16, .int 3, .int 2, .int 2] (XW n vs be de sz ro co mi T B hd df) (some (.long (emX (B 7 3) 2 2))) (XW n vs be de sz ro co mi T B hd df) := by
  refine PX0_emission (Nat.le_of_ble_eq_true rfl) ?_
  intro G hT hC hR
  refine mB hT 6 rfl ?_
  refine hC _ [_, _] _ _ _ _ (c_place_2_2) rfl (Nat.le_of_ble_eq_true rfl) rfl ?_
  refine mB hT 9 rfl ?_
  exact hR _ (by decide) _ _ _ rfl rfl
theorem c_emission_7_3 {n vs : Int32} {be de : Int64} {sz : Int32} {ro co mi : Nat → Int64} {T : Nat → Nat → Int64} {B : Nat → Nat → Nat → Int32} {hd : Nat → Nat → Int32} {df : Nat → Int32} (k s : Nat) (hk : k < 3) (hs : s < 3) : KX0_emission l D ca ad [.ref 16, .int 3, .int (Int32.ofNat k), .int (Int32.ofNat s)] (XW n vs be de sz ro co mi T B hd df) (some (.long (emX (B 7 3) k s))) (XW n vs be de sz ro co mi T B hd df) := by
  match k, hk, s, hs with
  | 0, _, 0, _ => exact c_emission_7_3_0_0
  | 0, _, 1, _ => exact c_emission_7_3_0_1
  | 0, _, 2, _ => exact c_emission_7_3_0_2
  | 1, _, 0, _ => exact c_emission_7_3_1_0
  | 1, _, 1, _ => exact c_emission_7_3_1_1
  | 1, _, 2, _ => exact c_emission_7_3_1_2
  | 2, _, 0, _ => exact c_emission_7_3_2_0
  | 2, _, 1, _ => exact c_emission_7_3_2_1
  | 2, _, 2, _ => exact c_emission_7_3_2_2
end
