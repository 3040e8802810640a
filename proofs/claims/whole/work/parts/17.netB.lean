section
variable {l : Launch} {D : va_G} {ca : Nat → ClassId} {ad : Nat → Nat}

set_option maxRecDepth 20000 in
theorem c_layc_6_0 {n vs : Int32} {be de : Int64} {sz : Int32} {ro co mi : Nat → Int64} {T : Nat → Nat → Int64} {B : Nat → Nat → Nat → Int32} {hd : Nat → Nat → Int32} {df : Nat → Int32} {c : Nat → Nat → Int64} (hc : ∀ j i : Nat, c j i = (cellX (B 6 i) i j).toInt64) : KX1_layTable l D ca ad [.ref 1, .ref 10, .int 0] (XW n vs be de sz ro co mi T B hd df) none (XW n vs be (detX 0 (lyc 0 c T)) 0 ro co (miX 0 (lyc 0 c T) mi) (lyc 0 c T) B hd df) := by
  refine PX1_layTable (Nat.le_of_ble_eq_true rfl) ?_
  intro G hT hC hR
  refine mB hT 3 rfl ?_
  refine hC.1 _ [_, _] _ _ _ _ (c_min_0) rfl (Nat.le_of_ble_eq_true rfl) rfl ?_
  refine mB hT 9 rfl ?_
  refine mWd (w2 := (XW n vs be de 0 ro co mi T B hd df)) rfl ?_
  refine mWd (w2 := (XW n vs be de 0 ro co mi (lyc 0 c T) B hd df)) rfl ?_
  refine hC.2.2 _ 1 [] _ _ _ _ _ (c_det_0) rfl rfl (Nat.le_of_ble_eq_true rfl) rfl ?_
  refine mB hT 1 rfl ?_
  exact hR _ (by decide) _ _ _ rfl rfl
theorem c_lay_6_0 {n vs : Int32} {be de : Int64} {sz : Int32} {ro co mi : Nat → Int64} {T : Nat → Nat → Int64} {B : Nat → Nat → Nat → Int32} {hd : Nat → Nat → Int32} {df : Nat → Int32} : KX1_layTable l D ca ad [.ref 1, .ref 10, .int 0] (XW n vs be de sz ro co mi T B hd df) none (XW n vs be (detX 0 (lyT 0 (B 6) T)) 0 ro co (miX 0 (lyT 0 (B 6) T) mi) (lyT 0 (B 6) T) B hd df) := c_layc_6_0 (fun _ _ => rfl)
set_option maxRecDepth 20000 in
theorem c_layc_6_1 {n vs : Int32} {be de : Int64} {sz : Int32} {ro co mi : Nat → Int64} {T : Nat → Nat → Int64} {B : Nat → Nat → Nat → Int32} {hd : Nat → Nat → Int32} {df : Nat → Int32} {c : Nat → Nat → Int64} (hc : ∀ j i : Nat, c j i = (cellX (B 6 i) i j).toInt64) : KX1_layTable l D ca ad [.ref 1, .ref 10, .int 1] (XW n vs be de sz ro co mi T B hd df) none (XW n vs be (detX 1 (lyc 1 c T)) 1 ro co (miX 1 (lyc 1 c T) mi) (lyc 1 c T) B hd df) := by
  refine PX1_layTable (Nat.le_of_ble_eq_true rfl) ?_
  intro G hT hC hR
  refine mB hT 3 rfl ?_
  refine hC.1 _ [_, _] _ _ _ _ (c_min_1) rfl (Nat.le_of_ble_eq_true rfl) rfl ?_
  refine mB hT 21 rfl ?_
  refine mNf (lv2 := [(4, .int 0), (3, .int 0), (0, .ref 1), (1, .ref 10), (2, .int 1)]) (st2 := [.int 0, .int 0, .ref 10, .int 0, .ref 4]) rfl rfl ?_
  refine mWd (w2 := (XW n vs be de 1 ro co mi T B hd df)) rfl ?_
  refine hC.2.1 _ 10 [_, _] _ _ _ _ _ (c_tableCell_6_0_0) rfl rfl (Nat.le_of_ble_eq_true rfl) rfl ?_
  refine mB hT 1 rfl ?_
  refine mNf (lv2 := [(4, .int 0), (3, .int 0), (0, .ref 1), (1, .ref 10), (2, .int 1)]) (st2 := [.long (c 0 0), .int 0, .ref 4]) rfl (by rw [hc 0 0] <;> rfl) ?_
  refine mB hT 15 rfl ?_
  refine mNf (lv2 := [(3, .int 1), (4, .int 1), (0, .ref 1), (1, .ref 10), (2, .int 1)]) (st2 := [.ref 1, .ref 1]) rfl rfl ?_
  refine mWd (w2 := (XW n vs be de 1 ro co mi (up T 0 (up (T 0) 0 (c 0 0))) B hd df)) rfl ?_
  refine mWd (w2 := (XW n vs be de 1 ro co mi (lyc 1 c T) B hd df)) rfl ?_
  refine hC.2.2 _ 1 [] _ _ _ _ _ (c_det_1) rfl rfl (Nat.le_of_ble_eq_true rfl) rfl ?_
  refine mB hT 1 rfl ?_
  exact hR _ (by decide) _ _ _ rfl rfl
theorem c_lay_6_1 {n vs : Int32} {be de : Int64} {sz : Int32} {ro co mi : Nat → Int64} {T : Nat → Nat → Int64} {B : Nat → Nat → Nat → Int32} {hd : Nat → Nat → Int32} {df : Nat → Int32} : KX1_layTable l D ca ad [.ref 1, .ref 10, .int 1] (XW n vs be de sz ro co mi T B hd df) none (XW n vs be (detX 1 (lyT 1 (B 6) T)) 1 ro co (miX 1 (lyT 1 (B 6) T) mi) (lyT 1 (B 6) T) B hd df) := c_layc_6_1 (fun _ _ => rfl)
set_option maxRecDepth 20000 in
theorem c_layc_6_2 {n vs : Int32} {be de : Int64} {sz : Int32} {ro co mi : Nat → Int64} {T : Nat → Nat → Int64} {B : Nat → Nat → Nat → Int32} {hd : Nat → Nat → Int32} {df : Nat → Int32} {c : Nat → Nat → Int64} (hc : ∀ j i : Nat, c j i = (cellX (B 6 i) i j).toInt64) : KX1_layTable l D ca ad [.ref 1, .ref 10, .int 2] (XW n vs be de sz ro co mi T B hd df) none (XW n vs be (detX 2 (lyc 2 c T)) 2 ro co (miX 2 (lyc 2 c T) mi) (lyc 2 c T) B hd df) := by
  refine PX1_layTable (Nat.le_of_ble_eq_true rfl) ?_
  intro G hT hC hR
  refine mB hT 3 rfl ?_
  refine hC.1 _ [_, _] _ _ _ _ (c_min_2) rfl (Nat.le_of_ble_eq_true rfl) rfl ?_
  refine mB hT 21 rfl ?_
  refine mNf (lv2 := [(4, .int 0), (3, .int 0), (0, .ref 1), (1, .ref 10), (2, .int 2)]) (st2 := [.int 0, .int 0, .ref 10, .int 0, .ref 4]) rfl rfl ?_
  refine mWd (w2 := (XW n vs be de 2 ro co mi T B hd df)) rfl ?_
  refine hC.2.1 _ 10 [_, _] _ _ _ _ _ (c_tableCell_6_0_0) rfl rfl (Nat.le_of_ble_eq_true rfl) rfl ?_
  refine mB hT 1 rfl ?_
  refine mNf (lv2 := [(4, .int 0), (3, .int 0), (0, .ref 1), (1, .ref 10), (2, .int 2)]) (st2 := [.long (c 0 0), .int 0, .ref 4]) rfl (by rw [hc 0 0] <;> rfl) ?_
  refine mB hT 15 rfl ?_
  refine mWd (w2 := (XW n vs be de 2 ro co mi (up T 0 (up (T 0) 0 (c 0 0))) B hd df)) rfl ?_
  refine hC.2.1 _ 10 [_, _] _ _ _ _ _ (c_tableCell_6_0_1) rfl rfl (Nat.le_of_ble_eq_true rfl) rfl ?_
  refine mB hT 1 rfl ?_
  refine mNf (lv2 := [(4, .int 1), (3, .int 0), (0, .ref 1), (1, .ref 10), (2, .int 2)]) (st2 := [.long (c 0 1), .int 1, .ref 4]) rfl (by rw [hc 0 1] <;> rfl) ?_
  refine mB hT 27 rfl ?_
  refine mNf (lv2 := [(4, .int 0), (3, .int 1), (0, .ref 1), (1, .ref 10), (2, .int 2)]) (st2 := [.int 0, .int 1, .ref 10, .int 0, .ref 5]) rfl rfl ?_
  refine mWd (w2 := (XW n vs be de 2 ro co mi (up T 0 (up (up (T 0) 0 (c 0 0)) 1 (c 0 1))) B hd df)) rfl ?_
  refine hC.2.1 _ 10 [_, _] _ _ _ _ _ (c_tableCell_6_1_0) rfl rfl (Nat.le_of_ble_eq_true rfl) rfl ?_
  refine mB hT 1 rfl ?_
  refine mNf (lv2 := [(4, .int 0), (3, .int 1), (0, .ref 1), (1, .ref 10), (2, .int 2)]) (st2 := [.long (c 1 0), .int 0, .ref 5]) rfl (by rw [hc 1 0] <;> rfl) ?_
  refine mB hT 15 rfl ?_
  refine mWd (w2 := (XW n vs be de 2 ro co mi (up (up T 0 (up (up (T 0) 0 (c 0 0)) 1 (c 0 1))) 1 (up (T 1) 0 (c 1 0))) B hd df)) rfl ?_
  refine hC.2.1 _ 10 [_, _] _ _ _ _ _ (c_tableCell_6_1_1) rfl rfl (Nat.le_of_ble_eq_true rfl) rfl ?_
  refine mB hT 1 rfl ?_
  refine mNf (lv2 := [(4, .int 1), (3, .int 1), (0, .ref 1), (1, .ref 10), (2, .int 2)]) (st2 := [.long (c 1 1), .int 1, .ref 5]) rfl (by rw [hc 1 1] <;> rfl) ?_
  refine mB hT 15 rfl ?_
  refine mNf (lv2 := [(3, .int 2), (4, .int 2), (0, .ref 1), (1, .ref 10), (2, .int 2)]) (st2 := [.ref 1, .ref 1]) rfl rfl ?_
  refine mWd (w2 := (XW n vs be de 2 ro co mi (up (up T 0 (up (up (T 0) 0 (c 0 0)) 1 (c 0 1))) 1 (up (up (T 1) 0 (c 1 0)) 1 (c 1 1))) B hd df)) rfl ?_
  refine mWd (w2 := (XW n vs be de 2 ro co mi (lyc 2 c T) B hd df)) rfl ?_
  refine hC.2.2 _ 1 [] _ _ _ _ _ (c_det_2) rfl rfl (Nat.le_of_ble_eq_true rfl) rfl ?_
  refine mB hT 1 rfl ?_
  exact hR _ (by decide) _ _ _ rfl rfl
theorem c_lay_6_2 {n vs : Int32} {be de : Int64} {sz : Int32} {ro co mi : Nat → Int64} {T : Nat → Nat → Int64} {B : Nat → Nat → Nat → Int32} {hd : Nat → Nat → Int32} {df : Nat → Int32} : KX1_layTable l D ca ad [.ref 1, .ref 10, .int 2] (XW n vs be de sz ro co mi T B hd df) none (XW n vs be (detX 2 (lyT 2 (B 6) T)) 2 ro co (miX 2 (lyT 2 (B 6) T) mi) (lyT 2 (B 6) T) B hd df) := c_layc_6_2 (fun _ _ => rfl)
set_option maxRecDepth 20000 in
theorem c_layc_6_3 {n vs : Int32} {be de : Int64} {sz : Int32} {ro co mi : Nat → Int64} {T : Nat → Nat → Int64} {B : Nat → Nat → Nat → Int32} {hd : Nat → Nat → Int32} {df : Nat → Int32} {c : Nat → Nat → Int64} (hc : ∀ j i : Nat, c j i = (cellX (B 6 i) i j).toInt64) : KX1_layTable l D ca ad [.ref 1, .ref 10, .int 3] (XW n vs be de sz ro co mi T B hd df) none (XW n vs be (detX 3 (lyc 3 c T)) 3 ro co (miX 3 (lyc 3 c T) mi) (lyc 3 c T) B hd df) := by
  refine PX1_layTable (Nat.le_of_ble_eq_true rfl) ?_
  intro G hT hC hR
  refine mB hT 3 rfl ?_
  refine hC.1 _ [_, _] _ _ _ _ (c_min_3) rfl (Nat.le_of_ble_eq_true rfl) rfl ?_
  refine mB hT 21 rfl ?_
  refine mNf (lv2 := [(4, .int 0), (3, .int 0), (0, .ref 1), (1, .ref 10), (2, .int 3)]) (st2 := [.int 0, .int 0, .ref 10, .int 0, .ref 4]) rfl rfl ?_
  refine mWd (w2 := (XW n vs be de 3 ro co mi T B hd df)) rfl ?_
  refine hC.2.1 _ 10 [_, _] _ _ _ _ _ (c_tableCell_6_0_0) rfl rfl (Nat.le_of_ble_eq_true rfl) rfl ?_
  refine mB hT 1 rfl ?_
  refine mNf (lv2 := [(4, .int 0), (3, .int 0), (0, .ref 1), (1, .ref 10), (2, .int 3)]) (st2 := [.long (c 0 0), .int 0, .ref 4]) rfl (by rw [hc 0 0] <;> rfl) ?_
  refine mB hT 15 rfl ?_
  refine mWd (w2 := (XW n vs be de 3 ro co mi (up T 0 (up (T 0) 0 (c 0 0))) B hd df)) rfl ?_
  refine hC.2.1 _ 10 [_, _] _ _ _ _ _ (c_tableCell_6_0_1) rfl rfl (Nat.le_of_ble_eq_true rfl) rfl ?_
  refine mB hT 1 rfl ?_
  refine mNf (lv2 := [(4, .int 1), (3, .int 0), (0, .ref 1), (1, .ref 10), (2, .int 3)]) (st2 := [.long (c 0 1), .int 1, .ref 4]) rfl (by rw [hc 0 1] <;> rfl) ?_
  refine mB hT 15 rfl ?_
  refine mWd (w2 := (XW n vs be de 3 ro co mi (up T 0 (up (up (T 0) 0 (c 0 0)) 1 (c 0 1))) B hd df)) rfl ?_
  refine hC.2.1 _ 10 [_, _] _ _ _ _ _ (c_tableCell_6_0_2) rfl rfl (Nat.le_of_ble_eq_true rfl) rfl ?_
  refine mB hT 1 rfl ?_
  refine mNf (lv2 := [(4, .int 2), (3, .int 0), (0, .ref 1), (1, .ref 10), (2, .int 3)]) (st2 := [.long (c 0 2), .int 2, .ref 4]) rfl (by rw [hc 0 2] <;> rfl) ?_
  refine mB hT 27 rfl ?_
  refine mNf (lv2 := [(4, .int 0), (3, .int 1), (0, .ref 1), (1, .ref 10), (2, .int 3)]) (st2 := [.int 0, .int 1, .ref 10, .int 0, .ref 5]) rfl rfl ?_
  refine mWd (w2 := (XW n vs be de 3 ro co mi (up T 0 (up (up (up (T 0) 0 (c 0 0)) 1 (c 0 1)) 2 (c 0 2))) B hd df)) rfl ?_
  refine hC.2.1 _ 10 [_, _] _ _ _ _ _ (c_tableCell_6_1_0) rfl rfl (Nat.le_of_ble_eq_true rfl) rfl ?_
  refine mB hT 1 rfl ?_
  refine mNf (lv2 := [(4, .int 0), (3, .int 1), (0, .ref 1), (1, .ref 10), (2, .int 3)]) (st2 := [.long (c 1 0), .int 0, .ref 5]) rfl (by rw [hc 1 0] <;> rfl) ?_
  refine mB hT 15 rfl ?_
  refine mWd (w2 := (XW n vs be de 3 ro co mi (up (up T 0 (up (up (up (T 0) 0 (c 0 0)) 1 (c 0 1)) 2 (c 0 2))) 1 (up (T 1) 0 (c 1 0))) B hd df)) rfl ?_
  refine hC.2.1 _ 10 [_, _] _ _ _ _ _ (c_tableCell_6_1_1) rfl rfl (Nat.le_of_ble_eq_true rfl) rfl ?_
  refine mB hT 1 rfl ?_
  refine mNf (lv2 := [(4, .int 1), (3, .int 1), (0, .ref 1), (1, .ref 10), (2, .int 3)]) (st2 := [.long (c 1 1), .int 1, .ref 5]) rfl (by rw [hc 1 1] <;> rfl) ?_
  refine mB hT 15 rfl ?_
  refine mWd (w2 := (XW n vs be de 3 ro co mi (up (up T 0 (up (up (up (T 0) 0 (c 0 0)) 1 (c 0 1)) 2 (c 0 2))) 1 (up (up (T 1) 0 (c 1 0)) 1 (c 1 1))) B hd df)) rfl ?_
  refine hC.2.1 _ 10 [_, _] _ _ _ _ _ (c_tableCell_6_1_2) rfl rfl (Nat.le_of_ble_eq_true rfl) rfl ?_
  refine mB hT 1 rfl ?_
  refine mNf (lv2 := [(4, .int 2), (3, .int 1), (0, .ref 1), (1, .ref 10), (2, .int 3)]) (st2 := [.long (c 1 2), .int 2, .ref 5]) rfl (by rw [hc 1 2] <;> rfl) ?_
  refine mB hT 27 rfl ?_
  refine mNf (lv2 := [(4, .int 0), (3, .int 2), (0, .ref 1), (1, .ref 10), (2, .int 3)]) (st2 := [.int 0, .int 2, .ref 10, .int 0, .ref 6]) rfl rfl ?_
  refine mWd (w2 := (XW n vs be de 3 ro co mi (up (up T 0 (up (up (up (T 0) 0 (c 0 0)) 1 (c 0 1)) 2 (c 0 2))) 1 (up (up (up (T 1) 0 (c 1 0)) 1 (c 1 1)) 2 (c 1 2))) B hd df)) rfl ?_
  refine hC.2.1 _ 10 [_, _] _ _ _ _ _ (c_tableCell_6_2_0) rfl rfl (Nat.le_of_ble_eq_true rfl) rfl ?_
  refine mB hT 1 rfl ?_
  refine mNf (lv2 := [(4, .int 0), (3, .int 2), (0, .ref 1), (1, .ref 10), (2, .int 3)]) (st2 := [.long (c 2 0), .int 0, .ref 6]) rfl (by rw [hc 2 0] <;> rfl) ?_
  refine mB hT 15 rfl ?_
  refine mWd (w2 := (XW n vs be de 3 ro co mi (up (up (up T 0 (up (up (up (T 0) 0 (c 0 0)) 1 (c 0 1)) 2 (c 0 2))) 1 (up (up (up (T 1) 0 (c 1 0)) 1 (c 1 1)) 2 (c 1 2))) 2 (up (T 2) 0 (c 2 0))) B hd df)) rfl ?_
  refine hC.2.1 _ 10 [_, _] _ _ _ _ _ (c_tableCell_6_2_1) rfl rfl (Nat.le_of_ble_eq_true rfl) rfl ?_
  refine mB hT 1 rfl ?_
  refine mNf (lv2 := [(4, .int 1), (3, .int 2), (0, .ref 1), (1, .ref 10), (2, .int 3)]) (st2 := [.long (c 2 1), .int 1, .ref 6]) rfl (by rw [hc 2 1] <;> rfl) ?_
  refine mB hT 15 rfl ?_
  refine mWd (w2 := (XW n vs be de 3 ro co mi (up (up (up T 0 (up (up (up (T 0) 0 (c 0 0)) 1 (c 0 1)) 2 (c 0 2))) 1 (up (up (up (T 1) 0 (c 1 0)) 1 (c 1 1)) 2 (c 1 2))) 2 (up (up (T 2) 0 (c 2 0)) 1 (c 2 1))) B hd df)) rfl ?_
  refine hC.2.1 _ 10 [_, _] _ _ _ _ _ (c_tableCell_6_2_2) rfl rfl (Nat.le_of_ble_eq_true rfl) rfl ?_
  refine mB hT 1 rfl ?_
  refine mNf (lv2 := [(4, .int 2), (3, .int 2), (0, .ref 1), (1, .ref 10), (2, .int 3)]) (st2 := [.long (c 2 2), .int 2, .ref 6]) rfl (by rw [hc 2 2] <;> rfl) ?_
  refine mB hT 15 rfl ?_
  refine mNf (lv2 := [(3, .int 3), (4, .int 3), (0, .ref 1), (1, .ref 10), (2, .int 3)]) (st2 := [.ref 1, .ref 1]) rfl rfl ?_
  refine mWd (w2 := (XW n vs be de 3 ro co mi (up (up (up T 0 (up (up (up (T 0) 0 (c 0 0)) 1 (c 0 1)) 2 (c 0 2))) 1 (up (up (up (T 1) 0 (c 1 0)) 1 (c 1 1)) 2 (c 1 2))) 2 (up (up (up (T 2) 0 (c 2 0)) 1 (c 2 1)) 2 (c 2 2))) B hd df)) rfl ?_
  refine mWd (w2 := (XW n vs be de 3 ro co mi (lyc 3 c T) B hd df)) rfl ?_
  refine hC.2.2 _ 1 [] _ _ _ _ _ (c_det_3) rfl rfl (Nat.le_of_ble_eq_true rfl) rfl ?_
  refine mB hT 1 rfl ?_
  exact hR _ (by decide) _ _ _ rfl rfl
theorem c_lay_6_3 {n vs : Int32} {be de : Int64} {sz : Int32} {ro co mi : Nat → Int64} {T : Nat → Nat → Int64} {B : Nat → Nat → Nat → Int32} {hd : Nat → Nat → Int32} {df : Nat → Int32} : KX1_layTable l D ca ad [.ref 1, .ref 10, .int 3] (XW n vs be de sz ro co mi T B hd df) none (XW n vs be (detX 3 (lyT 3 (B 6) T)) 3 ro co (miX 3 (lyT 3 (B 6) T) mi) (lyT 3 (B 6) T) B hd df) := c_layc_6_3 (fun _ _ => rfl)
set_option maxRecDepth 20000 in
theorem c_layc_6_4 {n vs : Int32} {be de : Int64} {sz : Int32} {ro co mi : Nat → Int64} {T : Nat → Nat → Int64} {B : Nat → Nat → Nat → Int32} {hd : Nat → Nat → Int32} {df : Nat → Int32} {c : Nat → Nat → Int64} (hc : ∀ j i : Nat, c j i = (cellX (B 6 i) i j).toInt64) : KX1_layTable l D ca ad [.ref 1, .ref 10, .int 4] (XW n vs be de sz ro co mi T B hd df) none (XW n vs be (detX 4 (lyc 4 c T)) 4 ro co (miX 4 (lyc 4 c T) mi) (lyc 4 c T) B hd df) := by
  refine PX1_layTable (Nat.le_of_ble_eq_true rfl) ?_
  intro G hT hC hR
  refine mB hT 3 rfl ?_
  refine hC.1 _ [_, _] _ _ _ _ (c_min_4) rfl (Nat.le_of_ble_eq_true rfl) rfl ?_
  refine mB hT 21 rfl ?_
  refine mNf (lv2 := [(4, .int 0), (3, .int 0), (0, .ref 1), (1, .ref 10), (2, .int 4)]) (st2 := [.int 0, .int 0, .ref 10, .int 0, .ref 4]) rfl rfl ?_
  refine mWd (w2 := (XW n vs be de 4 ro co mi T B hd df)) rfl ?_
  refine hC.2.1 _ 10 [_, _] _ _ _ _ _ (c_tableCell_6_0_0) rfl rfl (Nat.le_of_ble_eq_true rfl) rfl ?_
  refine mB hT 1 rfl ?_
  refine mNf (lv2 := [(4, .int 0), (3, .int 0), (0, .ref 1), (1, .ref 10), (2, .int 4)]) (st2 := [.long (c 0 0), .int 0, .ref 4]) rfl (by rw [hc 0 0] <;> rfl) ?_
  refine mB hT 15 rfl ?_
  refine mWd (w2 := (XW n vs be de 4 ro co mi (up T 0 (up (T 0) 0 (c 0 0))) B hd df)) rfl ?_
  refine hC.2.1 _ 10 [_, _] _ _ _ _ _ (c_tableCell_6_0_1) rfl rfl (Nat.le_of_ble_eq_true rfl) rfl ?_
  refine mB hT 1 rfl ?_
  refine mNf (lv2 := [(4, .int 1), (3, .int 0), (0, .ref 1), (1, .ref 10), (2, .int 4)]) (st2 := [.long (c 0 1), .int 1, .ref 4]) rfl (by rw [hc 0 1] <;> rfl) ?_
  refine mB hT 15 rfl ?_
  refine mWd (w2 := (XW n vs be de 4 ro co mi (up T 0 (up (up (T 0) 0 (c 0 0)) 1 (c 0 1))) B hd df)) rfl ?_
  refine hC.2.1 _ 10 [_, _] _ _ _ _ _ (c_tableCell_6_0_2) rfl rfl (Nat.le_of_ble_eq_true rfl) rfl ?_
  refine mB hT 1 rfl ?_
  refine mNf (lv2 := [(4, .int 2), (3, .int 0), (0, .ref 1), (1, .ref 10), (2, .int 4)]) (st2 := [.long (c 0 2), .int 2, .ref 4]) rfl (by rw [hc 0 2] <;> rfl) ?_
  refine mB hT 15 rfl ?_
  refine mWd (w2 := (XW n vs be de 4 ro co mi (up T 0 (up (up (up (T 0) 0 (c 0 0)) 1 (c 0 1)) 2 (c 0 2))) B hd df)) rfl ?_
  refine hC.2.1 _ 10 [_, _] _ _ _ _ _ (c_tableCell_6_0_3) rfl rfl (Nat.le_of_ble_eq_true rfl) rfl ?_
  refine mB hT 1 rfl ?_
  refine mNf (lv2 := [(4, .int 3), (3, .int 0), (0, .ref 1), (1, .ref 10), (2, .int 4)]) (st2 := [.long (c 0 3), .int 3, .ref 4]) rfl (by rw [hc 0 3] <;> rfl) ?_
  refine mB hT 27 rfl ?_
  refine mNf (lv2 := [(4, .int 0), (3, .int 1), (0, .ref 1), (1, .ref 10), (2, .int 4)]) (st2 := [.int 0, .int 1, .ref 10, .int 0, .ref 5]) rfl rfl ?_
  refine mWd (w2 := (XW n vs be de 4 ro co mi (up T 0 (up (up (up (up (T 0) 0 (c 0 0)) 1 (c 0 1)) 2 (c 0 2)) 3 (c 0 3))) B hd df)) rfl ?_
  refine hC.2.1 _ 10 [_, _] _ _ _ _ _ (c_tableCell_6_1_0) rfl rfl (Nat.le_of_ble_eq_true rfl) rfl ?_
  refine mB hT 1 rfl ?_
  refine mNf (lv2 := [(4, .int 0), (3, .int 1), (0, .ref 1), (1, .ref 10), (2, .int 4)]) (st2 := [.long (c 1 0), .int 0, .ref 5]) rfl (by rw [hc 1 0] <;> rfl) ?_
  refine mB hT 15 rfl ?_
  refine mWd (w2 := (XW n vs be de 4 ro co mi (up (up T 0 (up (up (up (up (T 0) 0 (c 0 0)) 1 (c 0 1)) 2 (c 0 2)) 3 (c 0 3))) 1 (up (T 1) 0 (c 1 0))) B hd df)) rfl ?_
  refine hC.2.1 _ 10 [_, _] _ _ _ _ _ (c_tableCell_6_1_1) rfl rfl (Nat.le_of_ble_eq_true rfl) rfl ?_
  refine mB hT 1 rfl ?_
  refine mNf (lv2 := [(4, .int 1), (3, .int 1), (0, .ref 1), (1, .ref 10), (2, .int 4)]) (st2 := [.long (c 1 1), .int 1, .ref 5]) rfl (by rw [hc 1 1] <;> rfl) ?_
  refine mB hT 15 rfl ?_
  refine mWd (w2 := (XW n vs be de 4 ro co mi (up (up T 0 (up (up (up (up (T 0) 0 (c 0 0)) 1 (c 0 1)) 2 (c 0 2)) 3 (c 0 3))) 1 (up (up (T 1) 0 (c 1 0)) 1 (c 1 1))) B hd df)) rfl ?_
  refine hC.2.1 _ 10 [_, _] _ _ _ _ _ (c_tableCell_6_1_2) rfl rfl (Nat.le_of_ble_eq_true rfl) rfl ?_
  refine mB hT 1 rfl ?_
  refine mNf (lv2 := [(4, .int 2), (3, .int 1), (0, .ref 1), (1, .ref 10), (2, .int 4)]) (st2 := [.long (c 1 2), .int 2, .ref 5]) rfl (by rw [hc 1 2] <;> rfl) ?_
  refine mB hT 15 rfl ?_
  refine mWd (w2 := (XW n vs be de 4 ro co mi (up (up T 0 (up (up (up (up (T 0) 0 (c 0 0)) 1 (c 0 1)) 2 (c 0 2)) 3 (c 0 3))) 1 (up (up (up (T 1) 0 (c 1 0)) 1 (c 1 1)) 2 (c 1 2))) B hd df)) rfl ?_
  refine hC.2.1 _ 10 [_, _] _ _ _ _ _ (c_tableCell_6_1_3) rfl rfl (Nat.le_of_ble_eq_true rfl) rfl ?_
  refine mB hT 1 rfl ?_
  refine mNf (lv2 := [(4, .int 3), (3, .int 1), (0, .ref 1), (1, .ref 10), (2, .int 4)]) (st2 := [.long (c 1 3), .int 3, .ref 5]) rfl (by rw [hc 1 3] <;> rfl) ?_
  refine mB hT 27 rfl ?_
  refine mNf (lv2 := [(4, .int 0), (3, .int 2), (0, .ref 1), (1, .ref 10), (2, .int 4)]) (st2 := [.int 0, .int 2, .ref 10, .int 0, .ref 6]) rfl rfl ?_
  refine mWd (w2 := (XW n vs be de 4 ro co mi (up (up T 0 (up (up (up (up (T 0) 0 (c 0 0)) 1 (c 0 1)) 2 (c 0 2)) 3 (c 0 3))) 1 (up (up (up (up (T 1) 0 (c 1 0)) 1 (c 1 1)) 2 (c 1 2)) 3 (c 1 3))) B hd df)) rfl ?_
  refine hC.2.1 _ 10 [_, _] _ _ _ _ _ (c_tableCell_6_2_0) rfl rfl (Nat.le_of_ble_eq_true rfl) rfl ?_
  refine mB hT 1 rfl ?_
  refine mNf (lv2 := [(4, .int 0), (3, .int 2), (0, .ref 1), (1, .ref 10), (2, .int 4)]) (st2 := [.long (c 2 0), .int 0, .ref 6]) rfl (by rw [hc 2 0] <;> rfl) ?_
  refine mB hT 15 rfl ?_
  refine mWd (w2 := (XW n vs be de 4 ro co mi (up (up (up T 0 (up (up (up (up (T 0) 0 (c 0 0)) 1 (c 0 1)) 2 (c 0 2)) 3 (c 0 3))) 1 (up (up (up (up (T 1) 0 (c 1 0)) 1 (c 1 1)) 2 (c 1 2)) 3 (c 1 3))) 2 (up (T 2) 0 (c 2 0))) B hd df)) rfl ?_
  refine hC.2.1 _ 10 [_, _] _ _ _ _ _ (c_tableCell_6_2_1) rfl rfl (Nat.le_of_ble_eq_true rfl) rfl ?_
  refine mB hT 1 rfl ?_
  refine mNf (lv2 := [(4, .int 1), (3, .int 2), (0, .ref 1), (1, .ref 10), (2, .int 4)]) (st2 := [.long (c 2 1), .int 1, .ref 6]) rfl (by rw [hc 2 1] <;> rfl) ?_
  refine mB hT 15 rfl ?_
  refine mWd (w2 := (XW n vs be de 4 ro co mi (up (up (up T 0 (up (up (up (up (T 0) 0 (c 0 0)) 1 (c 0 1)) 2 (c 0 2)) 3 (c 0 3))) 1 (up (up (up (up (T 1) 0 (c 1 0)) 1 (c 1 1)) 2 (c 1 2)) 3 (c 1 3))) 2 (up (up (T 2) 0 (c 2 0)) 1 (c 2 1))) B hd df)) rfl ?_
  refine hC.2.1 _ 10 [_, _] _ _ _ _ _ (c_tableCell_6_2_2) rfl rfl (Nat.le_of_ble_eq_true rfl) rfl ?_
  refine mB hT 1 rfl ?_
  refine mNf (lv2 := [(4, .int 2), (3, .int 2), (0, .ref 1), (1, .ref 10), (2, .int 4)]) (st2 := [.long (c 2 2), .int 2, .ref 6]) rfl (by rw [hc 2 2] <;> rfl) ?_
  refine mB hT 15 rfl ?_
  refine mWd (w2 := (XW n vs be de 4 ro co mi (up (up (up T 0 (up (up (up (up (T 0) 0 (c 0 0)) 1 (c 0 1)) 2 (c 0 2)) 3 (c 0 3))) 1 (up (up (up (up (T 1) 0 (c 1 0)) 1 (c 1 1)) 2 (c 1 2)) 3 (c 1 3))) 2 (up (up (up (T 2) 0 (c 2 0)) 1 (c 2 1)) 2 (c 2 2))) B hd df)) rfl ?_
  refine hC.2.1 _ 10 [_, _] _ _ _ _ _ (c_tableCell_6_2_3) rfl rfl (Nat.le_of_ble_eq_true rfl) rfl ?_
  refine mB hT 1 rfl ?_
  refine mNf (lv2 := [(4, .int 3), (3, .int 2), (0, .ref 1), (1, .ref 10), (2, .int 4)]) (st2 := [.long (c 2 3), .int 3, .ref 6]) rfl (by rw [hc 2 3] <;> rfl) ?_
  refine mB hT 27 rfl ?_
  refine mNf (lv2 := [(4, .int 0), (3, .int 3), (0, .ref 1), (1, .ref 10), (2, .int 4)]) (st2 := [.int 0, .int 3, .ref 10, .int 0, .ref 7]) rfl rfl ?_
  refine mWd (w2 := (XW n vs be de 4 ro co mi (up (up (up T 0 (up (up (up (up (T 0) 0 (c 0 0)) 1 (c 0 1)) 2 (c 0 2)) 3 (c 0 3))) 1 (up (up (up (up (T 1) 0 (c 1 0)) 1 (c 1 1)) 2 (c 1 2)) 3 (c 1 3))) 2 (up (up (up (up (T 2) 0 (c 2 0)) 1 (c 2 1)) 2 (c 2 2)) 3 (c 2 3))) B hd df)) rfl ?_
  refine hC.2.1 _ 10 [_, _] _ _ _ _ _ (c_tableCell_6_3_0) rfl rfl (Nat.le_of_ble_eq_true rfl) rfl ?_
  refine mB hT 1 rfl ?_
  refine mNf (lv2 := [(4, .int 0), (3, .int 3), (0, .ref 1), (1, .ref 10), (2, .int 4)]) (st2 := [.long (c 3 0), .int 0, .ref 7]) rfl (by rw [hc 3 0] <;> rfl) ?_
  refine mB hT 15 rfl ?_
  refine mWd (w2 := (XW n vs be de 4 ro co mi (up (up (up (up T 0 (up (up (up (up (T 0) 0 (c 0 0)) 1 (c 0 1)) 2 (c 0 2)) 3 (c 0 3))) 1 (up (up (up (up (T 1) 0 (c 1 0)) 1 (c 1 1)) 2 (c 1 2)) 3 (c 1 3))) 2 (up (up (up (up (T 2) 0 (c 2 0)) 1 (c 2 1)) 2 (c 2 2)) 3 (c 2 3))) 3 (up (T 3) 0 (c 3 0))) B hd df)) rfl ?_
  refine hC.2.1 _ 10 [_, _] _ _ _ _ _ (c_tableCell_6_3_1) rfl rfl (Nat.le_of_ble_eq_true rfl) rfl ?_
  refine mB hT 1 rfl ?_
  refine mNf (lv2 := [(4, .int 1), (3, .int 3), (0, .ref 1), (1, .ref 10), (2, .int 4)]) (st2 := [.long (c 3 1), .int 1, .ref 7]) rfl (by rw [hc 3 1] <;> rfl) ?_
  refine mB hT 15 rfl ?_
  refine mWd (w2 := (XW n vs be de 4 ro co mi (up (up (up (up T 0 (up (up (up (up (T 0) 0 (c 0 0)) 1 (c 0 1)) 2 (c 0 2)) 3 (c 0 3))) 1 (up (up (up (up (T 1) 0 (c 1 0)) 1 (c 1 1)) 2 (c 1 2)) 3 (c 1 3))) 2 (up (up (up (up (T 2) 0 (c 2 0)) 1 (c 2 1)) 2 (c 2 2)) 3 (c 2 3))) 3 (up (up (T 3) 0 (c 3 0)) 1 (c 3 1))) B hd df)) rfl ?_
  refine hC.2.1 _ 10 [_, _] _ _ _ _ _ (c_tableCell_6_3_2) rfl rfl (Nat.le_of_ble_eq_true rfl) rfl ?_
  refine mB hT 1 rfl ?_
  refine mNf (lv2 := [(4, .int 2), (3, .int 3), (0, .ref 1), (1, .ref 10), (2, .int 4)]) (st2 := [.long (c 3 2), .int 2, .ref 7]) rfl (by rw [hc 3 2] <;> rfl) ?_
  refine mB hT 15 rfl ?_
  refine mWd (w2 := (XW n vs be de 4 ro co mi (up (up (up (up T 0 (up (up (up (up (T 0) 0 (c 0 0)) 1 (c 0 1)) 2 (c 0 2)) 3 (c 0 3))) 1 (up (up (up (up (T 1) 0 (c 1 0)) 1 (c 1 1)) 2 (c 1 2)) 3 (c 1 3))) 2 (up (up (up (up (T 2) 0 (c 2 0)) 1 (c 2 1)) 2 (c 2 2)) 3 (c 2 3))) 3 (up (up (up (T 3) 0 (c 3 0)) 1 (c 3 1)) 2 (c 3 2))) B hd df)) rfl ?_
  refine hC.2.1 _ 10 [_, _] _ _ _ _ _ (c_tableCell_6_3_3) rfl rfl (Nat.le_of_ble_eq_true rfl) rfl ?_
  refine mB hT 1 rfl ?_
  refine mNf (lv2 := [(4, .int 3), (3, .int 3), (0, .ref 1), (1, .ref 10), (2, .int 4)]) (st2 := [.long (c 3 3), .int 3, .ref 7]) rfl (by rw [hc 3 3] <;> rfl) ?_
  refine mB hT 15 rfl ?_
  refine mNf (lv2 := [(3, .int 4), (4, .int 4), (0, .ref 1), (1, .ref 10), (2, .int 4)]) (st2 := [.ref 1, .ref 1]) rfl rfl ?_
  refine mWd (w2 := (XW n vs be de 4 ro co mi (up (up (up (up T 0 (up (up (up (up (T 0) 0 (c 0 0)) 1 (c 0 1)) 2 (c 0 2)) 3 (c 0 3))) 1 (up (up (up (up (T 1) 0 (c 1 0)) 1 (c 1 1)) 2 (c 1 2)) 3 (c 1 3))) 2 (up (up (up (up (T 2) 0 (c 2 0)) 1 (c 2 1)) 2 (c 2 2)) 3 (c 2 3))) 3 (up (up (up (up (T 3) 0 (c 3 0)) 1 (c 3 1)) 2 (c 3 2)) 3 (c 3 3))) B hd df)) rfl ?_
  refine mWd (w2 := (XW n vs be de 4 ro co mi (lyc 4 c T) B hd df)) rfl ?_
  refine hC.2.2 _ 1 [] _ _ _ _ _ (c_det_4) rfl rfl (Nat.le_of_ble_eq_true rfl) rfl ?_
  refine mB hT 1 rfl ?_
  exact hR _ (by decide) _ _ _ rfl rfl
theorem c_lay_6_4 {n vs : Int32} {be de : Int64} {sz : Int32} {ro co mi : Nat → Int64} {T : Nat → Nat → Int64} {B : Nat → Nat → Nat → Int32} {hd : Nat → Nat → Int32} {df : Nat → Int32} : KX1_layTable l D ca ad [.ref 1, .ref 10, .int 4] (XW n vs be de sz ro co mi T B hd df) none (XW n vs be (detX 4 (lyT 4 (B 6) T)) 4 ro co (miX 4 (lyT 4 (B 6) T) mi) (lyT 4 (B 6) T) B hd df) := c_layc_6_4 (fun _ _ => rfl)
set_option maxRecDepth 20000 in
theorem c_layc_7_0 {n vs : Int32} {be de : Int64} {sz : Int32} {ro co mi : Nat → Int64} {T : Nat → Nat → Int64} {B : Nat → Nat → Nat → Int32} {hd : Nat → Nat → Int32} {df : Nat → Int32} {c : Nat → Nat → Int64} (hc : ∀ j i : Nat, c j i = (cellX (B 7 i) i j).toInt64) : KX1_layTable l D ca ad [.ref 1, .ref 16, .int 0] (XW n vs be de sz ro co mi T B hd df) none (XW n vs be (detX 0 (lyc 0 c T)) 0 ro co (miX 0 (lyc 0 c T) mi) (lyc 0 c T) B hd df) := by
  refine PX1_layTable (Nat.le_of_ble_eq_true rfl) ?_
  intro G hT hC hR
  refine mB hT 3 rfl ?_
  refine hC.1 _ [_, _] _ _ _ _ (c_min_0) rfl (Nat.le_of_ble_eq_true rfl) rfl ?_
  refine mB hT 9 rfl ?_
  refine mWd (w2 := (XW n vs be de 0 ro co mi T B hd df)) rfl ?_
  refine mWd (w2 := (XW n vs be de 0 ro co mi (lyc 0 c T) B hd df)) rfl ?_
  refine hC.2.2 _ 1 [] _ _ _ _ _ (c_det_0) rfl rfl (Nat.le_of_ble_eq_true rfl) rfl ?_
  refine mB hT 1 rfl ?_
  exact hR _ (by decide) _ _ _ rfl rfl
theorem c_lay_7_0 {n vs : Int32} {be de : Int64} {sz : Int32} {ro co mi : Nat → Int64} {T : Nat → Nat → Int64} {B : Nat → Nat → Nat → Int32} {hd : Nat → Nat → Int32} {df : Nat → Int32} : KX1_layTable l D ca ad [.ref 1, .ref 16, .int 0] (XW n vs be de sz ro co mi T B hd df) none (XW n vs be (detX 0 (lyT 0 (B 7) T)) 0 ro co (miX 0 (lyT 0 (B 7) T) mi) (lyT 0 (B 7) T) B hd df) := c_layc_7_0 (fun _ _ => rfl)
set_option maxRecDepth 20000 in
theorem c_layc_7_1 {n vs : Int32} {be de : Int64} {sz : Int32} {ro co mi : Nat → Int64} {T : Nat → Nat → Int64} {B : Nat → Nat → Nat → Int32} {hd : Nat → Nat → Int32} {df : Nat → Int32} {c : Nat → Nat → Int64} (hc : ∀ j i : Nat, c j i = (cellX (B 7 i) i j).toInt64) : KX1_layTable l D ca ad [.ref 1, .ref 16, .int 1] (XW n vs be de sz ro co mi T B hd df) none (XW n vs be (detX 1 (lyc 1 c T)) 1 ro co (miX 1 (lyc 1 c T) mi) (lyc 1 c T) B hd df) := by
  refine PX1_layTable (Nat.le_of_ble_eq_true rfl) ?_
  intro G hT hC hR
  refine mB hT 3 rfl ?_
  refine hC.1 _ [_, _] _ _ _ _ (c_min_1) rfl (Nat.le_of_ble_eq_true rfl) rfl ?_
  refine mB hT 21 rfl ?_
  refine mNf (lv2 := [(4, .int 0), (3, .int 0), (0, .ref 1), (1, .ref 16), (2, .int 1)]) (st2 := [.int 0, .int 0, .ref 16, .int 0, .ref 4]) rfl rfl ?_
  refine mWd (w2 := (XW n vs be de 1 ro co mi T B hd df)) rfl ?_
  refine hC.2.1 _ 16 [_, _] _ _ _ _ _ (c_tableCell_7_0_0) rfl rfl (Nat.le_of_ble_eq_true rfl) rfl ?_
  refine mB hT 1 rfl ?_
  refine mNf (lv2 := [(4, .int 0), (3, .int 0), (0, .ref 1), (1, .ref 16), (2, .int 1)]) (st2 := [.long (c 0 0), .int 0, .ref 4]) rfl (by rw [hc 0 0] <;> rfl) ?_
  refine mB hT 15 rfl ?_
  refine mNf (lv2 := [(3, .int 1), (4, .int 1), (0, .ref 1), (1, .ref 16), (2, .int 1)]) (st2 := [.ref 1, .ref 1]) rfl rfl ?_
  refine mWd (w2 := (XW n vs be de 1 ro co mi (up T 0 (up (T 0) 0 (c 0 0))) B hd df)) rfl ?_
  refine mWd (w2 := (XW n vs be de 1 ro co mi (lyc 1 c T) B hd df)) rfl ?_
  refine hC.2.2 _ 1 [] _ _ _ _ _ (c_det_1) rfl rfl (Nat.le_of_ble_eq_true rfl) rfl ?_
  refine mB hT 1 rfl ?_
  exact hR _ (by decide) _ _ _ rfl rfl
theorem c_lay_7_1 {n vs : Int32} {be de : Int64} {sz : Int32} {ro co mi : Nat → Int64} {T : Nat → Nat → Int64} {B : Nat → Nat → Nat → Int32} {hd : Nat → Nat → Int32} {df : Nat → Int32} : KX1_layTable l D ca ad [.ref 1, .ref 16, .int 1] (XW n vs be de sz ro co mi T B hd df) none (XW n vs be (detX 1 (lyT 1 (B 7) T)) 1 ro co (miX 1 (lyT 1 (B 7) T) mi) (lyT 1 (B 7) T) B hd df) := c_layc_7_1 (fun _ _ => rfl)
set_option maxRecDepth 20000 in
theorem c_layc_7_2 {n vs : Int32} {be de : Int64} {sz : Int32} {ro co mi : Nat → Int64} {T : Nat → Nat → Int64} {B : Nat → Nat → Nat → Int32} {hd : Nat → Nat → Int32} {df : Nat → Int32} {c : Nat → Nat → Int64} (hc : ∀ j i : Nat, c j i = (cellX (B 7 i) i j).toInt64) : KX1_layTable l D ca ad [.ref 1, .ref 16, .int 2] (XW n vs be de sz ro co mi T B hd df) none (XW n vs be (detX 2 (lyc 2 c T)) 2 ro co (miX 2 (lyc 2 c T) mi) (lyc 2 c T) B hd df) := by
  refine PX1_layTable (Nat.le_of_ble_eq_true rfl) ?_
  intro G hT hC hR
  refine mB hT 3 rfl ?_
  refine hC.1 _ [_, _] _ _ _ _ (c_min_2) rfl (Nat.le_of_ble_eq_true rfl) rfl ?_
  refine mB hT 21 rfl ?_
  refine mNf (lv2 := [(4, .int 0), (3, .int 0), (0, .ref 1), (1, .ref 16), (2, .int 2)]) (st2 := [.int 0, .int 0, .ref 16, .int 0, .ref 4]) rfl rfl ?_
  refine mWd (w2 := (XW n vs be de 2 ro co mi T B hd df)) rfl ?_
  refine hC.2.1 _ 16 [_, _] _ _ _ _ _ (c_tableCell_7_0_0) rfl rfl (Nat.le_of_ble_eq_true rfl) rfl ?_
  refine mB hT 1 rfl ?_
  refine mNf (lv2 := [(4, .int 0), (3, .int 0), (0, .ref 1), (1, .ref 16), (2, .int 2)]) (st2 := [.long (c 0 0), .int 0, .ref 4]) rfl (by rw [hc 0 0] <;> rfl) ?_
  refine mB hT 15 rfl ?_
  refine mWd (w2 := (XW n vs be de 2 ro co mi (up T 0 (up (T 0) 0 (c 0 0))) B hd df)) rfl ?_
  refine hC.2.1 _ 16 [_, _] _ _ _ _ _ (c_tableCell_7_0_1) rfl rfl (Nat.le_of_ble_eq_true rfl) rfl ?_
  refine mB hT 1 rfl ?_
  refine mNf (lv2 := [(4, .int 1), (3, .int 0), (0, .ref 1), (1, .ref 16), (2, .int 2)]) (st2 := [.long (c 0 1), .int 1, .ref 4]) rfl (by rw [hc 0 1] <;> rfl) ?_
  refine mB hT 27 rfl ?_
  refine mNf (lv2 := [(4, .int 0), (3, .int 1), (0, .ref 1), (1, .ref 16), (2, .int 2)]) (st2 := [.int 0, .int 1, .ref 16, .int 0, .ref 5]) rfl rfl ?_
  refine mWd (w2 := (XW n vs be de 2 ro co mi (up T 0 (up (up (T 0) 0 (c 0 0)) 1 (c 0 1))) B hd df)) rfl ?_
  refine hC.2.1 _ 16 [_, _] _ _ _ _ _ (c_tableCell_7_1_0) rfl rfl (Nat.le_of_ble_eq_true rfl) rfl ?_
  refine mB hT 1 rfl ?_
  refine mNf (lv2 := [(4, .int 0), (3, .int 1), (0, .ref 1), (1, .ref 16), (2, .int 2)]) (st2 := [.long (c 1 0), .int 0, .ref 5]) rfl (by rw [hc 1 0] <;> rfl) ?_
  refine mB hT 15 rfl ?_
  refine mWd (w2 := (XW n vs be de 2 ro co mi (up (up T 0 (up (up (T 0) 0 (c 0 0)) 1 (c 0 1))) 1 (up (T 1) 0 (c 1 0))) B hd df)) rfl ?_
  refine hC.2.1 _ 16 [_, _] _ _ _ _ _ (c_tableCell_7_1_1) rfl rfl (Nat.le_of_ble_eq_true rfl) rfl ?_
  refine mB hT 1 rfl ?_
  refine mNf (lv2 := [(4, .int 1), (3, .int 1), (0, .ref 1), (1, .ref 16), (2, .int 2)]) (st2 := [.long (c 1 1), .int 1, .ref 5]) rfl (by rw [hc 1 1] <;> rfl) ?_
  refine mB hT 15 rfl ?_
  refine mNf (lv2 := [(3, .int 2), (4, .int 2), (0, .ref 1), (1, .ref 16), (2, .int 2)]) (st2 := [.ref 1, .ref 1]) rfl rfl ?_
  refine mWd (w2 := (XW n vs be de 2 ro co mi (up (up T 0 (up (up (T 0) 0 (c 0 0)) 1 (c 0 1))) 1 (up (up (T 1) 0 (c 1 0)) 1 (c 1 1))) B hd df)) rfl ?_
  refine mWd (w2 := (XW n vs be de 2 ro co mi (lyc 2 c T) B hd df)) rfl ?_
  refine hC.2.2 _ 1 [] _ _ _ _ _ (c_det_2) rfl rfl (Nat.le_of_ble_eq_true rfl) rfl ?_
  refine mB hT 1 rfl ?_
  exact hR _ (by decide) _ _ _ rfl rfl
theorem c_lay_7_2 {n vs : Int32} {be de : Int64} {sz : Int32} {ro co mi : Nat → Int64} {T : Nat → Nat → Int64} {B : Nat → Nat → Nat → Int32} {hd : Nat → Nat → Int32} {df : Nat → Int32} : KX1_layTable l D ca ad [.ref 1, .ref 16, .int 2] (XW n vs be de sz ro co mi T B hd df) none (XW n vs be (detX 2 (lyT 2 (B 7) T)) 2 ro co (miX 2 (lyT 2 (B 7) T) mi) (lyT 2 (B 7) T) B hd df) := c_layc_7_2 (fun _ _ => rfl)
set_option maxRecDepth 20000 in
theorem c_layc_7_3 {n vs : Int32} {be de : Int64} {sz : Int32} {ro co mi : Nat → Int64} {T : Nat → Nat → Int64} {B : Nat → Nat → Nat → Int32} {hd : Nat → Nat → Int32} {df : Nat → Int32} {c : Nat → Nat → Int64} (hc : ∀ j i : Nat, c j i = (cellX (B 7 i) i j).toInt64) : KX1_layTable l D ca ad [.ref 1, .ref 16, .int 3] (XW n vs be de sz ro co mi T B hd df) none (XW n vs be (detX 3 (lyc 3 c T)) 3 ro co (miX 3 (lyc 3 c T) mi) (lyc 3 c T) B hd df) := by
  refine PX1_layTable (Nat.le_of_ble_eq_true rfl) ?_
  intro G hT hC hR
  refine mB hT 3 rfl ?_
  refine hC.1 _ [_, _] _ _ _ _ (c_min_3) rfl (Nat.le_of_ble_eq_true rfl) rfl ?_
  refine mB hT 21 rfl ?_
  refine mNf (lv2 := [(4, .int 0), (3, .int 0), (0, .ref 1), (1, .ref 16), (2, .int 3)]) (st2 := [.int 0, .int 0, .ref 16, .int 0, .ref 4]) rfl rfl ?_
  refine mWd (w2 := (XW n vs be de 3 ro co mi T B hd df)) rfl ?_
  refine hC.2.1 _ 16 [_, _] _ _ _ _ _ (c_tableCell_7_0_0) rfl rfl (Nat.le_of_ble_eq_true rfl) rfl ?_
  refine mB hT 1 rfl ?_
  refine mNf (lv2 := [(4, .int 0), (3, .int 0), (0, .ref 1), (1, .ref 16), (2, .int 3)]) (st2 := [.long (c 0 0), .int 0, .ref 4]) rfl (by rw [hc 0 0] <;> rfl) ?_
  refine mB hT 15 rfl ?_
  refine mWd (w2 := (XW n vs be de 3 ro co mi (up T 0 (up (T 0) 0 (c 0 0))) B hd df)) rfl ?_
  refine hC.2.1 _ 16 [_, _] _ _ _ _ _ (c_tableCell_7_0_1) rfl rfl (Nat.le_of_ble_eq_true rfl) rfl ?_
  refine mB hT 1 rfl ?_
  refine mNf (lv2 := [(4, .int 1), (3, .int 0), (0, .ref 1), (1, .ref 16), (2, .int 3)]) (st2 := [.long (c 0 1), .int 1, .ref 4]) rfl (by rw [hc 0 1] <;> rfl) ?_
  refine mB hT 15 rfl ?_
  refine mWd (w2 := (XW n vs be de 3 ro co mi (up T 0 (up (up (T 0) 0 (c 0 0)) 1 (c 0 1))) B hd df)) rfl ?_
  refine hC.2.1 _ 16 [_, _] _ _ _ _ _ (c_tableCell_7_0_2) rfl rfl (Nat.le_of_ble_eq_true rfl) rfl ?_
  refine mB hT 1 rfl ?_
  refine mNf (lv2 := [(4, .int 2), (3, .int 0), (0, .ref 1), (1, .ref 16), (2, .int 3)]) (st2 := [.long (c 0 2), .int 2, .ref 4]) rfl (by rw [hc 0 2] <;> rfl) ?_
  refine mB hT 27 rfl ?_
  refine mNf (lv2 := [(4, .int 0), (3, .int 1), (0, .ref 1), (1, .ref 16), (2, .int 3)]) (st2 := [.int 0, .int 1, .ref 16, .int 0, .ref 5]) rfl rfl ?_
  refine mWd (w2 := (XW n vs be de 3 ro co mi (up T 0 (up (up (up (T 0) 0 (c 0 0)) 1 (c 0 1)) 2 (c 0 2))) B hd df)) rfl ?_
  refine hC.2.1 _ 16 [_, _] _ _ _ _ _ (c_tableCell_7_1_0) rfl rfl (Nat.le_of_ble_eq_true rfl) rfl ?_
  refine mB hT 1 rfl ?_
  refine mNf (lv2 := [(4, .int 0), (3, .int 1), (0, .ref 1), (1, .ref 16), (2, .int 3)]) (st2 := [.long (c 1 0), .int 0, .ref 5]) rfl (by rw [hc 1 0] <;> rfl) ?_
  refine mB hT 15 rfl ?_
  refine mWd (w2 := (XW n vs be de 3 ro co mi (up (up T 0 (up (up (up (T 0) 0 (c 0 0)) 1 (c 0 1)) 2 (c 0 2))) 1 (up (T 1) 0 (c 1 0))) B hd df)) rfl ?_
  refine hC.2.1 _ 16 [_, _] _ _ _ _ _ (c_tableCell_7_1_1) rfl rfl (Nat.le_of_ble_eq_true rfl) rfl ?_
  refine mB hT 1 rfl ?_
  refine mNf (lv2 := [(4, .int 1), (3, .int 1), (0, .ref 1), (1, .ref 16), (2, .int 3)]) (st2 := [.long (c 1 1), .int 1, .ref 5]) rfl (by rw [hc 1 1] <;> rfl) ?_
  refine mB hT 15 rfl ?_
  refine mWd (w2 := (XW n vs be de 3 ro co mi (up (up T 0 (up (up (up (T 0) 0 (c 0 0)) 1 (c 0 1)) 2 (c 0 2))) 1 (up (up (T 1) 0 (c 1 0)) 1 (c 1 1))) B hd df)) rfl ?_
  refine hC.2.1 _ 16 [_, _] _ _ _ _ _ (c_tableCell_7_1_2) rfl rfl (Nat.le_of_ble_eq_true rfl) rfl ?_
  refine mB hT 1 rfl ?_
  refine mNf (lv2 := [(4, .int 2), (3, .int 1), (0, .ref 1), (1, .ref 16), (2, .int 3)]) (st2 := [.long (c 1 2), .int 2, .ref 5]) rfl (by rw [hc 1 2] <;> rfl) ?_
  refine mB hT 27 rfl ?_
  refine mNf (lv2 := [(4, .int 0), (3, .int 2), (0, .ref 1), (1, .ref 16), (2, .int 3)]) (st2 := [.int 0, .int 2, .ref 16, .int 0, .ref 6]) rfl rfl ?_
  refine mWd (w2 := (XW n vs be de 3 ro co mi (up (up T 0 (up (up (up (T 0) 0 (c 0 0)) 1 (c 0 1)) 2 (c 0 2))) 1 (up (up (up (T 1) 0 (c 1 0)) 1 (c 1 1)) 2 (c 1 2))) B hd df)) rfl ?_
  refine hC.2.1 _ 16 [_, _] _ _ _ _ _ (c_tableCell_7_2_0) rfl rfl (Nat.le_of_ble_eq_true rfl) rfl ?_
  refine mB hT 1 rfl ?_
  refine mNf (lv2 := [(4, .int 0), (3, .int 2), (0, .ref 1), (1, .ref 16), (2, .int 3)]) (st2 := [.long (c 2 0), .int 0, .ref 6]) rfl (by rw [hc 2 0] <;> rfl) ?_
  refine mB hT 15 rfl ?_
  refine mWd (w2 := (XW n vs be de 3 ro co mi (up (up (up T 0 (up (up (up (T 0) 0 (c 0 0)) 1 (c 0 1)) 2 (c 0 2))) 1 (up (up (up (T 1) 0 (c 1 0)) 1 (c 1 1)) 2 (c 1 2))) 2 (up (T 2) 0 (c 2 0))) B hd df)) rfl ?_
  refine hC.2.1 _ 16 [_, _] _ _ _ _ _ (c_tableCell_7_2_1) rfl rfl (Nat.le_of_ble_eq_true rfl) rfl ?_
  refine mB hT 1 rfl ?_
  refine mNf (lv2 := [(4, .int 1), (3, .int 2), (0, .ref 1), (1, .ref 16), (2, .int 3)]) (st2 := [.long (c 2 1), .int 1, .ref 6]) rfl (by rw [hc 2 1] <;> rfl) ?_
  refine mB hT 15 rfl ?_
  refine mWd (w2 := (XW n vs be de 3 ro co mi (up (up (up T 0 (up (up (up (T 0) 0 (c 0 0)) 1 (c 0 1)) 2 (c 0 2))) 1 (up (up (up (T 1) 0 (c 1 0)) 1 (c 1 1)) 2 (c 1 2))) 2 (up (up (T 2) 0 (c 2 0)) 1 (c 2 1))) B hd df)) rfl ?_
  refine hC.2.1 _ 16 [_, _] _ _ _ _ _ (c_tableCell_7_2_2) rfl rfl (Nat.le_of_ble_eq_true rfl) rfl ?_
  refine mB hT 1 rfl ?_
  refine mNf (lv2 := [(4, .int 2), (3, .int 2), (0, .ref 1), (1, .ref 16), (2, .int 3)]) (st2 := [.long (c 2 2), .int 2, .ref 6]) rfl (by rw [hc 2 2] <;> rfl) ?_
  refine mB hT 15 rfl ?_
  refine mNf (lv2 := [(3, .int 3), (4, .int 3), (0, .ref 1), (1, .ref 16), (2, .int 3)]) (st2 := [.ref 1, .ref 1]) rfl rfl ?_
  refine mWd (w2 := (XW n vs be de 3 ro co mi (up (up (up T 0 (up (up (up (T 0) 0 (c 0 0)) 1 (c 0 1)) 2 (c 0 2))) 1 (up (up (up (T 1) 0 (c 1 0)) 1 (c 1 1)) 2 (c 1 2))) 2 (up (up (up (T 2) 0 (c 2 0)) 1 (c 2 1)) 2 (c 2 2))) B hd df)) rfl ?_
  refine mWd (w2 := (XW n vs be de 3 ro co mi (lyc 3 c T) B hd df)) rfl ?_
  refine hC.2.2 _ 1 [] _ _ _ _ _ (c_det_3) rfl rfl (Nat.le_of_ble_eq_true rfl) rfl ?_
  refine mB hT 1 rfl ?_
  exact hR _ (by decide) _ _ _ rfl rfl
theorem c_lay_7_3 {n vs : Int32} {be de : Int64} {sz : Int32} {ro co mi : Nat → Int64} {T : Nat → Nat → Int64} {B : Nat → Nat → Nat → Int32} {hd : Nat → Nat → Int32} {df : Nat → Int32} : KX1_layTable l D ca ad [.ref 1, .ref 16, .int 3] (XW n vs be de sz ro co mi T B hd df) none (XW n vs be (detX 3 (lyT 3 (B 7) T)) 3 ro co (miX 3 (lyT 3 (B 7) T) mi) (lyT 3 (B 7) T) B hd df) := c_layc_7_3 (fun _ _ => rfl)
set_option maxRecDepth 20000 in
theorem c_layc_7_4 {n vs : Int32} {be de : Int64} {sz : Int32} {ro co mi : Nat → Int64} {T : Nat → Nat → Int64} {B : Nat → Nat → Nat → Int32} {hd : Nat → Nat → Int32} {df : Nat → Int32} {c : Nat → Nat → Int64} (hc : ∀ j i : Nat, c j i = (cellX (B 7 i) i j).toInt64) : KX1_layTable l D ca ad [.ref 1, .ref 16, .int 4] (XW n vs be de sz ro co mi T B hd df) none (XW n vs be (detX 4 (lyc 4 c T)) 4 ro co (miX 4 (lyc 4 c T) mi) (lyc 4 c T) B hd df) := by
  refine PX1_layTable (Nat.le_of_ble_eq_true rfl) ?_
  intro G hT hC hR
  refine mB hT 3 rfl ?_
  refine hC.1 _ [_, _] _ _ _ _ (c_min_4) rfl (Nat.le_of_ble_eq_true rfl) rfl ?_
  refine mB hT 21 rfl ?_
  refine mNf (lv2 := [(4, .int 0), (3, .int 0), (0, .ref 1), (1, .ref 16), (2, .int 4)]) (st2 := [.int 0, .int 0, .ref 16, .int 0, .ref 4]) rfl rfl ?_
  refine mWd (w2 := (XW n vs be de 4 ro co mi T B hd df)) rfl ?_
  refine hC.2.1 _ 16 [_, _] _ _ _ _ _ (c_tableCell_7_0_0) rfl rfl (Nat.le_of_ble_eq_true rfl) rfl ?_
  refine mB hT 1 rfl ?_
  refine mNf (lv2 := [(4, .int 0), (3, .int 0), (0, .ref 1), (1, .ref 16), (2, .int 4)]) (st2 := [.long (c 0 0), .int 0, .ref 4]) rfl (by rw [hc 0 0] <;> rfl) ?_
  refine mB hT 15 rfl ?_
  refine mWd (w2 := (XW n vs be de 4 ro co mi (up T 0 (up (T 0) 0 (c 0 0))) B hd df)) rfl ?_
  refine hC.2.1 _ 16 [_, _] _ _ _ _ _ (c_tableCell_7_0_1) rfl rfl (Nat.le_of_ble_eq_true rfl) rfl ?_
  refine mB hT 1 rfl ?_
  refine mNf (lv2 := [(4, .int 1), (3, .int 0), (0, .ref 1), (1, .ref 16), (2, .int 4)]) (st2 := [.long (c 0 1), .int 1, .ref 4]) rfl (by rw [hc 0 1] <;> rfl) ?_
  refine mB hT 15 rfl ?_
  refine mWd (w2 := (XW n vs be de 4 ro co mi (up T 0 (up (up (T 0) 0 (c 0 0)) 1 (c 0 1))) B hd df)) rfl ?_
  refine hC.2.1 _ 16 [_, _] _ _ _ _ _ (c_tableCell_7_0_2) rfl rfl (Nat.le_of_ble_eq_true rfl) rfl ?_
  refine mB hT 1 rfl ?_
  refine mNf (lv2 := [(4, .int 2), (3, .int 0), (0, .ref 1), (1, .ref 16), (2, .int 4)]) (st2 := [.long (c 0 2), .int 2, .ref 4]) rfl (by rw [hc 0 2] <;> rfl) ?_
  refine mB hT 15 rfl ?_
  refine mWd (w2 := (XW n vs be de 4 ro co mi (up T 0 (up (up (up (T 0) 0 (c 0 0)) 1 (c 0 1)) 2 (c 0 2))) B hd df)) rfl ?_
  refine hC.2.1 _ 16 [_, _] _ _ _ _ _ (c_tableCell_7_0_3) rfl rfl (Nat.le_of_ble_eq_true rfl) rfl ?_
  refine mB hT 1 rfl ?_
  refine mNf (lv2 := [(4, .int 3), (3, .int 0), (0, .ref 1), (1, .ref 16), (2, .int 4)]) (st2 := [.long (c 0 3), .int 3, .ref 4]) rfl (by rw [hc 0 3] <;> rfl) ?_
  refine mB hT 27 rfl ?_
  refine mNf (lv2 := [(4, .int 0), (3, .int 1), (0, .ref 1), (1, .ref 16), (2, .int 4)]) (st2 := [.int 0, .int 1, .ref 16, .int 0, .ref 5]) rfl rfl ?_
  refine mWd (w2 := (XW n vs be de 4 ro co mi (up T 0 (up (up (up (up (T 0) 0 (c 0 0)) 1 (c 0 1)) 2 (c 0 2)) 3 (c 0 3))) B hd df)) rfl ?_
  refine hC.2.1 _ 16 [_, _] _ _ _ _ _ (c_tableCell_7_1_0) rfl rfl (Nat.le_of_ble_eq_true rfl) rfl ?_
  refine mB hT 1 rfl ?_
  refine mNf (lv2 := [(4, .int 0), (3, .int 1), (0, .ref 1), (1, .ref 16), (2, .int 4)]) (st2 := [.long (c 1 0), .int 0, .ref 5]) rfl (by rw [hc 1 0] <;> rfl) ?_
  refine mB hT 15 rfl ?_
  refine mWd (w2 := (XW n vs be de 4 ro co mi (up (up T 0 (up (up (up (up (T 0) 0 (c 0 0)) 1 (c 0 1)) 2 (c 0 2)) 3 (c 0 3))) 1 (up (T 1) 0 (c 1 0))) B hd df)) rfl ?_
  refine hC.2.1 _ 16 [_, _] _ _ _ _ _ (c_tableCell_7_1_1) rfl rfl (Nat.le_of_ble_eq_true rfl) rfl ?_
  refine mB hT 1 rfl ?_
  refine mNf (lv2 := [(4, .int 1), (3, .int 1), (0, .ref 1), (1, .ref 16), (2, .int 4)]) (st2 := [.long (c 1 1), .int 1, .ref 5]) rfl (by rw [hc 1 1] <;> rfl) ?_
  refine mB hT 15 rfl ?_
  refine mWd (w2 := (XW n vs be de 4 ro co mi (up (up T 0 (up (up (up (up (T 0) 0 (c 0 0)) 1 (c 0 1)) 2 (c 0 2)) 3 (c 0 3))) 1 (up (up (T 1) 0 (c 1 0)) 1 (c 1 1))) B hd df)) rfl ?_
  refine hC.2.1 _ 16 [_, _] _ _ _ _ _ (c_tableCell_7_1_2) rfl rfl (Nat.le_of_ble_eq_true rfl) rfl ?_
  refine mB hT 1 rfl ?_
  refine mNf (lv2 := [(4, .int 2), (3, .int 1), (0, .ref 1), (1, .ref 16), (2, .int 4)]) (st2 := [.long (c 1 2), .int 2, .ref 5]) rfl (by rw [hc 1 2] <;> rfl) ?_
  refine mB hT 15 rfl ?_
  refine mWd (w2 := (XW n vs be de 4 ro co mi (up (up T 0 (up (up (up (up (T 0) 0 (c 0 0)) 1 (c 0 1)) 2 (c 0 2)) 3 (c 0 3))) 1 (up (up (up (T 1) 0 (c 1 0)) 1 (c 1 1)) 2 (c 1 2))) B hd df)) rfl ?_
  refine hC.2.1 _ 16 [_, _] _ _ _ _ _ (c_tableCell_7_1_3) rfl rfl (Nat.le_of_ble_eq_true rfl) rfl ?_
  refine mB hT 1 rfl ?_
  refine mNf (lv2 := [(4, .int 3), (3, .int 1), (0, .ref 1), (1, .ref 16), (2, .int 4)]) (st2 := [.long (c 1 3), .int 3, .ref 5]) rfl (by rw [hc 1 3] <;> rfl) ?_
  refine mB hT 27 rfl ?_
  refine mNf (lv2 := [(4, .int 0), (3, .int 2), (0, .ref 1), (1, .ref 16), (2, .int 4)]) (st2 := [.int 0, .int 2, .ref 16, .int 0, .ref 6]) rfl rfl ?_
  refine mWd (w2 := (XW n vs be de 4 ro co mi (up (up T 0 (up (up (up (up (T 0) 0 (c 0 0)) 1 (c 0 1)) 2 (c 0 2)) 3 (c 0 3))) 1 (up (up (up (up (T 1) 0 (c 1 0)) 1 (c 1 1)) 2 (c 1 2)) 3 (c 1 3))) B hd df)) rfl ?_
  refine hC.2.1 _ 16 [_, _] _ _ _ _ _ (c_tableCell_7_2_0) rfl rfl (Nat.le_of_ble_eq_true rfl) rfl ?_
  refine mB hT 1 rfl ?_
  refine mNf (lv2 := [(4, .int 0), (3, .int 2), (0, .ref 1), (1, .ref 16), (2, .int 4)]) (st2 := [.long (c 2 0), .int 0, .ref 6]) rfl (by rw [hc 2 0] <;> rfl) ?_
  refine mB hT 15 rfl ?_
  refine mWd (w2 := (XW n vs be de 4 ro co mi (up (up (up T 0 (up (up (up (up (T 0) 0 (c 0 0)) 1 (c 0 1)) 2 (c 0 2)) 3 (c 0 3))) 1 (up (up (up (up (T 1) 0 (c 1 0)) 1 (c 1 1)) 2 (c 1 2)) 3 (c 1 3))) 2 (up (T 2) 0 (c 2 0))) B hd df)) rfl ?_
  refine hC.2.1 _ 16 [_, _] _ _ _ _ _ (c_tableCell_7_2_1) rfl rfl (Nat.le_of_ble_eq_true rfl) rfl ?_
  refine mB hT 1 rfl ?_
  refine mNf (lv2 := [(4, .int 1), (3, .int 2), (0, .ref 1), (1, .ref 16), (2, .int 4)]) (st2 := [.long (c 2 1), .int 1, .ref 6]) rfl (by rw [hc 2 1] <;> rfl) ?_
  refine mB hT 15 rfl ?_
  refine mWd (w2 := (XW n vs be de 4 ro co mi (up (up (up T 0 (up (up (up (up (T 0) 0 (c 0 0)) 1 (c 0 1)) 2 (c 0 2)) 3 (c 0 3))) 1 (up (up (up (up (T 1) 0 (c 1 0)) 1 (c 1 1)) 2 (c 1 2)) 3 (c 1 3))) 2 (up (up (T 2) 0 (c 2 0)) 1 (c 2 1))) B hd df)) rfl ?_
  refine hC.2.1 _ 16 [_, _] _ _ _ _ _ (c_tableCell_7_2_2) rfl rfl (Nat.le_of_ble_eq_true rfl) rfl ?_
  refine mB hT 1 rfl ?_
  refine mNf (lv2 := [(4, .int 2), (3, .int 2), (0, .ref 1), (1, .ref 16), (2, .int 4)]) (st2 := [.long (c 2 2), .int 2, .ref 6]) rfl (by rw [hc 2 2] <;> rfl) ?_
  refine mB hT 15 rfl ?_
  refine mWd (w2 := (XW n vs be de 4 ro co mi (up (up (up T 0 (up (up (up (up (T 0) 0 (c 0 0)) 1 (c 0 1)) 2 (c 0 2)) 3 (c 0 3))) 1 (up (up (up (up (T 1) 0 (c 1 0)) 1 (c 1 1)) 2 (c 1 2)) 3 (c 1 3))) 2 (up (up (up (T 2) 0 (c 2 0)) 1 (c 2 1)) 2 (c 2 2))) B hd df)) rfl ?_
  refine hC.2.1 _ 16 [_, _] _ _ _ _ _ (c_tableCell_7_2_3) rfl rfl (Nat.le_of_ble_eq_true rfl) rfl ?_
  refine mB hT 1 rfl ?_
  refine mNf (lv2 := [(4, .int 3), (3, .int 2), (0, .ref 1), (1, .ref 16), (2, .int 4)]) (st2 := [.long (c 2 3), .int 3, .ref 6]) rfl (by rw [hc 2 3] <;> rfl) ?_
  refine mB hT 27 rfl ?_
  refine mNf (lv2 := [(4, .int 0), (3, .int 3), (0, .ref 1), (1, .ref 16), (2, .int 4)]) (st2 := [.int 0, .int 3, .ref 16, .int 0, .ref 7]) rfl rfl ?_
  refine mWd (w2 := (XW n vs be de 4 ro co mi (up (up (up T 0 (up (up (up (up (T 0) 0 (c 0 0)) 1 (c 0 1)) 2 (c 0 2)) 3 (c 0 3))) 1 (up (up (up (up (T 1) 0 (c 1 0)) 1 (c 1 1)) 2 (c 1 2)) 3 (c 1 3))) 2 (up (up (up (up (T 2) 0 (c 2 0)) 1 (c 2 1)) 2 (c 2 2)) 3 (c 2 3))) B hd df)) rfl ?_
  refine hC.2.1 _ 16 [_, _] _ _ _ _ _ (c_tableCell_7_3_0) rfl rfl (Nat.le_of_ble_eq_true rfl) rfl ?_
  refine mB hT 1 rfl ?_
  refine mNf (lv2 := [(4, .int 0), (3, .int 3), (0, .ref 1), (1, .ref 16), (2, .int 4)]) (st2 := [.long (c 3 0), .int 0, .ref 7]) rfl (by rw [hc 3 0] <;> rfl) ?_
  refine mB hT 15 rfl ?_
  refine mWd (w2 := (XW n vs be de 4 ro co mi (up (up (up (up T 0 (up (up (up (up (T 0) 0 (c 0 0)) 1 (c 0 1)) 2 (c 0 2)) 3 (c 0 3))) 1 (up (up (up (up (T 1) 0 (c 1 0)) 1 (c 1 1)) 2 (c 1 2)) 3 (c 1 3))) 2 (up (up (up (up (T 2) 0 (c 2 0)) 1 (c 2 1)) 2 (c 2 2)) 3 (c 2 3))) 3 (up (T 3) 0 (c 3 0))) B hd df)) rfl ?_
  refine hC.2.1 _ 16 [_, _] _ _ _ _ _ (c_tableCell_7_3_1) rfl rfl (Nat.le_of_ble_eq_true rfl) rfl ?_
  refine mB hT 1 rfl ?_
  refine mNf (lv2 := [(4, .int 1), (3, .int 3), (0, .ref 1), (1, .ref 16), (2, .int 4)]) (st2 := [.long (c 3 1), .int 1, .ref 7]) rfl (by rw [hc 3 1] <;> rfl) ?_
  refine mB hT 15 rfl ?_
  refine mWd (w2 := (XW n vs be de 4 ro co mi (up (up (up (up T 0 (up (up (up (up (T 0) 0 (c 0 0)) 1 (c 0 1)) 2 (c 0 2)) 3 (c 0 3))) 1 (up (up (up (up (T 1) 0 (c 1 0)) 1 (c 1 1)) 2 (c 1 2)) 3 (c 1 3))) 2 (up (up (up (up (T 2) 0 (c 2 0)) 1 (c 2 1)) 2 (c 2 2)) 3 (c 2 3))) 3 (up (up (T 3) 0 (c 3 0)) 1 (c 3 1))) B hd df)) rfl ?_
  refine hC.2.1 _ 16 [_, _] _ _ _ _ _ (c_tableCell_7_3_2) rfl rfl (Nat.le_of_ble_eq_true rfl) rfl ?_
  refine mB hT 1 rfl ?_
  refine mNf (lv2 := [(4, .int 2), (3, .int 3), (0, .ref 1), (1, .ref 16), (2, .int 4)]) (st2 := [.long (c 3 2), .int 2, .ref 7]) rfl (by rw [hc 3 2] <;> rfl) ?_
  refine mB hT 15 rfl ?_
  refine mWd (w2 := (XW n vs be de 4 ro co mi (up (up (up (up T 0 (up (up (up (up (T 0) 0 (c 0 0)) 1 (c 0 1)) 2 (c 0 2)) 3 (c 0 3))) 1 (up (up (up (up (T 1) 0 (c 1 0)) 1 (c 1 1)) 2 (c 1 2)) 3 (c 1 3))) 2 (up (up (up (up (T 2) 0 (c 2 0)) 1 (c 2 1)) 2 (c 2 2)) 3 (c 2 3))) 3 (up (up (up (T 3) 0 (c 3 0)) 1 (c 3 1)) 2 (c 3 2))) B hd df)) rfl ?_
  refine hC.2.1 _ 16 [_, _] _ _ _ _ _ (c_tableCell_7_3_3) rfl rfl (Nat.le_of_ble_eq_true rfl) rfl ?_
  refine mB hT 1 rfl ?_
  refine mNf (lv2 := [(4, .int 3), (3, .int 3), (0, .ref 1), (1, .ref 16), (2, .int 4)]) (st2 := [.long (c 3 3), .int 3, .ref 7]) rfl (by rw [hc 3 3] <;> rfl) ?_
  refine mB hT 15 rfl ?_
  refine mNf (lv2 := [(3, .int 4), (4, .int 4), (0, .ref 1), (1, .ref 16), (2, .int 4)]) (st2 := [.ref 1, .ref 1]) rfl rfl ?_
  refine mWd (w2 := (XW n vs be de 4 ro co mi (up (up (up (up T 0 (up (up (up (up (T 0) 0 (c 0 0)) 1 (c 0 1)) 2 (c 0 2)) 3 (c 0 3))) 1 (up (up (up (up (T 1) 0 (c 1 0)) 1 (c 1 1)) 2 (c 1 2)) 3 (c 1 3))) 2 (up (up (up (up (T 2) 0 (c 2 0)) 1 (c 2 1)) 2 (c 2 2)) 3 (c 2 3))) 3 (up (up (up (up (T 3) 0 (c 3 0)) 1 (c 3 1)) 2 (c 3 2)) 3 (c 3 3))) B hd df)) rfl ?_
  refine mWd (w2 := (XW n vs be de 4 ro co mi (lyc 4 c T) B hd df)) rfl ?_
  refine hC.2.2 _ 1 [] _ _ _ _ _ (c_det_4) rfl rfl (Nat.le_of_ble_eq_true rfl) rfl ?_
  refine mB hT 1 rfl ?_
  exact hR _ (by decide) _ _ _ rfl rfl
theorem c_lay_7_4 {n vs : Int32} {be de : Int64} {sz : Int32} {ro co mi : Nat → Int64} {T : Nat → Nat → Int64} {B : Nat → Nat → Nat → Int32} {hd : Nat → Nat → Int32} {df : Nat → Int32} : KX1_layTable l D ca ad [.ref 1, .ref 16, .int 4] (XW n vs be de sz ro co mi T B hd df) none (XW n vs be (detX 4 (lyT 4 (B 7) T)) 4 ro co (miX 4 (lyT 4 (B 7) T) mi) (lyT 4 (B 7) T) B hd df) := c_layc_7_4 (fun _ _ => rfl)
set_option maxRecDepth 20000 in
theorem c_dwh_0_1_0 {n vs : Int32} {be de : Int64} {ro co mi : Nat → Int64} {T : Nat → Nat → Int64} {B : Nat → Nat → Nat → Int32} {hd : Nat → Nat → Int32} {df : Nat → Int32} {hh : Nat → Int64} (hq : ∀ j : Nat, hh j = ((hd 0) j).toInt64) : KX1_determinantWithColumn l D ca ad [.ref 1, .int 0, .ref 23] (XW n vs be de 1 ro co mi T B hd df) (some (.long (detX 1 (clc 1 T 0 hh)))) (XW n vs be de 1 ro (coT 1 T 0 co) (miX 1 (clc 1 T 0 hh) mi) T B hd df) := by
  refine PX1_determinantWithColumn (Nat.le_of_ble_eq_true rfl) ?_
  intro G hT hC hR
  refine mB hT 30 rfl ?_
  refine mNf (lv2 := [(3, .int 0), (0, .ref 1), (1, .int 0), (2, .ref 23)]) (st2 := [.long (hh 0), .int 0, .ref 4]) rfl (by rw [hq 0] <;> rfl) ?_
  refine mB hT 8 rfl ?_
  refine mWd (w2 := (XW n vs be de 1 ro (up co 0 (T 0 0)) mi (up T 0 (up (T 0) 0 (hh 0))) B hd df)) rfl ?_
  refine mWd (w2 := (XW n vs be de 1 ro (coT 1 T 0 co) mi (clc 1 T 0 hh) B hd df)) rfl ?_
  refine hC _ 1 [] _ _ _ _ _ (c_det_1) rfl rfl (Nat.le_of_ble_eq_true rfl) rfl ?_
  refine mB hT 24 rfl ?_
  exact hR _ (by decide) _ _ _ rfl rfl
theorem c_dwc_0_1_0 {n vs : Int32} {be de : Int64} {ro co mi : Nat → Int64} {T : Nat → Nat → Int64} {B : Nat → Nat → Nat → Int32} {hd : Nat → Nat → Int32} {df : Nat → Int32} : KX1_determinantWithColumn l D ca ad [.ref 1, .int 0, .ref 23] (XW n vs be de 1 ro co mi T B hd df) (some (.long (detX 1 (clT 1 T 0 (hd 0))))) (XW n vs be de 1 ro (coT 1 T 0 co) (miX 1 (clT 1 T 0 (hd 0)) mi) T B hd df) := c_dwh_0_1_0 (fun _ => rfl)
set_option maxRecDepth 20000 in
theorem c_dwh_0_2_0 {n vs : Int32} {be de : Int64} {ro co mi : Nat → Int64} {T : Nat → Nat → Int64} {B : Nat → Nat → Nat → Int32} {hd : Nat → Nat → Int32} {df : Nat → Int32} {hh : Nat → Int64} (hq : ∀ j : Nat, hh j = ((hd 0) j).toInt64) : KX1_determinantWithColumn l D ca ad [.ref 1, .int 0, .ref 23] (XW n vs be de 2 ro co mi T B hd df) (some (.long (detX 2 (clc 2 T 0 hh)))) (XW n vs be de 2 ro (coT 2 T 0 co) (miX 2 (clc 2 T 0 hh) mi) T B hd df) := by
  refine PX1_determinantWithColumn (Nat.le_of_ble_eq_true rfl) ?_
  intro G hT hC hR
  refine mB hT 30 rfl ?_
  refine mNf (lv2 := [(3, .int 0), (0, .ref 1), (1, .int 0), (2, .ref 23)]) (st2 := [.long (hh 0), .int 0, .ref 4]) rfl (by rw [hq 0] <;> rfl) ?_
  refine mB hT 31 rfl ?_
  refine mNf (lv2 := [(3, .int 1), (0, .ref 1), (1, .int 0), (2, .ref 23)]) (st2 := [.long (hh 1), .int 0, .ref 5]) rfl (by rw [hq 1] <;> rfl) ?_
  refine mB hT 8 rfl ?_
  refine mWd (w2 := (XW n vs be de 2 ro (up (up co 0 (T 0 0)) 1 (T 1 0)) mi (up (up T 0 (up (T 0) 0 (hh 0))) 1 (up (T 1) 0 (hh 1))) B hd df)) rfl ?_
  refine mWd (w2 := (XW n vs be de 2 ro (coT 2 T 0 co) mi (clc 2 T 0 hh) B hd df)) rfl ?_
  refine hC _ 1 [] _ _ _ _ _ (c_det_2) rfl rfl (Nat.le_of_ble_eq_true rfl) rfl ?_
  refine mB hT 40 rfl ?_
  refine mNf (lv2 := [(5, .int 2), (3, .long (detX 2 (clc 2 T 0 hh))), (0, .ref 1), (1, .int 0), (2, .ref 23)]) (st2 := [.long (detX 2 (clc 2 T 0 hh))]) rfl rfl ?_
  exact hR _ (by decide) _ _ _ rfl rfl
theorem c_dwc_0_2_0 {n vs : Int32} {be de : Int64} {ro co mi : Nat → Int64} {T : Nat → Nat → Int64} {B : Nat → Nat → Nat → Int32} {hd : Nat → Nat → Int32} {df : Nat → Int32} : KX1_determinantWithColumn l D ca ad [.ref 1, .int 0, .ref 23] (XW n vs be de 2 ro co mi T B hd df) (some (.long (detX 2 (clT 2 T 0 (hd 0))))) (XW n vs be de 2 ro (coT 2 T 0 co) (miX 2 (clT 2 T 0 (hd 0)) mi) T B hd df) := c_dwh_0_2_0 (fun _ => rfl)
set_option maxRecDepth 20000 in
theorem c_dwh_0_2_1 {n vs : Int32} {be de : Int64} {ro co mi : Nat → Int64} {T : Nat → Nat → Int64} {B : Nat → Nat → Nat → Int32} {hd : Nat → Nat → Int32} {df : Nat → Int32} {hh : Nat → Int64} (hq : ∀ j : Nat, hh j = ((hd 0) j).toInt64) : KX1_determinantWithColumn l D ca ad [.ref 1, .int 1, .ref 23] (XW n vs be de 2 ro co mi T B hd df) (some (.long (detX 2 (clc 2 T 1 hh)))) (XW n vs be de 2 ro (coT 2 T 1 co) (miX 2 (clc 2 T 1 hh) mi) T B hd df) := by
  refine PX1_determinantWithColumn (Nat.le_of_ble_eq_true rfl) ?_
  intro G hT hC hR
  refine mB hT 30 rfl ?_
  refine mNf (lv2 := [(3, .int 0), (0, .ref 1), (1, .int 1), (2, .ref 23)]) (st2 := [.long (hh 0), .int 1, .ref 4]) rfl (by rw [hq 0] <;> rfl) ?_
  refine mB hT 31 rfl ?_
  refine mNf (lv2 := [(3, .int 1), (0, .ref 1), (1, .int 1), (2, .ref 23)]) (st2 := [.long (hh 1), .int 1, .ref 5]) rfl (by rw [hq 1] <;> rfl) ?_
  refine mB hT 8 rfl ?_
  refine mWd (w2 := (XW n vs be de 2 ro (up (up co 0 (T 0 1)) 1 (T 1 1)) mi (up (up T 0 (up (T 0) 1 (hh 0))) 1 (up (T 1) 1 (hh 1))) B hd df)) rfl ?_
  refine mWd (w2 := (XW n vs be de 2 ro (coT 2 T 1 co) mi (clc 2 T 1 hh) B hd df)) rfl ?_
  refine hC _ 1 [] _ _ _ _ _ (c_det_2) rfl rfl (Nat.le_of_ble_eq_true rfl) rfl ?_
  refine mB hT 40 rfl ?_
  refine mNf (lv2 := [(5, .int 2), (3, .long (detX 2 (clc 2 T 1 hh))), (0, .ref 1), (1, .int 1), (2, .ref 23)]) (st2 := [.long (detX 2 (clc 2 T 1 hh))]) rfl rfl ?_
  exact hR _ (by decide) _ _ _ rfl rfl
theorem c_dwc_0_2_1 {n vs : Int32} {be de : Int64} {ro co mi : Nat → Int64} {T : Nat → Nat → Int64} {B : Nat → Nat → Nat → Int32} {hd : Nat → Nat → Int32} {df : Nat → Int32} : KX1_determinantWithColumn l D ca ad [.ref 1, .int 1, .ref 23] (XW n vs be de 2 ro co mi T B hd df) (some (.long (detX 2 (clT 2 T 1 (hd 0))))) (XW n vs be de 2 ro (coT 2 T 1 co) (miX 2 (clT 2 T 1 (hd 0)) mi) T B hd df) := c_dwh_0_2_1 (fun _ => rfl)
set_option maxRecDepth 20000 in
theorem c_dwh_0_3_0 {n vs : Int32} {be de : Int64} {ro co mi : Nat → Int64} {T : Nat → Nat → Int64} {B : Nat → Nat → Nat → Int32} {hd : Nat → Nat → Int32} {df : Nat → Int32} {hh : Nat → Int64} (hq : ∀ j : Nat, hh j = ((hd 0) j).toInt64) : KX1_determinantWithColumn l D ca ad [.ref 1, .int 0, .ref 23] (XW n vs be de 3 ro co mi T B hd df) (some (.long (detX 3 (clc 3 T 0 hh)))) (XW n vs be de 3 ro (coT 3 T 0 co) (miX 3 (clc 3 T 0 hh) mi) T B hd df) := by
  refine PX1_determinantWithColumn (Nat.le_of_ble_eq_true rfl) ?_
  intro G hT hC hR
  refine mB hT 30 rfl ?_
  refine mNf (lv2 := [(3, .int 0), (0, .ref 1), (1, .int 0), (2, .ref 23)]) (st2 := [.long (hh 0), .int 0, .ref 4]) rfl (by rw [hq 0] <;> rfl) ?_
  refine mB hT 31 rfl ?_
  refine mNf (lv2 := [(3, .int 1), (0, .ref 1), (1, .int 0), (2, .ref 23)]) (st2 := [.long (hh 1), .int 0, .ref 5]) rfl (by rw [hq 1] <;> rfl) ?_
  refine mB hT 31 rfl ?_
  refine mNf (lv2 := [(3, .int 2), (0, .ref 1), (1, .int 0), (2, .ref 23)]) (st2 := [.long (hh 2), .int 0, .ref 6]) rfl (by rw [hq 2] <;> rfl) ?_
  refine mB hT 8 rfl ?_
  refine mWd (w2 := (XW n vs be de 3 ro (up (up (up co 0 (T 0 0)) 1 (T 1 0)) 2 (T 2 0)) mi (up (up (up T 0 (up (T 0) 0 (hh 0))) 1 (up (T 1) 0 (hh 1))) 2 (up (T 2) 0 (hh 2))) B hd df)) rfl ?_
  refine mWd (w2 := (XW n vs be de 3 ro (coT 3 T 0 co) mi (clc 3 T 0 hh) B hd df)) rfl ?_
  refine hC _ 1 [] _ _ _ _ _ (c_det_3) rfl rfl (Nat.le_of_ble_eq_true rfl) rfl ?_
  refine mB hT 40 rfl ?_
  refine mNf (lv2 := [(5, .int 2), (3, .long (detX 3 (clc 3 T 0 hh))), (0, .ref 1), (1, .int 0), (2, .ref 23)]) (st2 := [.ref 1]) rfl rfl ?_
  refine mB hT 16 rfl ?_
  exact hR _ (by decide) _ _ _ rfl rfl
theorem c_dwc_0_3_0 {n vs : Int32} {be de : Int64} {ro co mi : Nat → Int64} {T : Nat → Nat → Int64} {B : Nat → Nat → Nat → Int32} {hd : Nat → Nat → Int32} {df : Nat → Int32} : KX1_determinantWithColumn l D ca ad [.ref 1, .int 0, .ref 23] (XW n vs be de 3 ro co mi T B hd df) (some (.long (detX 3 (clT 3 T 0 (hd 0))))) (XW n vs be de 3 ro (coT 3 T 0 co) (miX 3 (clT 3 T 0 (hd 0)) mi) T B hd df) := c_dwh_0_3_0 (fun _ => rfl)
set_option maxRecDepth 20000 in
theorem c_dwh_0_3_1 {n vs : Int32} {be de : Int64} {ro co mi : Nat → Int64} {T : Nat → Nat → Int64} {B : Nat → Nat → Nat → Int32} {hd : Nat → Nat → Int32} {df : Nat → Int32} {hh : Nat → Int64} (hq : ∀ j : Nat, hh j = ((hd 0) j).toInt64) : KX1_determinantWithColumn l D ca ad [.ref 1, .int 1, .ref 23] (XW n vs be de 3 ro co mi T B hd df) (some (.long (detX 3 (clc 3 T 1 hh)))) (XW n vs be de 3 ro (coT 3 T 1 co) (miX 3 (clc 3 T 1 hh) mi) T B hd df) := by
  refine PX1_determinantWithColumn (Nat.le_of_ble_eq_true rfl) ?_
  intro G hT hC hR
  refine mB hT 30 rfl ?_
  refine mNf (lv2 := [(3, .int 0), (0, .ref 1), (1, .int 1), (2, .ref 23)]) (st2 := [.long (hh 0), .int 1, .ref 4]) rfl (by rw [hq 0] <;> rfl) ?_
  refine mB hT 31 rfl ?_
  refine mNf (lv2 := [(3, .int 1), (0, .ref 1), (1, .int 1), (2, .ref 23)]) (st2 := [.long (hh 1), .int 1, .ref 5]) rfl (by rw [hq 1] <;> rfl) ?_
  refine mB hT 31 rfl ?_
  refine mNf (lv2 := [(3, .int 2), (0, .ref 1), (1, .int 1), (2, .ref 23)]) (st2 := [.long (hh 2), .int 1, .ref 6]) rfl (by rw [hq 2] <;> rfl) ?_
  refine mB hT 8 rfl ?_
  refine mWd (w2 := (XW n vs be de 3 ro (up (up (up co 0 (T 0 1)) 1 (T 1 1)) 2 (T 2 1)) mi (up (up (up T 0 (up (T 0) 1 (hh 0))) 1 (up (T 1) 1 (hh 1))) 2 (up (T 2) 1 (hh 2))) B hd df)) rfl ?_
  refine mWd (w2 := (XW n vs be de 3 ro (coT 3 T 1 co) mi (clc 3 T 1 hh) B hd df)) rfl ?_
  refine hC _ 1 [] _ _ _ _ _ (c_det_3) rfl rfl (Nat.le_of_ble_eq_true rfl) rfl ?_
  refine mB hT 40 rfl ?_
  refine mNf (lv2 := [(5, .int 2), (3, .long (detX 3 (clc 3 T 1 hh))), (0, .ref 1), (1, .int 1), (2, .ref 23)]) (st2 := [.ref 1]) rfl rfl ?_
  refine mB hT 16 rfl ?_
  exact hR _ (by decide) _ _ _ rfl rfl
theorem c_dwc_0_3_1 {n vs : Int32} {be de : Int64} {ro co mi : Nat → Int64} {T : Nat → Nat → Int64} {B : Nat → Nat → Nat → Int32} {hd : Nat → Nat → Int32} {df : Nat → Int32} : KX1_determinantWithColumn l D ca ad [.ref 1, .int 1, .ref 23] (XW n vs be de 3 ro co mi T B hd df) (some (.long (detX 3 (clT 3 T 1 (hd 0))))) (XW n vs be de 3 ro (coT 3 T 1 co) (miX 3 (clT 3 T 1 (hd 0)) mi) T B hd df) := c_dwh_0_3_1 (fun _ => rfl)
set_option maxRecDepth 20000 in
theorem c_dwh_0_3_2 {n vs : Int32} {be de : Int64} {ro co mi : Nat → Int64} {T : Nat → Nat → Int64} {B : Nat → Nat → Nat → Int32} {hd : Nat → Nat → Int32} {df : Nat → Int32} {hh : Nat → Int64} (hq : ∀ j : Nat, hh j = ((hd 0) j).toInt64) : KX1_determinantWithColumn l D ca ad [.ref 1, .int 2, .ref 23] (XW n vs be de 3 ro co mi T B hd df) (some (.long (detX 3 (clc 3 T 2 hh)))) (XW n vs be de 3 ro (coT 3 T 2 co) (miX 3 (clc 3 T 2 hh) mi) T B hd df) := by
  refine PX1_determinantWithColumn (Nat.le_of_ble_eq_true rfl) ?_
  intro G hT hC hR
  refine mB hT 30 rfl ?_
  refine mNf (lv2 := [(3, .int 0), (0, .ref 1), (1, .int 2), (2, .ref 23)]) (st2 := [.long (hh 0), .int 2, .ref 4]) rfl (by rw [hq 0] <;> rfl) ?_
  refine mB hT 31 rfl ?_
  refine mNf (lv2 := [(3, .int 1), (0, .ref 1), (1, .int 2), (2, .ref 23)]) (st2 := [.long (hh 1), .int 2, .ref 5]) rfl (by rw [hq 1] <;> rfl) ?_
  refine mB hT 31 rfl ?_
  refine mNf (lv2 := [(3, .int 2), (0, .ref 1), (1, .int 2), (2, .ref 23)]) (st2 := [.long (hh 2), .int 2, .ref 6]) rfl (by rw [hq 2] <;> rfl) ?_
  refine mB hT 8 rfl ?_
  refine mWd (w2 := (XW n vs be de 3 ro (up (up (up co 0 (T 0 2)) 1 (T 1 2)) 2 (T 2 2)) mi (up (up (up T 0 (up (T 0) 2 (hh 0))) 1 (up (T 1) 2 (hh 1))) 2 (up (T 2) 2 (hh 2))) B hd df)) rfl ?_
  refine mWd (w2 := (XW n vs be de 3 ro (coT 3 T 2 co) mi (clc 3 T 2 hh) B hd df)) rfl ?_
  refine hC _ 1 [] _ _ _ _ _ (c_det_3) rfl rfl (Nat.le_of_ble_eq_true rfl) rfl ?_
  refine mB hT 40 rfl ?_
  refine mNf (lv2 := [(5, .int 2), (3, .long (detX 3 (clc 3 T 2 hh))), (0, .ref 1), (1, .int 2), (2, .ref 23)]) (st2 := [.ref 1]) rfl rfl ?_
  refine mB hT 16 rfl ?_
  exact hR _ (by decide) _ _ _ rfl rfl
theorem c_dwc_0_3_2 {n vs : Int32} {be de : Int64} {ro co mi : Nat → Int64} {T : Nat → Nat → Int64} {B : Nat → Nat → Nat → Int32} {hd : Nat → Nat → Int32} {df : Nat → Int32} : KX1_determinantWithColumn l D ca ad [.ref 1, .int 2, .ref 23] (XW n vs be de 3 ro co mi T B hd df) (some (.long (detX 3 (clT 3 T 2 (hd 0))))) (XW n vs be de 3 ro (coT 3 T 2 co) (miX 3 (clT 3 T 2 (hd 0)) mi) T B hd df) := c_dwh_0_3_2 (fun _ => rfl)
set_option maxRecDepth 20000 in
theorem c_dwh_0_4_0 {n vs : Int32} {be de : Int64} {ro co mi : Nat → Int64} {T : Nat → Nat → Int64} {B : Nat → Nat → Nat → Int32} {hd : Nat → Nat → Int32} {df : Nat → Int32} {hh : Nat → Int64} (hq : ∀ j : Nat, hh j = ((hd 0) j).toInt64) : KX1_determinantWithColumn l D ca ad [.ref 1, .int 0, .ref 23] (XW n vs be de 4 ro co mi T B hd df) (some (.long (detX 4 (clc 4 T 0 hh)))) (XW n vs be de 4 ro (coT 4 T 0 co) (miX 4 (clc 4 T 0 hh) mi) T B hd df) := by
  refine PX1_determinantWithColumn (Nat.le_of_ble_eq_true rfl) ?_
  intro G hT hC hR
  refine mB hT 30 rfl ?_
  refine mNf (lv2 := [(3, .int 0), (0, .ref 1), (1, .int 0), (2, .ref 23)]) (st2 := [.long (hh 0), .int 0, .ref 4]) rfl (by rw [hq 0] <;> rfl) ?_
  refine mB hT 31 rfl ?_
  refine mNf (lv2 := [(3, .int 1), (0, .ref 1), (1, .int 0), (2, .ref 23)]) (st2 := [.long (hh 1), .int 0, .ref 5]) rfl (by rw [hq 1] <;> rfl) ?_
  refine mB hT 31 rfl ?_
  refine mNf (lv2 := [(3, .int 2), (0, .ref 1), (1, .int 0), (2, .ref 23)]) (st2 := [.long (hh 2), .int 0, .ref 6]) rfl (by rw [hq 2] <;> rfl) ?_
  refine mB hT 31 rfl ?_
  refine mNf (lv2 := [(3, .int 3), (0, .ref 1), (1, .int 0), (2, .ref 23)]) (st2 := [.long (hh 3), .int 0, .ref 7]) rfl (by rw [hq 3] <;> rfl) ?_
  refine mB hT 8 rfl ?_
  refine mWd (w2 := (XW n vs be de 4 ro (up (up (up (up co 0 (T 0 0)) 1 (T 1 0)) 2 (T 2 0)) 3 (T 3 0)) mi (up (up (up (up T 0 (up (T 0) 0 (hh 0))) 1 (up (T 1) 0 (hh 1))) 2 (up (T 2) 0 (hh 2))) 3 (up (T 3) 0 (hh 3))) B hd df)) rfl ?_
  refine mWd (w2 := (XW n vs be de 4 ro (coT 4 T 0 co) mi (clc 4 T 0 hh) B hd df)) rfl ?_
  refine hC _ 1 [] _ _ _ _ _ (c_det_4) rfl rfl (Nat.le_of_ble_eq_true rfl) rfl ?_
  refine mB hT 40 rfl ?_
  refine mNf (lv2 := [(5, .int 2), (3, .long (detX 4 (clc 4 T 0 hh))), (0, .ref 1), (1, .int 0), (2, .ref 23)]) (st2 := [.ref 1]) rfl rfl ?_
  refine mB hT 32 rfl ?_
  exact hR _ (by decide) _ _ _ rfl rfl
theorem c_dwc_0_4_0 {n vs : Int32} {be de : Int64} {ro co mi : Nat → Int64} {T : Nat → Nat → Int64} {B : Nat → Nat → Nat → Int32} {hd : Nat → Nat → Int32} {df : Nat → Int32} : KX1_determinantWithColumn l D ca ad [.ref 1, .int 0, .ref 23] (XW n vs be de 4 ro co mi T B hd df) (some (.long (detX 4 (clT 4 T 0 (hd 0))))) (XW n vs be de 4 ro (coT 4 T 0 co) (miX 4 (clT 4 T 0 (hd 0)) mi) T B hd df) := c_dwh_0_4_0 (fun _ => rfl)
set_option maxRecDepth 20000 in
theorem c_dwh_0_4_1 {n vs : Int32} {be de : Int64} {ro co mi : Nat → Int64} {T : Nat → Nat → Int64} {B : Nat → Nat → Nat → Int32} {hd : Nat → Nat → Int32} {df : Nat → Int32} {hh : Nat → Int64} (hq : ∀ j : Nat, hh j = ((hd 0) j).toInt64) : KX1_determinantWithColumn l D ca ad [.ref 1, .int 1, .ref 23] (XW n vs be de 4 ro co mi T B hd df) (some (.long (detX 4 (clc 4 T 1 hh)))) (XW n vs be de 4 ro (coT 4 T 1 co) (miX 4 (clc 4 T 1 hh) mi) T B hd df) := by
  refine PX1_determinantWithColumn (Nat.le_of_ble_eq_true rfl) ?_
  intro G hT hC hR
  refine mB hT 30 rfl ?_
  refine mNf (lv2 := [(3, .int 0), (0, .ref 1), (1, .int 1), (2, .ref 23)]) (st2 := [.long (hh 0), .int 1, .ref 4]) rfl (by rw [hq 0] <;> rfl) ?_
  refine mB hT 31 rfl ?_
  refine mNf (lv2 := [(3, .int 1), (0, .ref 1), (1, .int 1), (2, .ref 23)]) (st2 := [.long (hh 1), .int 1, .ref 5]) rfl (by rw [hq 1] <;> rfl) ?_
  refine mB hT 31 rfl ?_
  refine mNf (lv2 := [(3, .int 2), (0, .ref 1), (1, .int 1), (2, .ref 23)]) (st2 := [.long (hh 2), .int 1, .ref 6]) rfl (by rw [hq 2] <;> rfl) ?_
  refine mB hT 31 rfl ?_
  refine mNf (lv2 := [(3, .int 3), (0, .ref 1), (1, .int 1), (2, .ref 23)]) (st2 := [.long (hh 3), .int 1, .ref 7]) rfl (by rw [hq 3] <;> rfl) ?_
  refine mB hT 8 rfl ?_
  refine mWd (w2 := (XW n vs be de 4 ro (up (up (up (up co 0 (T 0 1)) 1 (T 1 1)) 2 (T 2 1)) 3 (T 3 1)) mi (up (up (up (up T 0 (up (T 0) 1 (hh 0))) 1 (up (T 1) 1 (hh 1))) 2 (up (T 2) 1 (hh 2))) 3 (up (T 3) 1 (hh 3))) B hd df)) rfl ?_
  refine mWd (w2 := (XW n vs be de 4 ro (coT 4 T 1 co) mi (clc 4 T 1 hh) B hd df)) rfl ?_
  refine hC _ 1 [] _ _ _ _ _ (c_det_4) rfl rfl (Nat.le_of_ble_eq_true rfl) rfl ?_
  refine mB hT 40 rfl ?_
  refine mNf (lv2 := [(5, .int 2), (3, .long (detX 4 (clc 4 T 1 hh))), (0, .ref 1), (1, .int 1), (2, .ref 23)]) (st2 := [.ref 1]) rfl rfl ?_
  refine mB hT 32 rfl ?_
  exact hR _ (by decide) _ _ _ rfl rfl
theorem c_dwc_0_4_1 {n vs : Int32} {be de : Int64} {ro co mi : Nat → Int64} {T : Nat → Nat → Int64} {B : Nat → Nat → Nat → Int32} {hd : Nat → Nat → Int32} {df : Nat → Int32} : KX1_determinantWithColumn l D ca ad [.ref 1, .int 1, .ref 23] (XW n vs be de 4 ro co mi T B hd df) (some (.long (detX 4 (clT 4 T 1 (hd 0))))) (XW n vs be de 4 ro (coT 4 T 1 co) (miX 4 (clT 4 T 1 (hd 0)) mi) T B hd df) := c_dwh_0_4_1 (fun _ => rfl)
set_option maxRecDepth 20000 in
theorem c_dwh_0_4_2 {n vs : Int32} {be de : Int64} {ro co mi : Nat → Int64} {T : Nat → Nat → Int64} {B : Nat → Nat → Nat → Int32} {hd : Nat → Nat → Int32} {df : Nat → Int32} {hh : Nat → Int64} (hq : ∀ j : Nat, hh j = ((hd 0) j).toInt64) : KX1_determinantWithColumn l D ca ad [.ref 1, .int 2, .ref 23] (XW n vs be de 4 ro co mi T B hd df) (some (.long (detX 4 (clc 4 T 2 hh)))) (XW n vs be de 4 ro (coT 4 T 2 co) (miX 4 (clc 4 T 2 hh) mi) T B hd df) := by
  refine PX1_determinantWithColumn (Nat.le_of_ble_eq_true rfl) ?_
  intro G hT hC hR
  refine mB hT 30 rfl ?_
  refine mNf (lv2 := [(3, .int 0), (0, .ref 1), (1, .int 2), (2, .ref 23)]) (st2 := [.long (hh 0), .int 2, .ref 4]) rfl (by rw [hq 0] <;> rfl) ?_
  refine mB hT 31 rfl ?_
  refine mNf (lv2 := [(3, .int 1), (0, .ref 1), (1, .int 2), (2, .ref 23)]) (st2 := [.long (hh 1), .int 2, .ref 5]) rfl (by rw [hq 1] <;> rfl) ?_
  refine mB hT 31 rfl ?_
  refine mNf (lv2 := [(3, .int 2), (0, .ref 1), (1, .int 2), (2, .ref 23)]) (st2 := [.long (hh 2), .int 2, .ref 6]) rfl (by rw [hq 2] <;> rfl) ?_
  refine mB hT 31 rfl ?_
  refine mNf (lv2 := [(3, .int 3), (0, .ref 1), (1, .int 2), (2, .ref 23)]) (st2 := [.long (hh 3), .int 2, .ref 7]) rfl (by rw [hq 3] <;> rfl) ?_
  refine mB hT 8 rfl ?_
  refine mWd (w2 := (XW n vs be de 4 ro (up (up (up (up co 0 (T 0 2)) 1 (T 1 2)) 2 (T 2 2)) 3 (T 3 2)) mi (up (up (up (up T 0 (up (T 0) 2 (hh 0))) 1 (up (T 1) 2 (hh 1))) 2 (up (T 2) 2 (hh 2))) 3 (up (T 3) 2 (hh 3))) B hd df)) rfl ?_
  refine mWd (w2 := (XW n vs be de 4 ro (coT 4 T 2 co) mi (clc 4 T 2 hh) B hd df)) rfl ?_
  refine hC _ 1 [] _ _ _ _ _ (c_det_4) rfl rfl (Nat.le_of_ble_eq_true rfl) rfl ?_
  refine mB hT 40 rfl ?_
  refine mNf (lv2 := [(5, .int 2), (3, .long (detX 4 (clc 4 T 2 hh))), (0, .ref 1), (1, .int 2), (2, .ref 23)]) (st2 := [.ref 1]) rfl rfl ?_
  refine mB hT 32 rfl ?_
  exact hR _ (by decide) _ _ _ rfl rfl
theorem c_dwc_0_4_2 {n vs : Int32} {be de : Int64} {ro co mi : Nat → Int64} {T : Nat → Nat → Int64} {B : Nat → Nat → Nat → Int32} {hd : Nat → Nat → Int32} {df : Nat → Int32} : KX1_determinantWithColumn l D ca ad [.ref 1, .int 2, .ref 23] (XW n vs be de 4 ro co mi T B hd df) (some (.long (detX 4 (clT 4 T 2 (hd 0))))) (XW n vs be de 4 ro (coT 4 T 2 co) (miX 4 (clT 4 T 2 (hd 0)) mi) T B hd df) := c_dwh_0_4_2 (fun _ => rfl)
set_option maxRecDepth 20000 in
theorem c_dwh_0_4_3 {n vs : Int32} {be de : Int64} {ro co mi : Nat → Int64} {T : Nat → Nat → Int64} {B : Nat → Nat → Nat → Int32} {hd : Nat → Nat → Int32} {df : Nat → Int32} {hh : Nat → Int64} (hq : ∀ j : Nat, hh j = ((hd 0) j).toInt64) : KX1_determinantWithColumn l D ca ad [.ref 1, .int 3, .ref 23] (XW n vs be de 4 ro co mi T B hd df) (some (.long (detX 4 (clc 4 T 3 hh)))) (XW n vs be de 4 ro (coT 4 T 3 co) (miX 4 (clc 4 T 3 hh) mi) T B hd df) := by
  refine PX1_determinantWithColumn (Nat.le_of_ble_eq_true rfl) ?_
  intro G hT hC hR
  refine mB hT 30 rfl ?_
  refine mNf (lv2 := [(3, .int 0), (0, .ref 1), (1, .int 3), (2, .ref 23)]) (st2 := [.long (hh 0), .int 3, .ref 4]) rfl (by rw [hq 0] <;> rfl) ?_
  refine mB hT 31 rfl ?_
  refine mNf (lv2 := [(3, .int 1), (0, .ref 1), (1, .int 3), (2, .ref 23)]) (st2 := [.long (hh 1), .int 3, .ref 5]) rfl (by rw [hq 1] <;> rfl) ?_
  refine mB hT 31 rfl ?_
  refine mNf (lv2 := [(3, .int 2), (0, .ref 1), (1, .int 3), (2, .ref 23)]) (st2 := [.long (hh 2), .int 3, .ref 6]) rfl (by rw [hq 2] <;> rfl) ?_
  refine mB hT 31 rfl ?_
  refine mNf (lv2 := [(3, .int 3), (0, .ref 1), (1, .int 3), (2, .ref 23)]) (st2 := [.long (hh 3), .int 3, .ref 7]) rfl (by rw [hq 3] <;> rfl) ?_
  refine mB hT 8 rfl ?_
  refine mWd (w2 := (XW n vs be de 4 ro (up (up (up (up co 0 (T 0 3)) 1 (T 1 3)) 2 (T 2 3)) 3 (T 3 3)) mi (up (up (up (up T 0 (up (T 0) 3 (hh 0))) 1 (up (T 1) 3 (hh 1))) 2 (up (T 2) 3 (hh 2))) 3 (up (T 3) 3 (hh 3))) B hd df)) rfl ?_
  refine mWd (w2 := (XW n vs be de 4 ro (coT 4 T 3 co) mi (clc 4 T 3 hh) B hd df)) rfl ?_
  refine hC _ 1 [] _ _ _ _ _ (c_det_4) rfl rfl (Nat.le_of_ble_eq_true rfl) rfl ?_
  refine mB hT 40 rfl ?_
  refine mNf (lv2 := [(5, .int 2), (3, .long (detX 4 (clc 4 T 3 hh))), (0, .ref 1), (1, .int 3), (2, .ref 23)]) (st2 := [.ref 1]) rfl rfl ?_
  refine mB hT 32 rfl ?_
  exact hR _ (by decide) _ _ _ rfl rfl
theorem c_dwc_0_4_3 {n vs : Int32} {be de : Int64} {ro co mi : Nat → Int64} {T : Nat → Nat → Int64} {B : Nat → Nat → Nat → Int32} {hd : Nat → Nat → Int32} {df : Nat → Int32} : KX1_determinantWithColumn l D ca ad [.ref 1, .int 3, .ref 23] (XW n vs be de 4 ro co mi T B hd df) (some (.long (detX 4 (clT 4 T 3 (hd 0))))) (XW n vs be de 4 ro (coT 4 T 3 co) (miX 4 (clT 4 T 3 (hd 0)) mi) T B hd df) := c_dwh_0_4_3 (fun _ => rfl)
set_option maxRecDepth 20000 in
theorem c_dwh_1_1_0 {n vs : Int32} {be de : Int64} {ro co mi : Nat → Int64} {T : Nat → Nat → Int64} {B : Nat → Nat → Nat → Int32} {hd : Nat → Nat → Int32} {df : Nat → Int32} {hh : Nat → Int64} (hq : ∀ j : Nat, hh j = ((hd 1) j).toInt64) : KX1_determinantWithColumn l D ca ad [.ref 1, .int 0, .ref 24] (XW n vs be de 1 ro co mi T B hd df) (some (.long (detX 1 (clc 1 T 0 hh)))) (XW n vs be de 1 ro (coT 1 T 0 co) (miX 1 (clc 1 T 0 hh) mi) T B hd df) := by
  refine PX1_determinantWithColumn (Nat.le_of_ble_eq_true rfl) ?_
  intro G hT hC hR
  refine mB hT 30 rfl ?_
  refine mNf (lv2 := [(3, .int 0), (0, .ref 1), (1, .int 0), (2, .ref 24)]) (st2 := [.long (hh 0), .int 0, .ref 4]) rfl (by rw [hq 0] <;> rfl) ?_
  refine mB hT 8 rfl ?_
  refine mWd (w2 := (XW n vs be de 1 ro (up co 0 (T 0 0)) mi (up T 0 (up (T 0) 0 (hh 0))) B hd df)) rfl ?_
  refine mWd (w2 := (XW n vs be de 1 ro (coT 1 T 0 co) mi (clc 1 T 0 hh) B hd df)) rfl ?_
  refine hC _ 1 [] _ _ _ _ _ (c_det_1) rfl rfl (Nat.le_of_ble_eq_true rfl) rfl ?_
  refine mB hT 24 rfl ?_
  exact hR _ (by decide) _ _ _ rfl rfl
theorem c_dwc_1_1_0 {n vs : Int32} {be de : Int64} {ro co mi : Nat → Int64} {T : Nat → Nat → Int64} {B : Nat → Nat → Nat → Int32} {hd : Nat → Nat → Int32} {df : Nat → Int32} : KX1_determinantWithColumn l D ca ad [.ref 1, .int 0, .ref 24] (XW n vs be de 1 ro co mi T B hd df) (some (.long (detX 1 (clT 1 T 0 (hd 1))))) (XW n vs be de 1 ro (coT 1 T 0 co) (miX 1 (clT 1 T 0 (hd 1)) mi) T B hd df) := c_dwh_1_1_0 (fun _ => rfl)
set_option maxRecDepth 20000 in
theorem c_dwh_1_2_0 {n vs : Int32} {be de : Int64} {ro co mi : Nat → Int64} {T : Nat → Nat → Int64} {B : Nat → Nat → Nat → Int32} {hd : Nat → Nat → Int32} {df : Nat → Int32} {hh : Nat → Int64} (hq : ∀ j : Nat, hh j = ((hd 1) j).toInt64) : KX1_determinantWithColumn l D ca ad [.ref 1, .int 0, .ref 24] (XW n vs be de 2 ro co mi T B hd df) (some (.long (detX 2 (clc 2 T 0 hh)))) (XW n vs be de 2 ro (coT 2 T 0 co) (miX 2 (clc 2 T 0 hh) mi) T B hd df) := by
  refine PX1_determinantWithColumn (Nat.le_of_ble_eq_true rfl) ?_
  intro G hT hC hR
  refine mB hT 30 rfl ?_
  refine mNf (lv2 := [(3, .int 0), (0, .ref 1), (1, .int 0), (2, .ref 24)]) (st2 := [.long (hh 0), .int 0, .ref 4]) rfl (by rw [hq 0] <;> rfl) ?_
  refine mB hT 31 rfl ?_
  refine mNf (lv2 := [(3, .int 1), (0, .ref 1), (1, .int 0), (2, .ref 24)]) (st2 := [.long (hh 1), .int 0, .ref 5]) rfl (by rw [hq 1] <;> rfl) ?_
  refine mB hT 8 rfl ?_
  refine mWd (w2 := (XW n vs be de 2 ro (up (up co 0 (T 0 0)) 1 (T 1 0)) mi (up (up T 0 (up (T 0) 0 (hh 0))) 1 (up (T 1) 0 (hh 1))) B hd df)) rfl ?_
  refine mWd (w2 := (XW n vs be de 2 ro (coT 2 T 0 co) mi (clc 2 T 0 hh) B hd df)) rfl ?_
  refine hC _ 1 [] _ _ _ _ _ (c_det_2) rfl rfl (Nat.le_of_ble_eq_true rfl) rfl ?_
  refine mB hT 40 rfl ?_
  refine mNf (lv2 := [(5, .int 2), (3, .long (detX 2 (clc 2 T 0 hh))), (0, .ref 1), (1, .int 0), (2, .ref 24)]) (st2 := [.long (detX 2 (clc 2 T 0 hh))]) rfl rfl ?_
  exact hR _ (by decide) _ _ _ rfl rfl
theorem c_dwc_1_2_0 {n vs : Int32} {be de : Int64} {ro co mi : Nat → Int64} {T : Nat → Nat → Int64} {B : Nat → Nat → Nat → Int32} {hd : Nat → Nat → Int32} {df : Nat → Int32} : KX1_determinantWithColumn l D ca ad [.ref 1, .int 0, .ref 24] (XW n vs be de 2 ro co mi T B hd df) (some (.long (detX 2 (clT 2 T 0 (hd 1))))) (XW n vs be de 2 ro (coT 2 T 0 co) (miX 2 (clT 2 T 0 (hd 1)) mi) T B hd df) := c_dwh_1_2_0 (fun _ => rfl)
set_option maxRecDepth 20000 in
theorem c_dwh_1_2_1 {n vs : Int32} {be de : Int64} {ro co mi : Nat → Int64} {T : Nat → Nat → Int64} {B : Nat → Nat → Nat → Int32} {hd : Nat → Nat → Int32} {df : Nat → Int32} {hh : Nat → Int64} (hq : ∀ j : Nat, hh j = ((hd 1) j).toInt64) : KX1_determinantWithColumn l D ca ad [.ref 1, .int 1, .ref 24] (XW n vs be de 2 ro co mi T B hd df) (some (.long (detX 2 (clc 2 T 1 hh)))) (XW n vs be de 2 ro (coT 2 T 1 co) (miX 2 (clc 2 T 1 hh) mi) T B hd df) := by
  refine PX1_determinantWithColumn (Nat.le_of_ble_eq_true rfl) ?_
  intro G hT hC hR
  refine mB hT 30 rfl ?_
  refine mNf (lv2 := [(3, .int 0), (0, .ref 1), (1, .int 1), (2, .ref 24)]) (st2 := [.long (hh 0), .int 1, .ref 4]) rfl (by rw [hq 0] <;> rfl) ?_
  refine mB hT 31 rfl ?_
  refine mNf (lv2 := [(3, .int 1), (0, .ref 1), (1, .int 1), (2, .ref 24)]) (st2 := [.long (hh 1), .int 1, .ref 5]) rfl (by rw [hq 1] <;> rfl) ?_
  refine mB hT 8 rfl ?_
  refine mWd (w2 := (XW n vs be de 2 ro (up (up co 0 (T 0 1)) 1 (T 1 1)) mi (up (up T 0 (up (T 0) 1 (hh 0))) 1 (up (T 1) 1 (hh 1))) B hd df)) rfl ?_
  refine mWd (w2 := (XW n vs be de 2 ro (coT 2 T 1 co) mi (clc 2 T 1 hh) B hd df)) rfl ?_
  refine hC _ 1 [] _ _ _ _ _ (c_det_2) rfl rfl (Nat.le_of_ble_eq_true rfl) rfl ?_
  refine mB hT 40 rfl ?_
  refine mNf (lv2 := [(5, .int 2), (3, .long (detX 2 (clc 2 T 1 hh))), (0, .ref 1), (1, .int 1), (2, .ref 24)]) (st2 := [.long (detX 2 (clc 2 T 1 hh))]) rfl rfl ?_
  exact hR _ (by decide) _ _ _ rfl rfl
theorem c_dwc_1_2_1 {n vs : Int32} {be de : Int64} {ro co mi : Nat → Int64} {T : Nat → Nat → Int64} {B : Nat → Nat → Nat → Int32} {hd : Nat → Nat → Int32} {df : Nat → Int32} : KX1_determinantWithColumn l D ca ad [.ref 1, .int 1, .ref 24] (XW n vs be de 2 ro co mi T B hd df) (some (.long (detX 2 (clT 2 T 1 (hd 1))))) (XW n vs be de 2 ro (coT 2 T 1 co) (miX 2 (clT 2 T 1 (hd 1)) mi) T B hd df) := c_dwh_1_2_1 (fun _ => rfl)
set_option maxRecDepth 20000 in
theorem c_dwh_1_3_0 {n vs : Int32} {be de : Int64} {ro co mi : Nat → Int64} {T : Nat → Nat → Int64} {B : Nat → Nat → Nat → Int32} {hd : Nat → Nat → Int32} {df : Nat → Int32} {hh : Nat → Int64} (hq : ∀ j : Nat, hh j = ((hd 1) j).toInt64) : KX1_determinantWithColumn l D ca ad [.ref 1, .int 0, .ref 24] (XW n vs be de 3 ro co mi T B hd df) (some (.long (detX 3 (clc 3 T 0 hh)))) (XW n vs be de 3 ro (coT 3 T 0 co) (miX 3 (clc 3 T 0 hh) mi) T B hd df) := by
  refine PX1_determinantWithColumn (Nat.le_of_ble_eq_true rfl) ?_
  intro G hT hC hR
  refine mB hT 30 rfl ?_
  refine mNf (lv2 := [(3, .int 0), (0, .ref 1), (1, .int 0), (2, .ref 24)]) (st2 := [.long (hh 0), .int 0, .ref 4]) rfl (by rw [hq 0] <;> rfl) ?_
  refine mB hT 31 rfl ?_
  refine mNf (lv2 := [(3, .int 1), (0, .ref 1), (1, .int 0), (2, .ref 24)]) (st2 := [.long (hh 1), .int 0, .ref 5]) rfl (by rw [hq 1] <;> rfl) ?_
  refine mB hT 31 rfl ?_
  refine mNf (lv2 := [(3, .int 2), (0, .ref 1), (1, .int 0), (2, .ref 24)]) (st2 := [.long (hh 2), .int 0, .ref 6]) rfl (by rw [hq 2] <;> rfl) ?_
  refine mB hT 8 rfl ?_
  refine mWd (w2 := (XW n vs be de 3 ro (up (up (up co 0 (T 0 0)) 1 (T 1 0)) 2 (T 2 0)) mi (up (up (up T 0 (up (T 0) 0 (hh 0))) 1 (up (T 1) 0 (hh 1))) 2 (up (T 2) 0 (hh 2))) B hd df)) rfl ?_
  refine mWd (w2 := (XW n vs be de 3 ro (coT 3 T 0 co) mi (clc 3 T 0 hh) B hd df)) rfl ?_
  refine hC _ 1 [] _ _ _ _ _ (c_det_3) rfl rfl (Nat.le_of_ble_eq_true rfl) rfl ?_
  refine mB hT 40 rfl ?_
  refine mNf (lv2 := [(5, .int 2), (3, .long (detX 3 (clc 3 T 0 hh))), (0, .ref 1), (1, .int 0), (2, .ref 24)]) (st2 := [.ref 1]) rfl rfl ?_
  refine mB hT 16 rfl ?_
  exact hR _ (by decide) _ _ _ rfl rfl
theorem c_dwc_1_3_0 {n vs : Int32} {be de : Int64} {ro co mi : Nat → Int64} {T : Nat → Nat → Int64} {B : Nat → Nat → Nat → Int32} {hd : Nat → Nat → Int32} {df : Nat → Int32} : KX1_determinantWithColumn l D ca ad [.ref 1, .int 0, .ref 24] (XW n vs be de 3 ro co mi T B hd df) (some (.long (detX 3 (clT 3 T 0 (hd 1))))) (XW n vs be de 3 ro (coT 3 T 0 co) (miX 3 (clT 3 T 0 (hd 1)) mi) T B hd df) := c_dwh_1_3_0 (fun _ => rfl)
set_option maxRecDepth 20000 in
theorem c_dwh_1_3_1 {n vs : Int32} {be de : Int64} {ro co mi : Nat → Int64} {T : Nat → Nat → Int64} {B : Nat → Nat → Nat → Int32} {hd : Nat → Nat → Int32} {df : Nat → Int32} {hh : Nat → Int64} (hq : ∀ j : Nat, hh j = ((hd 1) j).toInt64) : KX1_determinantWithColumn l D ca ad [.ref 1, .int 1, .ref 24] (XW n vs be de 3 ro co mi T B hd df) (some (.long (detX 3 (clc 3 T 1 hh)))) (XW n vs be de 3 ro (coT 3 T 1 co) (miX 3 (clc 3 T 1 hh) mi) T B hd df) := by
  refine PX1_determinantWithColumn (Nat.le_of_ble_eq_true rfl) ?_
  intro G hT hC hR
  refine mB hT 30 rfl ?_
  refine mNf (lv2 := [(3, .int 0), (0, .ref 1), (1, .int 1), (2, .ref 24)]) (st2 := [.long (hh 0), .int 1, .ref 4]) rfl (by rw [hq 0] <;> rfl) ?_
  refine mB hT 31 rfl ?_
  refine mNf (lv2 := [(3, .int 1), (0, .ref 1), (1, .int 1), (2, .ref 24)]) (st2 := [.long (hh 1), .int 1, .ref 5]) rfl (by rw [hq 1] <;> rfl) ?_
  refine mB hT 31 rfl ?_
  refine mNf (lv2 := [(3, .int 2), (0, .ref 1), (1, .int 1), (2, .ref 24)]) (st2 := [.long (hh 2), .int 1, .ref 6]) rfl (by rw [hq 2] <;> rfl) ?_
  refine mB hT 8 rfl ?_
  refine mWd (w2 := (XW n vs be de 3 ro (up (up (up co 0 (T 0 1)) 1 (T 1 1)) 2 (T 2 1)) mi (up (up (up T 0 (up (T 0) 1 (hh 0))) 1 (up (T 1) 1 (hh 1))) 2 (up (T 2) 1 (hh 2))) B hd df)) rfl ?_
  refine mWd (w2 := (XW n vs be de 3 ro (coT 3 T 1 co) mi (clc 3 T 1 hh) B hd df)) rfl ?_
  refine hC _ 1 [] _ _ _ _ _ (c_det_3) rfl rfl (Nat.le_of_ble_eq_true rfl) rfl ?_
  refine mB hT 40 rfl ?_
  refine mNf (lv2 := [(5, .int 2), (3, .long (detX 3 (clc 3 T 1 hh))), (0, .ref 1), (1, .int 1), (2, .ref 24)]) (st2 := [.ref 1]) rfl rfl ?_
  refine mB hT 16 rfl ?_
  exact hR _ (by decide) _ _ _ rfl rfl
theorem c_dwc_1_3_1 {n vs : Int32} {be de : Int64} {ro co mi : Nat → Int64} {T : Nat → Nat → Int64} {B : Nat → Nat → Nat → Int32} {hd : Nat → Nat → Int32} {df : Nat → Int32} : KX1_determinantWithColumn l D ca ad [.ref 1, .int 1, .ref 24] (XW n vs be de 3 ro co mi T B hd df) (some (.long (detX 3 (clT 3 T 1 (hd 1))))) (XW n vs be de 3 ro (coT 3 T 1 co) (miX 3 (clT 3 T 1 (hd 1)) mi) T B hd df) := c_dwh_1_3_1 (fun _ => rfl)
set_option maxRecDepth 20000 in
theorem c_dwh_1_3_2 {n vs : Int32} {be de : Int64} {ro co mi : Nat → Int64} {T : Nat → Nat → Int64} {B : Nat → Nat → Nat → Int32} {hd : Nat → Nat → Int32} {df : Nat → Int32} {hh : Nat → Int64} (hq : ∀ j : Nat, hh j = ((hd 1) j).toInt64) : KX1_determinantWithColumn l D ca ad [.ref 1, .int 2, .ref 24] (XW n vs be de 3 ro co mi T B hd df) (some (.long (detX 3 (clc 3 T 2 hh)))) (XW n vs be de 3 ro (coT 3 T 2 co) (miX 3 (clc 3 T 2 hh) mi) T B hd df) := by
  refine PX1_determinantWithColumn (Nat.le_of_ble_eq_true rfl) ?_
  intro G hT hC hR
  refine mB hT 30 rfl ?_
  refine mNf (lv2 := [(3, .int 0), (0, .ref 1), (1, .int 2), (2, .ref 24)]) (st2 := [.long (hh 0), .int 2, .ref 4]) rfl (by rw [hq 0] <;> rfl) ?_
  refine mB hT 31 rfl ?_
  refine mNf (lv2 := [(3, .int 1), (0, .ref 1), (1, .int 2), (2, .ref 24)]) (st2 := [.long (hh 1), .int 2, .ref 5]) rfl (by rw [hq 1] <;> rfl) ?_
  refine mB hT 31 rfl ?_
  refine mNf (lv2 := [(3, .int 2), (0, .ref 1), (1, .int 2), (2, .ref 24)]) (st2 := [.long (hh 2), .int 2, .ref 6]) rfl (by rw [hq 2] <;> rfl) ?_
  refine mB hT 8 rfl ?_
  refine mWd (w2 := (XW n vs be de 3 ro (up (up (up co 0 (T 0 2)) 1 (T 1 2)) 2 (T 2 2)) mi (up (up (up T 0 (up (T 0) 2 (hh 0))) 1 (up (T 1) 2 (hh 1))) 2 (up (T 2) 2 (hh 2))) B hd df)) rfl ?_
  refine mWd (w2 := (XW n vs be de 3 ro (coT 3 T 2 co) mi (clc 3 T 2 hh) B hd df)) rfl ?_
  refine hC _ 1 [] _ _ _ _ _ (c_det_3) rfl rfl (Nat.le_of_ble_eq_true rfl) rfl ?_
  refine mB hT 40 rfl ?_
  refine mNf (lv2 := [(5, .int 2), (3, .long (detX 3 (clc 3 T 2 hh))), (0, .ref 1), (1, .int 2), (2, .ref 24)]) (st2 := [.ref 1]) rfl rfl ?_
  refine mB hT 16 rfl ?_
  exact hR _ (by decide) _ _ _ rfl rfl
theorem c_dwc_1_3_2 {n vs : Int32} {be de : Int64} {ro co mi : Nat → Int64} {T : Nat → Nat → Int64} {B : Nat → Nat → Nat → Int32} {hd : Nat → Nat → Int32} {df : Nat → Int32} : KX1_determinantWithColumn l D ca ad [.ref 1, .int 2, .ref 24] (XW n vs be de 3 ro co mi T B hd df) (some (.long (detX 3 (clT 3 T 2 (hd 1))))) (XW n vs be de 3 ro (coT 3 T 2 co) (miX 3 (clT 3 T 2 (hd 1)) mi) T B hd df) := c_dwh_1_3_2 (fun _ => rfl)
set_option maxRecDepth 20000 in
theorem c_dwh_1_4_0 {n vs : Int32} {be de : Int64} {ro co mi : Nat → Int64} {T : Nat → Nat → Int64} {B : Nat → Nat → Nat → Int32} {hd : Nat → Nat → Int32} {df : Nat → Int32} {hh : Nat → Int64} (hq : ∀ j : Nat, hh j = ((hd 1) j).toInt64) : KX1_determinantWithColumn l D ca ad [.ref 1, .int 0, .ref 24] (XW n vs be de 4 ro co mi T B hd df) (some (.long (detX 4 (clc 4 T 0 hh)))) (XW n vs be de 4 ro (coT 4 T 0 co) (miX 4 (clc 4 T 0 hh) mi) T B hd df) := by
  refine PX1_determinantWithColumn (Nat.le_of_ble_eq_true rfl) ?_
  intro G hT hC hR
  refine mB hT 30 rfl ?_
  refine mNf (lv2 := [(3, .int 0), (0, .ref 1), (1, .int 0), (2, .ref 24)]) (st2 := [.long (hh 0), .int 0, .ref 4]) rfl (by rw [hq 0] <;> rfl) ?_
  refine mB hT 31 rfl ?_
  refine mNf (lv2 := [(3, .int 1), (0, .ref 1), (1, .int 0), (2, .ref 24)]) (st2 := [.long (hh 1), .int 0, .ref 5]) rfl (by rw [hq 1] <;> rfl) ?_
  refine mB hT 31 rfl ?_
  refine mNf (lv2 := [(3, .int 2), (0, .ref 1), (1, .int 0), (2, .ref 24)]) (st2 := [.long (hh 2), .int 0, .ref 6]) rfl (by rw [hq 2] <;> rfl) ?_
  refine mB hT 31 rfl ?_
  refine mNf (lv2 := [(3, .int 3), (0, .ref 1), (1, .int 0), (2, .ref 24)]) (st2 := [.long (hh 3), .int 0, .ref 7]) rfl (by rw [hq 3] <;> rfl) ?_
  refine mB hT 8 rfl ?_
  refine mWd (w2 := (XW n vs be de 4 ro (up (up (up (up co 0 (T 0 0)) 1 (T 1 0)) 2 (T 2 0)) 3 (T 3 0)) mi (up (up (up (up T 0 (up (T 0) 0 (hh 0))) 1 (up (T 1) 0 (hh 1))) 2 (up (T 2) 0 (hh 2))) 3 (up (T 3) 0 (hh 3))) B hd df)) rfl ?_
  refine mWd (w2 := (XW n vs be de 4 ro (coT 4 T 0 co) mi (clc 4 T 0 hh) B hd df)) rfl ?_
  refine hC _ 1 [] _ _ _ _ _ (c_det_4) rfl rfl (Nat.le_of_ble_eq_true rfl) rfl ?_
  refine mB hT 40 rfl ?_
  refine mNf (lv2 := [(5, .int 2), (3, .long (detX 4 (clc 4 T 0 hh))), (0, .ref 1), (1, .int 0), (2, .ref 24)]) (st2 := [.ref 1]) rfl rfl ?_
  refine mB hT 32 rfl ?_
  exact hR _ (by decide) _ _ _ rfl rfl
theorem c_dwc_1_4_0 {n vs : Int32} {be de : Int64} {ro co mi : Nat → Int64} {T : Nat → Nat → Int64} {B : Nat → Nat → Nat → Int32} {hd : Nat → Nat → Int32} {df : Nat → Int32} : KX1_determinantWithColumn l D ca ad [.ref 1, .int 0, .ref 24] (XW n vs be de 4 ro co mi T B hd df) (some (.long (detX 4 (clT 4 T 0 (hd 1))))) (XW n vs be de 4 ro (coT 4 T 0 co) (miX 4 (clT 4 T 0 (hd 1)) mi) T B hd df) := c_dwh_1_4_0 (fun _ => rfl)
set_option maxRecDepth 20000 in
theorem c_dwh_1_4_1 {n vs : Int32} {be de : Int64} {ro co mi : Nat → Int64} {T : Nat → Nat → Int64} {B : Nat → Nat → Nat → Int32} {hd : Nat → Nat → Int32} {df : Nat → Int32} {hh : Nat → Int64} (hq : ∀ j : Nat, hh j = ((hd 1) j).toInt64) : KX1_determinantWithColumn l D ca ad [.ref 1, .int 1, .ref 24] (XW n vs be de 4 ro co mi T B hd df) (some (.long (detX 4 (clc 4 T 1 hh)))) (XW n vs be de 4 ro (coT 4 T 1 co) (miX 4 (clc 4 T 1 hh) mi) T B hd df) := by
  refine PX1_determinantWithColumn (Nat.le_of_ble_eq_true rfl) ?_
  intro G hT hC hR
  refine mB hT 30 rfl ?_
  refine mNf (lv2 := [(3, .int 0), (0, .ref 1), (1, .int 1), (2, .ref 24)]) (st2 := [.long (hh 0), .int 1, .ref 4]) rfl (by rw [hq 0] <;> rfl) ?_
  refine mB hT 31 rfl ?_
  refine mNf (lv2 := [(3, .int 1), (0, .ref 1), (1, .int 1), (2, .ref 24)]) (st2 := [.long (hh 1), .int 1, .ref 5]) rfl (by rw [hq 1] <;> rfl) ?_
  refine mB hT 31 rfl ?_
  refine mNf (lv2 := [(3, .int 2), (0, .ref 1), (1, .int 1), (2, .ref 24)]) (st2 := [.long (hh 2), .int 1, .ref 6]) rfl (by rw [hq 2] <;> rfl) ?_
  refine mB hT 31 rfl ?_
  refine mNf (lv2 := [(3, .int 3), (0, .ref 1), (1, .int 1), (2, .ref 24)]) (st2 := [.long (hh 3), .int 1, .ref 7]) rfl (by rw [hq 3] <;> rfl) ?_
  refine mB hT 8 rfl ?_
  refine mWd (w2 := (XW n vs be de 4 ro (up (up (up (up co 0 (T 0 1)) 1 (T 1 1)) 2 (T 2 1)) 3 (T 3 1)) mi (up (up (up (up T 0 (up (T 0) 1 (hh 0))) 1 (up (T 1) 1 (hh 1))) 2 (up (T 2) 1 (hh 2))) 3 (up (T 3) 1 (hh 3))) B hd df)) rfl ?_
  refine mWd (w2 := (XW n vs be de 4 ro (coT 4 T 1 co) mi (clc 4 T 1 hh) B hd df)) rfl ?_
  refine hC _ 1 [] _ _ _ _ _ (c_det_4) rfl rfl (Nat.le_of_ble_eq_true rfl) rfl ?_
  refine mB hT 40 rfl ?_
  refine mNf (lv2 := [(5, .int 2), (3, .long (detX 4 (clc 4 T 1 hh))), (0, .ref 1), (1, .int 1), (2, .ref 24)]) (st2 := [.ref 1]) rfl rfl ?_
  refine mB hT 32 rfl ?_
  exact hR _ (by decide) _ _ _ rfl rfl
theorem c_dwc_1_4_1 {n vs : Int32} {be de : Int64} {ro co mi : Nat → Int64} {T : Nat → Nat → Int64} {B : Nat → Nat → Nat → Int32} {hd : Nat → Nat → Int32} {df : Nat → Int32} : KX1_determinantWithColumn l D ca ad [.ref 1, .int 1, .ref 24] (XW n vs be de 4 ro co mi T B hd df) (some (.long (detX 4 (clT 4 T 1 (hd 1))))) (XW n vs be de 4 ro (coT 4 T 1 co) (miX 4 (clT 4 T 1 (hd 1)) mi) T B hd df) := c_dwh_1_4_1 (fun _ => rfl)
set_option maxRecDepth 20000 in
theorem c_dwh_1_4_2 {n vs : Int32} {be de : Int64} {ro co mi : Nat → Int64} {T : Nat → Nat → Int64} {B : Nat → Nat → Nat → Int32} {hd : Nat → Nat → Int32} {df : Nat → Int32} {hh : Nat → Int64} (hq : ∀ j : Nat, hh j = ((hd 1) j).toInt64) : KX1_determinantWithColumn l D ca ad [.ref 1, .int 2, .ref 24] (XW n vs be de 4 ro co mi T B hd df) (some (.long (detX 4 (clc 4 T 2 hh)))) (XW n vs be de 4 ro (coT 4 T 2 co) (miX 4 (clc 4 T 2 hh) mi) T B hd df) := by
  refine PX1_determinantWithColumn (Nat.le_of_ble_eq_true rfl) ?_
  intro G hT hC hR
  refine mB hT 30 rfl ?_
  refine mNf (lv2 := [(3, .int 0), (0, .ref 1), (1, .int 2), (2, .ref 24)]) (st2 := [.long (hh 0), .int 2, .ref 4]) rfl (by rw [hq 0] <;> rfl) ?_
  refine mB hT 31 rfl ?_
  refine mNf (lv2 := [(3, .int 1), (0, .ref 1), (1, .int 2), (2, .ref 24)]) (st2 := [.long (hh 1), .int 2, .ref 5]) rfl (by rw [hq 1] <;> rfl) ?_
  refine mB hT 31 rfl ?_
  refine mNf (lv2 := [(3, .int 2), (0, .ref 1), (1, .int 2), (2, .ref 24)]) (st2 := [.long (hh 2), .int 2, .ref 6]) rfl (by rw [hq 2] <;> rfl) ?_
  refine mB hT 31 rfl ?_
  refine mNf (lv2 := [(3, .int 3), (0, .ref 1), (1, .int 2), (2, .ref 24)]) (st2 := [.long (hh 3), .int 2, .ref 7]) rfl (by rw [hq 3] <;> rfl) ?_
  refine mB hT 8 rfl ?_
  refine mWd (w2 := (XW n vs be de 4 ro (up (up (up (up co 0 (T 0 2)) 1 (T 1 2)) 2 (T 2 2)) 3 (T 3 2)) mi (up (up (up (up T 0 (up (T 0) 2 (hh 0))) 1 (up (T 1) 2 (hh 1))) 2 (up (T 2) 2 (hh 2))) 3 (up (T 3) 2 (hh 3))) B hd df)) rfl ?_
  refine mWd (w2 := (XW n vs be de 4 ro (coT 4 T 2 co) mi (clc 4 T 2 hh) B hd df)) rfl ?_
  refine hC _ 1 [] _ _ _ _ _ (c_det_4) rfl rfl (Nat.le_of_ble_eq_true rfl) rfl ?_
  refine mB hT 40 rfl ?_
  refine mNf (lv2 := [(5, .int 2), (3, .long (detX 4 (clc 4 T 2 hh))), (0, .ref 1), (1, .int 2), (2, .ref 24)]) (st2 := [.ref 1]) rfl rfl ?_
  refine mB hT 32 rfl ?_
  exact hR _ (by decide) _ _ _ rfl rfl
theorem c_dwc_1_4_2 {n vs : Int32} {be de : Int64} {ro co mi : Nat → Int64} {T : Nat → Nat → Int64} {B : Nat → Nat → Nat → Int32} {hd : Nat → Nat → Int32} {df : Nat → Int32} : KX1_determinantWithColumn l D ca ad [.ref 1, .int 2, .ref 24] (XW n vs be de 4 ro co mi T B hd df) (some (.long (detX 4 (clT 4 T 2 (hd 1))))) (XW n vs be de 4 ro (coT 4 T 2 co) (miX 4 (clT 4 T 2 (hd 1)) mi) T B hd df) := c_dwh_1_4_2 (fun _ => rfl)
set_option maxRecDepth 20000 in
theorem c_dwh_1_4_3 {n vs : Int32} {be de : Int64} {ro co mi : Nat → Int64} {T : Nat → Nat → Int64} {B : Nat → Nat → Nat → Int32} {hd : Nat → Nat → Int32} {df : Nat → Int32} {hh : Nat → Int64} (hq : ∀ j : Nat, hh j = ((hd 1) j).toInt64) : KX1_determinantWithColumn l D ca ad [.ref 1, .int 3, .ref 24] (XW n vs be de 4 ro co mi T B hd df) (some (.long (detX 4 (clc 4 T 3 hh)))) (XW n vs be de 4 ro (coT 4 T 3 co) (miX 4 (clc 4 T 3 hh) mi) T B hd df) := by
  refine PX1_determinantWithColumn (Nat.le_of_ble_eq_true rfl) ?_
  intro G hT hC hR
  refine mB hT 30 rfl ?_
  refine mNf (lv2 := [(3, .int 0), (0, .ref 1), (1, .int 3), (2, .ref 24)]) (st2 := [.long (hh 0), .int 3, .ref 4]) rfl (by rw [hq 0] <;> rfl) ?_
  refine mB hT 31 rfl ?_
  refine mNf (lv2 := [(3, .int 1), (0, .ref 1), (1, .int 3), (2, .ref 24)]) (st2 := [.long (hh 1), .int 3, .ref 5]) rfl (by rw [hq 1] <;> rfl) ?_
  refine mB hT 31 rfl ?_
  refine mNf (lv2 := [(3, .int 2), (0, .ref 1), (1, .int 3), (2, .ref 24)]) (st2 := [.long (hh 2), .int 3, .ref 6]) rfl (by rw [hq 2] <;> rfl) ?_
  refine mB hT 31 rfl ?_
  refine mNf (lv2 := [(3, .int 3), (0, .ref 1), (1, .int 3), (2, .ref 24)]) (st2 := [.long (hh 3), .int 3, .ref 7]) rfl (by rw [hq 3] <;> rfl) ?_
  refine mB hT 8 rfl ?_
  refine mWd (w2 := (XW n vs be de 4 ro (up (up (up (up co 0 (T 0 3)) 1 (T 1 3)) 2 (T 2 3)) 3 (T 3 3)) mi (up (up (up (up T 0 (up (T 0) 3 (hh 0))) 1 (up (T 1) 3 (hh 1))) 2 (up (T 2) 3 (hh 2))) 3 (up (T 3) 3 (hh 3))) B hd df)) rfl ?_
  refine mWd (w2 := (XW n vs be de 4 ro (coT 4 T 3 co) mi (clc 4 T 3 hh) B hd df)) rfl ?_
  refine hC _ 1 [] _ _ _ _ _ (c_det_4) rfl rfl (Nat.le_of_ble_eq_true rfl) rfl ?_
  refine mB hT 40 rfl ?_
  refine mNf (lv2 := [(5, .int 2), (3, .long (detX 4 (clc 4 T 3 hh))), (0, .ref 1), (1, .int 3), (2, .ref 24)]) (st2 := [.ref 1]) rfl rfl ?_
  refine mB hT 32 rfl ?_
  exact hR _ (by decide) _ _ _ rfl rfl
theorem c_dwc_1_4_3 {n vs : Int32} {be de : Int64} {ro co mi : Nat → Int64} {T : Nat → Nat → Int64} {B : Nat → Nat → Nat → Int32} {hd : Nat → Nat → Int32} {df : Nat → Int32} : KX1_determinantWithColumn l D ca ad [.ref 1, .int 3, .ref 24] (XW n vs be de 4 ro co mi T B hd df) (some (.long (detX 4 (clT 4 T 3 (hd 1))))) (XW n vs be de 4 ro (coT 4 T 3 co) (miX 4 (clT 4 T 3 (hd 1)) mi) T B hd df) := c_dwh_1_4_3 (fun _ => rfl)
set_option maxRecDepth 20000 in
theorem c_dwh_2_1_0 {n vs : Int32} {be de : Int64} {ro co mi : Nat → Int64} {T : Nat → Nat → Int64} {B : Nat → Nat → Nat → Int32} {hd : Nat → Nat → Int32} {df : Nat → Int32} {hh : Nat → Int64} (hq : ∀ j : Nat, hh j = ((hd 2) j).toInt64) : KX1_determinantWithColumn l D ca ad [.ref 1, .int 0, .ref 25] (XW n vs be de 1 ro co mi T B hd df) (some (.long (detX 1 (clc 1 T 0 hh)))) (XW n vs be de 1 ro (coT 1 T 0 co) (miX 1 (clc 1 T 0 hh) mi) T B hd df) := by
  refine PX1_determinantWithColumn (Nat.le_of_ble_eq_true rfl) ?_
  intro G hT hC hR
  refine mB hT 30 rfl ?_
  refine mNf (lv2 := [(3, .int 0), (0, .ref 1), (1, .int 0), (2, .ref 25)]) (st2 := [.long (hh 0), .int 0, .ref 4]) rfl (by rw [hq 0] <;> rfl) ?_
  refine mB hT 8 rfl ?_
  refine mWd (w2 := (XW n vs be de 1 ro (up co 0 (T 0 0)) mi (up T 0 (up (T 0) 0 (hh 0))) B hd df)) rfl ?_
  refine mWd (w2 := (XW n vs be de 1 ro (coT 1 T 0 co) mi (clc 1 T 0 hh) B hd df)) rfl ?_
  refine hC _ 1 [] _ _ _ _ _ (c_det_1) rfl rfl (Nat.le_of_ble_eq_true rfl) rfl ?_
  refine mB hT 24 rfl ?_
  exact hR _ (by decide) _ _ _ rfl rfl
theorem c_dwc_2_1_0 {n vs : Int32} {be de : Int64} {ro co mi : Nat → Int64} {T : Nat → Nat → Int64} {B : Nat → Nat → Nat → Int32} {hd : Nat → Nat → Int32} {df : Nat → Int32} : KX1_determinantWithColumn l D ca ad [.ref 1, .int 0, .ref 25] (XW n vs be de 1 ro co mi T B hd df) (some (.long (detX 1 (clT 1 T 0 (hd 2))))) (XW n vs be de 1 ro (coT 1 T 0 co) (miX 1 (clT 1 T 0 (hd 2)) mi) T B hd df) := c_dwh_2_1_0 (fun _ => rfl)
set_option maxRecDepth 20000 in
theorem c_dwh_2_2_0 {n vs : Int32} {be de : Int64} {ro co mi : Nat → Int64} {T : Nat → Nat → Int64} {B : Nat → Nat → Nat → Int32} {hd : Nat → Nat → Int32} {df : Nat → Int32} {hh : Nat → Int64} (hq : ∀ j : Nat, hh j = ((hd 2) j).toInt64) : KX1_determinantWithColumn l D ca ad [.ref 1, .int 0, .ref 25] (XW n vs be de 2 ro co mi T B hd df) (some (.long (detX 2 (clc 2 T 0 hh)))) (XW n vs be de 2 ro (coT 2 T 0 co) (miX 2 (clc 2 T 0 hh) mi) T B hd df) := by
  refine PX1_determinantWithColumn (Nat.le_of_ble_eq_true rfl) ?_
  intro G hT hC hR
  refine mB hT 30 rfl ?_
  refine mNf (lv2 := [(3, .int 0), (0, .ref 1), (1, .int 0), (2, .ref 25)]) (st2 := [.long (hh 0), .int 0, .ref 4]) rfl (by rw [hq 0] <;> rfl) ?_
  refine mB hT 31 rfl ?_
  refine mNf (lv2 := [(3, .int 1), (0, .ref 1), (1, .int 0), (2, .ref 25)]) (st2 := [.long (hh 1), .int 0, .ref 5]) rfl (by rw [hq 1] <;> rfl) ?_
  refine mB hT 8 rfl ?_
  refine mWd (w2 := (XW n vs be de 2 ro (up (up co 0 (T 0 0)) 1 (T 1 0)) mi (up (up T 0 (up (T 0) 0 (hh 0))) 1 (up (T 1) 0 (hh 1))) B hd df)) rfl ?_
  refine mWd (w2 := (XW n vs be de 2 ro (coT 2 T 0 co) mi (clc 2 T 0 hh) B hd df)) rfl ?_
  refine hC _ 1 [] _ _ _ _ _ (c_det_2) rfl rfl (Nat.le_of_ble_eq_true rfl) rfl ?_
  refine mB hT 40 rfl ?_
  refine mNf (lv2 := [(5, .int 2), (3, .long (detX 2 (clc 2 T 0 hh))), (0, .ref 1), (1, .int 0), (2, .ref 25)]) (st2 := [.long (detX 2 (clc 2 T 0 hh))]) rfl rfl ?_
  exact hR _ (by decide) _ _ _ rfl rfl
theorem c_dwc_2_2_0 {n vs : Int32} {be de : Int64} {ro co mi : Nat → Int64} {T : Nat → Nat → Int64} {B : Nat → Nat → Nat → Int32} {hd : Nat → Nat → Int32} {df : Nat → Int32} : KX1_determinantWithColumn l D ca ad [.ref 1, .int 0, .ref 25] (XW n vs be de 2 ro co mi T B hd df) (some (.long (detX 2 (clT 2 T 0 (hd 2))))) (XW n vs be de 2 ro (coT 2 T 0 co) (miX 2 (clT 2 T 0 (hd 2)) mi) T B hd df) := c_dwh_2_2_0 (fun _ => rfl)
set_option maxRecDepth 20000 in
theorem c_dwh_2_2_1 {n vs : Int32} {be de : Int64} {ro co mi : Nat → Int64} {T : Nat → Nat → Int64} {B : Nat → Nat → Nat → Int32} {hd : Nat → Nat → Int32} {df : Nat → Int32} {hh : Nat → Int64} (hq : ∀ j : Nat, hh j = ((hd 2) j).toInt64) : KX1_determinantWithColumn l D ca ad [.ref 1, .int 1, .ref 25] (XW n vs be de 2 ro co mi T B hd df) (some (.long (detX 2 (clc 2 T 1 hh)))) (XW n vs be de 2 ro (coT 2 T 1 co) (miX 2 (clc 2 T 1 hh) mi) T B hd df) := by
  refine PX1_determinantWithColumn (Nat.le_of_ble_eq_true rfl) ?_
  intro G hT hC hR
  refine mB hT 30 rfl ?_
  refine mNf (lv2 := [(3, .int 0), (0, .ref 1), (1, .int 1), (2, .ref 25)]) (st2 := [.long (hh 0), .int 1, .ref 4]) rfl (by rw [hq 0] <;> rfl) ?_
  refine mB hT 31 rfl ?_
  refine mNf (lv2 := [(3, .int 1), (0, .ref 1), (1, .int 1), (2, .ref 25)]) (st2 := [.long (hh 1), .int 1, .ref 5]) rfl (by rw [hq 1] <;> rfl) ?_
  refine mB hT 8 rfl ?_
  refine mWd (w2 := (XW n vs be de 2 ro (up (up co 0 (T 0 1)) 1 (T 1 1)) mi (up (up T 0 (up (T 0) 1 (hh 0))) 1 (up (T 1) 1 (hh 1))) B hd df)) rfl ?_
  refine mWd (w2 := (XW n vs be de 2 ro (coT 2 T 1 co) mi (clc 2 T 1 hh) B hd df)) rfl ?_
  refine hC _ 1 [] _ _ _ _ _ (c_det_2) rfl rfl (Nat.le_of_ble_eq_true rfl) rfl ?_
  refine mB hT 40 rfl ?_
  refine mNf (lv2 := [(5, .int 2), (3, .long (detX 2 (clc 2 T 1 hh))), (0, .ref 1), (1, .int 1), (2, .ref 25)]) (st2 := [.long (detX 2 (clc 2 T 1 hh))]) rfl rfl ?_
  exact hR _ (by decide) _ _ _ rfl rfl
theorem c_dwc_2_2_1 {n vs : Int32} {be de : Int64} {ro co mi : Nat → Int64} {T : Nat → Nat → Int64} {B : Nat → Nat → Nat → Int32} {hd : Nat → Nat → Int32} {df : Nat → Int32} : KX1_determinantWithColumn l D ca ad [.ref 1, .int 1, .ref 25] (XW n vs be de 2 ro co mi T B hd df) (some (.long (detX 2 (clT 2 T 1 (hd 2))))) (XW n vs be de 2 ro (coT 2 T 1 co) (miX 2 (clT 2 T 1 (hd 2)) mi) T B hd df) := c_dwh_2_2_1 (fun _ => rfl)
set_option maxRecDepth 20000 in
theorem c_dwh_2_3_0 {n vs : Int32} {be de : Int64} {ro co mi : Nat → Int64} {T : Nat → Nat → Int64} {B : Nat → Nat → Nat → Int32} {hd : Nat → Nat → Int32} {df : Nat → Int32} {hh : Nat → Int64} (hq : ∀ j : Nat, hh j = ((hd 2) j).toInt64) : KX1_determinantWithColumn l D ca ad [.ref 1, .int 0, .ref 25] (XW n vs be de 3 ro co mi T B hd df) (some (.long (detX 3 (clc 3 T 0 hh)))) (XW n vs be de 3 ro (coT 3 T 0 co) (miX 3 (clc 3 T 0 hh) mi) T B hd df) := by
  refine PX1_determinantWithColumn (Nat.le_of_ble_eq_true rfl) ?_
  intro G hT hC hR
  refine mB hT 30 rfl ?_
  refine mNf (lv2 := [(3, .int 0), (0, .ref 1), (1, .int 0), (2, .ref 25)]) (st2 := [.long (hh 0), .int 0, .ref 4]) rfl (by rw [hq 0] <;> rfl) ?_
  refine mB hT 31 rfl ?_
  refine mNf (lv2 := [(3, .int 1), (0, .ref 1), (1, .int 0), (2, .ref 25)]) (st2 := [.long (hh 1), .int 0, .ref 5]) rfl (by rw [hq 1] <;> rfl) ?_
  refine mB hT 31 rfl ?_
  refine mNf (lv2 := [(3, .int 2), (0, .ref 1), (1, .int 0), (2, .ref 25)]) (st2 := [.long (hh 2), .int 0, .ref 6]) rfl (by rw [hq 2] <;> rfl) ?_
  refine mB hT 8 rfl ?_
  refine mWd (w2 := (XW n vs be de 3 ro (up (up (up co 0 (T 0 0)) 1 (T 1 0)) 2 (T 2 0)) mi (up (up (up T 0 (up (T 0) 0 (hh 0))) 1 (up (T 1) 0 (hh 1))) 2 (up (T 2) 0 (hh 2))) B hd df)) rfl ?_
  refine mWd (w2 := (XW n vs be de 3 ro (coT 3 T 0 co) mi (clc 3 T 0 hh) B hd df)) rfl ?_
  refine hC _ 1 [] _ _ _ _ _ (c_det_3) rfl rfl (Nat.le_of_ble_eq_true rfl) rfl ?_
  refine mB hT 40 rfl ?_
  refine mNf (lv2 := [(5, .int 2), (3, .long (detX 3 (clc 3 T 0 hh))), (0, .ref 1), (1, .int 0), (2, .ref 25)]) (st2 := [.ref 1]) rfl rfl ?_
  refine mB hT 16 rfl ?_
  exact hR _ (by decide) _ _ _ rfl rfl
theorem c_dwc_2_3_0 {n vs : Int32} {be de : Int64} {ro co mi : Nat → Int64} {T : Nat → Nat → Int64} {B : Nat → Nat → Nat → Int32} {hd : Nat → Nat → Int32} {df : Nat → Int32} : KX1_determinantWithColumn l D ca ad [.ref 1, .int 0, .ref 25] (XW n vs be de 3 ro co mi T B hd df) (some (.long (detX 3 (clT 3 T 0 (hd 2))))) (XW n vs be de 3 ro (coT 3 T 0 co) (miX 3 (clT 3 T 0 (hd 2)) mi) T B hd df) := c_dwh_2_3_0 (fun _ => rfl)
set_option maxRecDepth 20000 in
theorem c_dwh_2_3_1 {n vs : Int32} {be de : Int64} {ro co mi : Nat → Int64} {T : Nat → Nat → Int64} {B : Nat → Nat → Nat → Int32} {hd : Nat → Nat → Int32} {df : Nat → Int32} {hh : Nat → Int64} (hq : ∀ j : Nat, hh j = ((hd 2) j).toInt64) : KX1_determinantWithColumn l D ca ad [.ref 1, .int 1, .ref 25] (XW n vs be de 3 ro co mi T B hd df) (some (.long (detX 3 (clc 3 T 1 hh)))) (XW n vs be de 3 ro (coT 3 T 1 co) (miX 3 (clc 3 T 1 hh) mi) T B hd df) := by
  refine PX1_determinantWithColumn (Nat.le_of_ble_eq_true rfl) ?_
  intro G hT hC hR
  refine mB hT 30 rfl ?_
  refine mNf (lv2 := [(3, .int 0), (0, .ref 1), (1, .int 1), (2, .ref 25)]) (st2 := [.long (hh 0), .int 1, .ref 4]) rfl (by rw [hq 0] <;> rfl) ?_
  refine mB hT 31 rfl ?_
  refine mNf (lv2 := [(3, .int 1), (0, .ref 1), (1, .int 1), (2, .ref 25)]) (st2 := [.long (hh 1), .int 1, .ref 5]) rfl (by rw [hq 1] <;> rfl) ?_
  refine mB hT 31 rfl ?_
  refine mNf (lv2 := [(3, .int 2), (0, .ref 1), (1, .int 1), (2, .ref 25)]) (st2 := [.long (hh 2), .int 1, .ref 6]) rfl (by rw [hq 2] <;> rfl) ?_
  refine mB hT 8 rfl ?_
  refine mWd (w2 := (XW n vs be de 3 ro (up (up (up co 0 (T 0 1)) 1 (T 1 1)) 2 (T 2 1)) mi (up (up (up T 0 (up (T 0) 1 (hh 0))) 1 (up (T 1) 1 (hh 1))) 2 (up (T 2) 1 (hh 2))) B hd df)) rfl ?_
  refine mWd (w2 := (XW n vs be de 3 ro (coT 3 T 1 co) mi (clc 3 T 1 hh) B hd df)) rfl ?_
  refine hC _ 1 [] _ _ _ _ _ (c_det_3) rfl rfl (Nat.le_of_ble_eq_true rfl) rfl ?_
  refine mB hT 40 rfl ?_
  refine mNf (lv2 := [(5, .int 2), (3, .long (detX 3 (clc 3 T 1 hh))), (0, .ref 1), (1, .int 1), (2, .ref 25)]) (st2 := [.ref 1]) rfl rfl ?_
  refine mB hT 16 rfl ?_
  exact hR _ (by decide) _ _ _ rfl rfl
theorem c_dwc_2_3_1 {n vs : Int32} {be de : Int64} {ro co mi : Nat → Int64} {T : Nat → Nat → Int64} {B : Nat → Nat → Nat → Int32} {hd : Nat → Nat → Int32} {df : Nat → Int32} : KX1_determinantWithColumn l D ca ad [.ref 1, .int 1, .ref 25] (XW n vs be de 3 ro co mi T B hd df) (some (.long (detX 3 (clT 3 T 1 (hd 2))))) (XW n vs be de 3 ro (coT 3 T 1 co) (miX 3 (clT 3 T 1 (hd 2)) mi) T B hd df) := c_dwh_2_3_1 (fun _ => rfl)
set_option maxRecDepth 20000 in
theorem c_dwh_2_3_2 {n vs : Int32} {be de : Int64} {ro co mi : Nat → Int64} {T : Nat → Nat → Int64} {B : Nat → Nat → Nat → Int32} {hd : Nat → Nat → Int32} {df : Nat → Int32} {hh : Nat → Int64} (hq : ∀ j : Nat, hh j = ((hd 2) j).toInt64) : KX1_determinantWithColumn l D ca ad [.ref 1, .int 2, .ref 25] (XW n vs be de 3 ro co mi T B hd df) (some (.long (detX 3 (clc 3 T 2 hh)))) (XW n vs be de 3 ro (coT 3 T 2 co) (miX 3 (clc 3 T 2 hh) mi) T B hd df) := by
  refine PX1_determinantWithColumn (Nat.le_of_ble_eq_true rfl) ?_
  intro G hT hC hR
  refine mB hT 30 rfl ?_
  refine mNf (lv2 := [(3, .int 0), (0, .ref 1), (1, .int 2), (2, .ref 25)]) (st2 := [.long (hh 0), .int 2, .ref 4]) rfl (by rw [hq 0] <;> rfl) ?_
  refine mB hT 31 rfl ?_
  refine mNf (lv2 := [(3, .int 1), (0, .ref 1), (1, .int 2), (2, .ref 25)]) (st2 := [.long (hh 1), .int 2, .ref 5]) rfl (by rw [hq 1] <;> rfl) ?_
  refine mB hT 31 rfl ?_
  refine mNf (lv2 := [(3, .int 2), (0, .ref 1), (1, .int 2), (2, .ref 25)]) (st2 := [.long (hh 2), .int 2, .ref 6]) rfl (by rw [hq 2] <;> rfl) ?_
  refine mB hT 8 rfl ?_
  refine mWd (w2 := (XW n vs be de 3 ro (up (up (up co 0 (T 0 2)) 1 (T 1 2)) 2 (T 2 2)) mi (up (up (up T 0 (up (T 0) 2 (hh 0))) 1 (up (T 1) 2 (hh 1))) 2 (up (T 2) 2 (hh 2))) B hd df)) rfl ?_
  refine mWd (w2 := (XW n vs be de 3 ro (coT 3 T 2 co) mi (clc 3 T 2 hh) B hd df)) rfl ?_
  refine hC _ 1 [] _ _ _ _ _ (c_det_3) rfl rfl (Nat.le_of_ble_eq_true rfl) rfl ?_
  refine mB hT 40 rfl ?_
  refine mNf (lv2 := [(5, .int 2), (3, .long (detX 3 (clc 3 T 2 hh))), (0, .ref 1), (1, .int 2), (2, .ref 25)]) (st2 := [.ref 1]) rfl rfl ?_
  refine mB hT 16 rfl ?_
  exact hR _ (by decide) _ _ _ rfl rfl
theorem c_dwc_2_3_2 {n vs : Int32} {be de : Int64} {ro co mi : Nat → Int64} {T : Nat → Nat → Int64} {B : Nat → Nat → Nat → Int32} {hd : Nat → Nat → Int32} {df : Nat → Int32} : KX1_determinantWithColumn l D ca ad [.ref 1, .int 2, .ref 25] (XW n vs be de 3 ro co mi T B hd df) (some (.long (detX 3 (clT 3 T 2 (hd 2))))) (XW n vs be de 3 ro (coT 3 T 2 co) (miX 3 (clT 3 T 2 (hd 2)) mi) T B hd df) := c_dwh_2_3_2 (fun _ => rfl)
set_option maxRecDepth 20000 in
theorem c_dwh_2_4_0 {n vs : Int32} {be de : Int64} {ro co mi : Nat → Int64} {T : Nat → Nat → Int64} {B : Nat → Nat → Nat → Int32} {hd : Nat → Nat → Int32} {df : Nat → Int32} {hh : Nat → Int64} (hq : ∀ j : Nat, hh j = ((hd 2) j).toInt64) : KX1_determinantWithColumn l D ca ad [.ref 1, .int 0, .ref 25] (XW n vs be de 4 ro co mi T B hd df) (some (.long (detX 4 (clc 4 T 0 hh)))) (XW n vs be de 4 ro (coT 4 T 0 co) (miX 4 (clc 4 T 0 hh) mi) T B hd df) := by
  refine PX1_determinantWithColumn (Nat.le_of_ble_eq_true rfl) ?_
  intro G hT hC hR
  refine mB hT 30 rfl ?_
  refine mNf (lv2 := [(3, .int 0), (0, .ref 1), (1, .int 0), (2, .ref 25)]) (st2 := [.long (hh 0), .int 0, .ref 4]) rfl (by rw [hq 0] <;> rfl) ?_
  refine mB hT 31 rfl ?_
  refine mNf (lv2 := [(3, .int 1), (0, .ref 1), (1, .int 0), (2, .ref 25)]) (st2 := [.long (hh 1), .int 0, .ref 5]) rfl (by rw [hq 1] <;> rfl) ?_
  refine mB hT 31 rfl ?_
  refine mNf (lv2 := [(3, .int 2), (0, .ref 1), (1, .int 0), (2, .ref 25)]) (st2 := [.long (hh 2), .int 0, .ref 6]) rfl (by rw [hq 2] <;> rfl) ?_
  refine mB hT 31 rfl ?_
  refine mNf (lv2 := [(3, .int 3), (0, .ref 1), (1, .int 0), (2, .ref 25)]) (st2 := [.long (hh 3), .int 0, .ref 7]) rfl (by rw [hq 3] <;> rfl) ?_
  refine mB hT 8 rfl ?_
  refine mWd (w2 := (XW n vs be de 4 ro (up (up (up (up co 0 (T 0 0)) 1 (T 1 0)) 2 (T 2 0)) 3 (T 3 0)) mi (up (up (up (up T 0 (up (T 0) 0 (hh 0))) 1 (up (T 1) 0 (hh 1))) 2 (up (T 2) 0 (hh 2))) 3 (up (T 3) 0 (hh 3))) B hd df)) rfl ?_
  refine mWd (w2 := (XW n vs be de 4 ro (coT 4 T 0 co) mi (clc 4 T 0 hh) B hd df)) rfl ?_
  refine hC _ 1 [] _ _ _ _ _ (c_det_4) rfl rfl (Nat.le_of_ble_eq_true rfl) rfl ?_
  refine mB hT 40 rfl ?_
  refine mNf (lv2 := [(5, .int 2), (3, .long (detX 4 (clc 4 T 0 hh))), (0, .ref 1), (1, .int 0), (2, .ref 25)]) (st2 := [.ref 1]) rfl rfl ?_
  refine mB hT 32 rfl ?_
  exact hR _ (by decide) _ _ _ rfl rfl
theorem c_dwc_2_4_0 {n vs : Int32} {be de : Int64} {ro co mi : Nat → Int64} {T : Nat → Nat → Int64} {B : Nat → Nat → Nat → Int32} {hd : Nat → Nat → Int32} {df : Nat → Int32} : KX1_determinantWithColumn l D ca ad [.ref 1, .int 0, .ref 25] (XW n vs be de 4 ro co mi T B hd df) (some (.long (detX 4 (clT 4 T 0 (hd 2))))) (XW n vs be de 4 ro (coT 4 T 0 co) (miX 4 (clT 4 T 0 (hd 2)) mi) T B hd df) := c_dwh_2_4_0 (fun _ => rfl)
set_option maxRecDepth 20000 in
theorem c_dwh_2_4_1 {n vs : Int32} {be de : Int64} {ro co mi : Nat → Int64} {T : Nat → Nat → Int64} {B : Nat → Nat → Nat → Int32} {hd : Nat → Nat → Int32} {df : Nat → Int32} {hh : Nat → Int64} (hq : ∀ j : Nat, hh j = ((hd 2) j).toInt64) : KX1_determinantWithColumn l D ca ad [.ref 1, .int 1, .ref 25] (XW n vs be de 4 ro co mi T B hd df) (some (.long (detX 4 (clc 4 T 1 hh)))) (XW n vs be de 4 ro (coT 4 T 1 co) (miX 4 (clc 4 T 1 hh) mi) T B hd df) := by
  refine PX1_determinantWithColumn (Nat.le_of_ble_eq_true rfl) ?_
  intro G hT hC hR
  refine mB hT 30 rfl ?_
  refine mNf (lv2 := [(3, .int 0), (0, .ref 1), (1, .int 1), (2, .ref 25)]) (st2 := [.long (hh 0), .int 1, .ref 4]) rfl (by rw [hq 0] <;> rfl) ?_
  refine mB hT 31 rfl ?_
  refine mNf (lv2 := [(3, .int 1), (0, .ref 1), (1, .int 1), (2, .ref 25)]) (st2 := [.long (hh 1), .int 1, .ref 5]) rfl (by rw [hq 1] <;> rfl) ?_
  refine mB hT 31 rfl ?_
  refine mNf (lv2 := [(3, .int 2), (0, .ref 1), (1, .int 1), (2, .ref 25)]) (st2 := [.long (hh 2), .int 1, .ref 6]) rfl (by rw [hq 2] <;> rfl) ?_
  refine mB hT 31 rfl ?_
  refine mNf (lv2 := [(3, .int 3), (0, .ref 1), (1, .int 1), (2, .ref 25)]) (st2 := [.long (hh 3), .int 1, .ref 7]) rfl (by rw [hq 3] <;> rfl) ?_
  refine mB hT 8 rfl ?_
  refine mWd (w2 := (XW n vs be de 4 ro (up (up (up (up co 0 (T 0 1)) 1 (T 1 1)) 2 (T 2 1)) 3 (T 3 1)) mi (up (up (up (up T 0 (up (T 0) 1 (hh 0))) 1 (up (T 1) 1 (hh 1))) 2 (up (T 2) 1 (hh 2))) 3 (up (T 3) 1 (hh 3))) B hd df)) rfl ?_
  refine mWd (w2 := (XW n vs be de 4 ro (coT 4 T 1 co) mi (clc 4 T 1 hh) B hd df)) rfl ?_
  refine hC _ 1 [] _ _ _ _ _ (c_det_4) rfl rfl (Nat.le_of_ble_eq_true rfl) rfl ?_
  refine mB hT 40 rfl ?_
  refine mNf (lv2 := [(5, .int 2), (3, .long (detX 4 (clc 4 T 1 hh))), (0, .ref 1), (1, .int 1), (2, .ref 25)]) (st2 := [.ref 1]) rfl rfl ?_
  refine mB hT 32 rfl ?_
  exact hR _ (by decide) _ _ _ rfl rfl
theorem c_dwc_2_4_1 {n vs : Int32} {be de : Int64} {ro co mi : Nat → Int64} {T : Nat → Nat → Int64} {B : Nat → Nat → Nat → Int32} {hd : Nat → Nat → Int32} {df : Nat → Int32} : KX1_determinantWithColumn l D ca ad [.ref 1, .int 1, .ref 25] (XW n vs be de 4 ro co mi T B hd df) (some (.long (detX 4 (clT 4 T 1 (hd 2))))) (XW n vs be de 4 ro (coT 4 T 1 co) (miX 4 (clT 4 T 1 (hd 2)) mi) T B hd df) := c_dwh_2_4_1 (fun _ => rfl)
set_option maxRecDepth 20000 in
theorem c_dwh_2_4_2 {n vs : Int32} {be de : Int64} {ro co mi : Nat → Int64} {T : Nat → Nat → Int64} {B : Nat → Nat → Nat → Int32} {hd : Nat → Nat → Int32} {df : Nat → Int32} {hh : Nat → Int64} (hq : ∀ j : Nat, hh j = ((hd 2) j).toInt64) : KX1_determinantWithColumn l D ca ad [.ref 1, .int 2, .ref 25] (XW n vs be de 4 ro co mi T B hd df) (some (.long (detX 4 (clc 4 T 2 hh)))) (XW n vs be de 4 ro (coT 4 T 2 co) (miX 4 (clc 4 T 2 hh) mi) T B hd df) := by
  refine PX1_determinantWithColumn (Nat.le_of_ble_eq_true rfl) ?_
  intro G hT hC hR
  refine mB hT 30 rfl ?_
  refine mNf (lv2 := [(3, .int 0), (0, .ref 1), (1, .int 2), (2, .ref 25)]) (st2 := [.long (hh 0), .int 2, .ref 4]) rfl (by rw [hq 0] <;> rfl) ?_
  refine mB hT 31 rfl ?_
  refine mNf (lv2 := [(3, .int 1), (0, .ref 1), (1, .int 2), (2, .ref 25)]) (st2 := [.long (hh 1), .int 2, .ref 5]) rfl (by rw [hq 1] <;> rfl) ?_
  refine mB hT 31 rfl ?_
  refine mNf (lv2 := [(3, .int 2), (0, .ref 1), (1, .int 2), (2, .ref 25)]) (st2 := [.long (hh 2), .int 2, .ref 6]) rfl (by rw [hq 2] <;> rfl) ?_
  refine mB hT 31 rfl ?_
  refine mNf (lv2 := [(3, .int 3), (0, .ref 1), (1, .int 2), (2, .ref 25)]) (st2 := [.long (hh 3), .int 2, .ref 7]) rfl (by rw [hq 3] <;> rfl) ?_
  refine mB hT 8 rfl ?_
  refine mWd (w2 := (XW n vs be de 4 ro (up (up (up (up co 0 (T 0 2)) 1 (T 1 2)) 2 (T 2 2)) 3 (T 3 2)) mi (up (up (up (up T 0 (up (T 0) 2 (hh 0))) 1 (up (T 1) 2 (hh 1))) 2 (up (T 2) 2 (hh 2))) 3 (up (T 3) 2 (hh 3))) B hd df)) rfl ?_
  refine mWd (w2 := (XW n vs be de 4 ro (coT 4 T 2 co) mi (clc 4 T 2 hh) B hd df)) rfl ?_
  refine hC _ 1 [] _ _ _ _ _ (c_det_4) rfl rfl (Nat.le_of_ble_eq_true rfl) rfl ?_
  refine mB hT 40 rfl ?_
  refine mNf (lv2 := [(5, .int 2), (3, .long (detX 4 (clc 4 T 2 hh))), (0, .ref 1), (1, .int 2), (2, .ref 25)]) (st2 := [.ref 1]) rfl rfl ?_
  refine mB hT 32 rfl ?_
  exact hR _ (by decide) _ _ _ rfl rfl
theorem c_dwc_2_4_2 {n vs : Int32} {be de : Int64} {ro co mi : Nat → Int64} {T : Nat → Nat → Int64} {B : Nat → Nat → Nat → Int32} {hd : Nat → Nat → Int32} {df : Nat → Int32} : KX1_determinantWithColumn l D ca ad [.ref 1, .int 2, .ref 25] (XW n vs be de 4 ro co mi T B hd df) (some (.long (detX 4 (clT 4 T 2 (hd 2))))) (XW n vs be de 4 ro (coT 4 T 2 co) (miX 4 (clT 4 T 2 (hd 2)) mi) T B hd df) := c_dwh_2_4_2 (fun _ => rfl)
set_option maxRecDepth 20000 in
theorem c_dwh_2_4_3 {n vs : Int32} {be de : Int64} {ro co mi : Nat → Int64} {T : Nat → Nat → Int64} {B : Nat → Nat → Nat → Int32} {hd : Nat → Nat → Int32} {df : Nat → Int32} {hh : Nat → Int64} (hq : ∀ j : Nat, hh j = ((hd 2) j).toInt64) : KX1_determinantWithColumn l D ca ad [.ref 1, .int 3, .ref 25] (XW n vs be de 4 ro co mi T B hd df) (some (.long (detX 4 (clc 4 T 3 hh)))) (XW n vs be de 4 ro (coT 4 T 3 co) (miX 4 (clc 4 T 3 hh) mi) T B hd df) := by
  refine PX1_determinantWithColumn (Nat.le_of_ble_eq_true rfl) ?_
  intro G hT hC hR
  refine mB hT 30 rfl ?_
  refine mNf (lv2 := [(3, .int 0), (0, .ref 1), (1, .int 3), (2, .ref 25)]) (st2 := [.long (hh 0), .int 3, .ref 4]) rfl (by rw [hq 0] <;> rfl) ?_
  refine mB hT 31 rfl ?_
  refine mNf (lv2 := [(3, .int 1), (0, .ref 1), (1, .int 3), (2, .ref 25)]) (st2 := [.long (hh 1), .int 3, .ref 5]) rfl (by rw [hq 1] <;> rfl) ?_
  refine mB hT 31 rfl ?_
  refine mNf (lv2 := [(3, .int 2), (0, .ref 1), (1, .int 3), (2, .ref 25)]) (st2 := [.long (hh 2), .int 3, .ref 6]) rfl (by rw [hq 2] <;> rfl) ?_
  refine mB hT 31 rfl ?_
  refine mNf (lv2 := [(3, .int 3), (0, .ref 1), (1, .int 3), (2, .ref 25)]) (st2 := [.long (hh 3), .int 3, .ref 7]) rfl (by rw [hq 3] <;> rfl) ?_
  refine mB hT 8 rfl ?_
  refine mWd (w2 := (XW n vs be de 4 ro (up (up (up (up co 0 (T 0 3)) 1 (T 1 3)) 2 (T 2 3)) 3 (T 3 3)) mi (up (up (up (up T 0 (up (T 0) 3 (hh 0))) 1 (up (T 1) 3 (hh 1))) 2 (up (T 2) 3 (hh 2))) 3 (up (T 3) 3 (hh 3))) B hd df)) rfl ?_
  refine mWd (w2 := (XW n vs be de 4 ro (coT 4 T 3 co) mi (clc 4 T 3 hh) B hd df)) rfl ?_
  refine hC _ 1 [] _ _ _ _ _ (c_det_4) rfl rfl (Nat.le_of_ble_eq_true rfl) rfl ?_
  refine mB hT 40 rfl ?_
  refine mNf (lv2 := [(5, .int 2), (3, .long (detX 4 (clc 4 T 3 hh))), (0, .ref 1), (1, .int 3), (2, .ref 25)]) (st2 := [.ref 1]) rfl rfl ?_
  refine mB hT 32 rfl ?_
  exact hR _ (by decide) _ _ _ rfl rfl
theorem c_dwc_2_4_3 {n vs : Int32} {be de : Int64} {ro co mi : Nat → Int64} {T : Nat → Nat → Int64} {B : Nat → Nat → Nat → Int32} {hd : Nat → Nat → Int32} {df : Nat → Int32} : KX1_determinantWithColumn l D ca ad [.ref 1, .int 3, .ref 25] (XW n vs be de 4 ro co mi T B hd df) (some (.long (detX 4 (clT 4 T 3 (hd 2))))) (XW n vs be de 4 ro (coT 4 T 3 co) (miX 4 (clT 4 T 3 (hd 2)) mi) T B hd df) := c_dwh_2_4_3 (fun _ => rfl)
set_option maxRecDepth 20000 in
theorem c_dwh_3_1_0 {n vs : Int32} {be de : Int64} {ro co mi : Nat → Int64} {T : Nat → Nat → Int64} {B : Nat → Nat → Nat → Int32} {hd : Nat → Nat → Int32} {df : Nat → Int32} {hh : Nat → Int64} (hq : ∀ j : Nat, hh j = ((hd 3) j).toInt64) : KX1_determinantWithColumn l D ca ad [.ref 1, .int 0, .ref 26] (XW n vs be de 1 ro co mi T B hd df) (some (.long (detX 1 (clc 1 T 0 hh)))) (XW n vs be de 1 ro (coT 1 T 0 co) (miX 1 (clc 1 T 0 hh) mi) T B hd df) := by
  refine PX1_determinantWithColumn (Nat.le_of_ble_eq_true rfl) ?_
  intro G hT hC hR
  refine mB hT 30 rfl ?_
  refine mNf (lv2 := [(3, .int 0), (0, .ref 1), (1, .int 0), (2, .ref 26)]) (st2 := [.long (hh 0), .int 0, .ref 4]) rfl (by rw [hq 0] <;> rfl) ?_
  refine mB hT 8 rfl ?_
  refine mWd (w2 := (XW n vs be de 1 ro (up co 0 (T 0 0)) mi (up T 0 (up (T 0) 0 (hh 0))) B hd df)) rfl ?_
  refine mWd (w2 := (XW n vs be de 1 ro (coT 1 T 0 co) mi (clc 1 T 0 hh) B hd df)) rfl ?_
  refine hC _ 1 [] _ _ _ _ _ (c_det_1) rfl rfl (Nat.le_of_ble_eq_true rfl) rfl ?_
  refine mB hT 24 rfl ?_
  exact hR _ (by decide) _ _ _ rfl rfl
theorem c_dwc_3_1_0 {n vs : Int32} {be de : Int64} {ro co mi : Nat → Int64} {T : Nat → Nat → Int64} {B : Nat → Nat → Nat → Int32} {hd : Nat → Nat → Int32} {df : Nat → Int32} : KX1_determinantWithColumn l D ca ad [.ref 1, .int 0, .ref 26] (XW n vs be de 1 ro co mi T B hd df) (some (.long (detX 1 (clT 1 T 0 (hd 3))))) (XW n vs be de 1 ro (coT 1 T 0 co) (miX 1 (clT 1 T 0 (hd 3)) mi) T B hd df) := c_dwh_3_1_0 (fun _ => rfl)
set_option maxRecDepth 20000 in
theorem c_dwh_3_2_0 {n vs : Int32} {be de : Int64} {ro co mi : Nat → Int64} {T : Nat → Nat → Int64} {B : Nat → Nat → Nat → Int32} {hd : Nat → Nat → Int32} {df : Nat → Int32} {hh : Nat → Int64} (hq : ∀ j : Nat, hh j = ((hd 3) j).toInt64) : KX1_determinantWithColumn l D ca ad [.ref 1, .int 0, .ref 26] (XW n vs be de 2 ro co mi T B hd df) (some (.long (detX 2 (clc 2 T 0 hh)))) (XW n vs be de 2 ro (coT 2 T 0 co) (miX 2 (clc 2 T 0 hh) mi) T B hd df) := by
  refine PX1_determinantWithColumn (Nat.le_of_ble_eq_true rfl) ?_
  intro G hT hC hR
  refine mB hT 30 rfl ?_
  refine mNf (lv2 := [(3, .int 0), (0, .ref 1), (1, .int 0), (2, .ref 26)]) (st2 := [.long (hh 0), .int 0, .ref 4]) rfl (by rw [hq 0] <;> rfl) ?_
  refine mB hT 31 rfl ?_
  refine mNf (lv2 := [(3, .int 1), (0, .ref 1), (1, .int 0), (2, .ref 26)]) (st2 := [.long (hh 1), .int 0, .ref 5]) rfl (by rw [hq 1] <;> rfl) ?_
  refine mB hT 8 rfl ?_
  refine mWd (w2 := (XW n vs be de 2 ro (up (up co 0 (T 0 0)) 1 (T 1 0)) mi (up (up T 0 (up (T 0) 0 (hh 0))) 1 (up (T 1) 0 (hh 1))) B hd df)) rfl ?_
  refine mWd (w2 := (XW n vs be de 2 ro (coT 2 T 0 co) mi (clc 2 T 0 hh) B hd df)) rfl ?_
  refine hC _ 1 [] _ _ _ _ _ (c_det_2) rfl rfl (Nat.le_of_ble_eq_true rfl) rfl ?_
  refine mB hT 40 rfl ?_
  refine mNf (lv2 := [(5, .int 2), (3, .long (detX 2 (clc 2 T 0 hh))), (0, .ref 1), (1, .int 0), (2, .ref 26)]) (st2 := [.long (detX 2 (clc 2 T 0 hh))]) rfl rfl ?_
  exact hR _ (by decide) _ _ _ rfl rfl
theorem c_dwc_3_2_0 {n vs : Int32} {be de : Int64} {ro co mi : Nat → Int64} {T : Nat → Nat → Int64} {B : Nat → Nat → Nat → Int32} {hd : Nat → Nat → Int32} {df : Nat → Int32} : KX1_determinantWithColumn l D ca ad [.ref 1, .int 0, .ref 26] (XW n vs be de 2 ro co mi T B hd df) (some (.long (detX 2 (clT 2 T 0 (hd 3))))) (XW n vs be de 2 ro (coT 2 T 0 co) (miX 2 (clT 2 T 0 (hd 3)) mi) T B hd df) := c_dwh_3_2_0 (fun _ => rfl)
set_option maxRecDepth 20000 in
theorem c_dwh_3_2_1 {n vs : Int32} {be de : Int64} {ro co mi : Nat → Int64} {T : Nat → Nat → Int64} {B : Nat → Nat → Nat → Int32} {hd : Nat → Nat → Int32} {df : Nat → Int32} {hh : Nat → Int64} (hq : ∀ j : Nat, hh j = ((hd 3) j).toInt64) : KX1_determinantWithColumn l D ca ad [.ref 1, .int 1, .ref 26] (XW n vs be de 2 ro co mi T B hd df) (some (.long (detX 2 (clc 2 T 1 hh)))) (XW n vs be de 2 ro (coT 2 T 1 co) (miX 2 (clc 2 T 1 hh) mi) T B hd df) := by
  refine PX1_determinantWithColumn (Nat.le_of_ble_eq_true rfl) ?_
  intro G hT hC hR
  refine mB hT 30 rfl ?_
  refine mNf (lv2 := [(3, .int 0), (0, .ref 1), (1, .int 1), (2, .ref 26)]) (st2 := [.long (hh 0), .int 1, .ref 4]) rfl (by rw [hq 0] <;> rfl) ?_
  refine mB hT 31 rfl ?_
  refine mNf (lv2 := [(3, .int 1), (0, .ref 1), (1, .int 1), (2, .ref 26)]) (st2 := [.long (hh 1), .int 1, .ref 5]) rfl (by rw [hq 1] <;> rfl) ?_
  refine mB hT 8 rfl ?_
  refine mWd (w2 := (XW n vs be de 2 ro (up (up co 0 (T 0 1)) 1 (T 1 1)) mi (up (up T 0 (up (T 0) 1 (hh 0))) 1 (up (T 1) 1 (hh 1))) B hd df)) rfl ?_
  refine mWd (w2 := (XW n vs be de 2 ro (coT 2 T 1 co) mi (clc 2 T 1 hh) B hd df)) rfl ?_
  refine hC _ 1 [] _ _ _ _ _ (c_det_2) rfl rfl (Nat.le_of_ble_eq_true rfl) rfl ?_
  refine mB hT 40 rfl ?_
  refine mNf (lv2 := [(5, .int 2), (3, .long (detX 2 (clc 2 T 1 hh))), (0, .ref 1), (1, .int 1), (2, .ref 26)]) (st2 := [.long (detX 2 (clc 2 T 1 hh))]) rfl rfl ?_
  exact hR _ (by decide) _ _ _ rfl rfl
theorem c_dwc_3_2_1 {n vs : Int32} {be de : Int64} {ro co mi : Nat → Int64} {T : Nat → Nat → Int64} {B : Nat → Nat → Nat → Int32} {hd : Nat → Nat → Int32} {df : Nat → Int32} : KX1_determinantWithColumn l D ca ad [.ref 1, .int 1, .ref 26] (XW n vs be de 2 ro co mi T B hd df) (some (.long (detX 2 (clT 2 T 1 (hd 3))))) (XW n vs be de 2 ro (coT 2 T 1 co) (miX 2 (clT 2 T 1 (hd 3)) mi) T B hd df) := c_dwh_3_2_1 (fun _ => rfl)
set_option maxRecDepth 20000 in
theorem c_dwh_3_3_0 {n vs : Int32} {be de : Int64} {ro co mi : Nat → Int64} {T : Nat → Nat → Int64} {B : Nat → Nat → Nat → Int32} {hd : Nat → Nat → Int32} {df : Nat → Int32} {hh : Nat → Int64} (hq : ∀ j : Nat, hh j = ((hd 3) j).toInt64) : KX1_determinantWithColumn l D ca ad [.ref 1, .int 0, .ref 26] (XW n vs be de 3 ro co mi T B hd df) (some (.long (detX 3 (clc 3 T 0 hh)))) (XW n vs be de 3 ro (coT 3 T 0 co) (miX 3 (clc 3 T 0 hh) mi) T B hd df) := by
  refine PX1_determinantWithColumn (Nat.le_of_ble_eq_true rfl) ?_
  intro G hT hC hR
  refine mB hT 30 rfl ?_
  refine mNf (lv2 := [(3, .int 0), (0, .ref 1), (1, .int 0), (2, .ref 26)]) (st2 := [.long (hh 0), .int 0, .ref 4]) rfl (by rw [hq 0] <;> rfl) ?_
  refine mB hT 31 rfl ?_
  refine mNf (lv2 := [(3, .int 1), (0, .ref 1), (1, .int 0), (2, .ref 26)]) (st2 := [.long (hh 1), .int 0, .ref 5]) rfl (by rw [hq 1] <;> rfl) ?_
  refine mB hT 31 rfl ?_
  refine mNf (lv2 := [(3, .int 2), (0, .ref 1), (1, .int 0), (2, .ref 26)]) (st2 := [.long (hh 2), .int 0, .ref 6]) rfl (by rw [hq 2] <;> rfl) ?_
  refine mB hT 8 rfl ?_
  refine mWd (w2 := (XW n vs be de 3 ro (up (up (up co 0 (T 0 0)) 1 (T 1 0)) 2 (T 2 0)) mi (up (up (up T 0 (up (T 0) 0 (hh 0))) 1 (up (T 1) 0 (hh 1))) 2 (up (T 2) 0 (hh 2))) B hd df)) rfl ?_
  refine mWd (w2 := (XW n vs be de 3 ro (coT 3 T 0 co) mi (clc 3 T 0 hh) B hd df)) rfl ?_
  refine hC _ 1 [] _ _ _ _ _ (c_det_3) rfl rfl (Nat.le_of_ble_eq_true rfl) rfl ?_
  refine mB hT 40 rfl ?_
  refine mNf (lv2 := [(5, .int 2), (3, .long (detX 3 (clc 3 T 0 hh))), (0, .ref 1), (1, .int 0), (2, .ref 26)]) (st2 := [.ref 1]) rfl rfl ?_
  refine mB hT 16 rfl ?_
  exact hR _ (by decide) _ _ _ rfl rfl
theorem c_dwc_3_3_0 {n vs : Int32} {be de : Int64} {ro co mi : Nat → Int64} {T : Nat → Nat → Int64} {B : Nat → Nat → Nat → Int32} {hd : Nat → Nat → Int32} {df : Nat → Int32} : KX1_determinantWithColumn l D ca ad [.ref 1, .int 0, .ref 26] (XW n vs be de 3 ro co mi T B hd df) (some (.long (detX 3 (clT 3 T 0 (hd 3))))) (XW n vs be de 3 ro (coT 3 T 0 co) (miX 3 (clT 3 T 0 (hd 3)) mi) T B hd df) := c_dwh_3_3_0 (fun _ => rfl)
set_option maxRecDepth 20000 in
theorem c_dwh_3_3_1 {n vs : Int32} {be de : Int64} {ro co mi : Nat → Int64} {T : Nat → Nat → Int64} {B : Nat → Nat → Nat → Int32} {hd : Nat → Nat → Int32} {df : Nat → Int32} {hh : Nat → Int64} (hq : ∀ j : Nat, hh j = ((hd 3) j).toInt64) : KX1_determinantWithColumn l D ca ad [.ref 1, .int 1, .ref 26] (XW n vs be de 3 ro co mi T B hd df) (some (.long (detX 3 (clc 3 T 1 hh)))) (XW n vs be de 3 ro (coT 3 T 1 co) (miX 3 (clc 3 T 1 hh) mi) T B hd df) := by
  refine PX1_determinantWithColumn (Nat.le_of_ble_eq_true rfl) ?_
  intro G hT hC hR
  refine mB hT 30 rfl ?_
  refine mNf (lv2 := [(3, .int 0), (0, .ref 1), (1, .int 1), (2, .ref 26)]) (st2 := [.long (hh 0), .int 1, .ref 4]) rfl (by rw [hq 0] <;> rfl) ?_
  refine mB hT 31 rfl ?_
  refine mNf (lv2 := [(3, .int 1), (0, .ref 1), (1, .int 1), (2, .ref 26)]) (st2 := [.long (hh 1), .int 1, .ref 5]) rfl (by rw [hq 1] <;> rfl) ?_
  refine mB hT 31 rfl ?_
  refine mNf (lv2 := [(3, .int 2), (0, .ref 1), (1, .int 1), (2, .ref 26)]) (st2 := [.long (hh 2), .int 1, .ref 6]) rfl (by rw [hq 2] <;> rfl) ?_
  refine mB hT 8 rfl ?_
  refine mWd (w2 := (XW n vs be de 3 ro (up (up (up co 0 (T 0 1)) 1 (T 1 1)) 2 (T 2 1)) mi (up (up (up T 0 (up (T 0) 1 (hh 0))) 1 (up (T 1) 1 (hh 1))) 2 (up (T 2) 1 (hh 2))) B hd df)) rfl ?_
  refine mWd (w2 := (XW n vs be de 3 ro (coT 3 T 1 co) mi (clc 3 T 1 hh) B hd df)) rfl ?_
  refine hC _ 1 [] _ _ _ _ _ (c_det_3) rfl rfl (Nat.le_of_ble_eq_true rfl) rfl ?_
  refine mB hT 40 rfl ?_
  refine mNf (lv2 := [(5, .int 2), (3, .long (detX 3 (clc 3 T 1 hh))), (0, .ref 1), (1, .int 1), (2, .ref 26)]) (st2 := [.ref 1]) rfl rfl ?_
  refine mB hT 16 rfl ?_
  exact hR _ (by decide) _ _ _ rfl rfl
theorem c_dwc_3_3_1 {n vs : Int32} {be de : Int64} {ro co mi : Nat → Int64} {T : Nat → Nat → Int64} {B : Nat → Nat → Nat → Int32} {hd : Nat → Nat → Int32} {df : Nat → Int32} : KX1_determinantWithColumn l D ca ad [.ref 1, .int 1, .ref 26] (XW n vs be de 3 ro co mi T B hd df) (some (.long (detX 3 (clT 3 T 1 (hd 3))))) (XW n vs be de 3 ro (coT 3 T 1 co) (miX 3 (clT 3 T 1 (hd 3)) mi) T B hd df) := c_dwh_3_3_1 (fun _ => rfl)
set_option maxRecDepth 20000 in
theorem c_dwh_3_3_2 {n vs : Int32} {be de : Int64} {ro co mi : Nat → Int64} {T : Nat → Nat → Int64} {B : Nat → Nat → Nat → Int32} {hd : Nat → Nat → Int32} {df : Nat → Int32} {hh : Nat → Int64} (hq : ∀ j : Nat, hh j = ((hd 3) j).toInt64) : KX1_determinantWithColumn l D ca ad [.ref 1, .int 2, .ref 26] (XW n vs be de 3 ro co mi T B hd df) (some (.long (detX 3 (clc 3 T 2 hh)))) (XW n vs be de 3 ro (coT 3 T 2 co) (miX 3 (clc 3 T 2 hh) mi) T B hd df) := by
  refine PX1_determinantWithColumn (Nat.le_of_ble_eq_true rfl) ?_
  intro G hT hC hR
  refine mB hT 30 rfl ?_
  refine mNf (lv2 := [(3, .int 0), (0, .ref 1), (1, .int 2), (2, .ref 26)]) (st2 := [.long (hh 0), .int 2, .ref 4]) rfl (by rw [hq 0] <;> rfl) ?_
  refine mB hT 31 rfl ?_
  refine mNf (lv2 := [(3, .int 1), (0, .ref 1), (1, .int 2), (2, .ref 26)]) (st2 := [.long (hh 1), .int 2, .ref 5]) rfl (by rw [hq 1] <;> rfl) ?_
  refine mB hT 31 rfl ?_
  refine mNf (lv2 := [(3, .int 2), (0, .ref 1), (1, .int 2), (2, .ref 26)]) (st2 := [.long (hh 2), .int 2, .ref 6]) rfl (by rw [hq 2] <;> rfl) ?_
  refine mB hT 8 rfl ?_
  refine mWd (w2 := (XW n vs be de 3 ro (up (up (up co 0 (T 0 2)) 1 (T 1 2)) 2 (T 2 2)) mi (up (up (up T 0 (up (T 0) 2 (hh 0))) 1 (up (T 1) 2 (hh 1))) 2 (up (T 2) 2 (hh 2))) B hd df)) rfl ?_
  refine mWd (w2 := (XW n vs be de 3 ro (coT 3 T 2 co) mi (clc 3 T 2 hh) B hd df)) rfl ?_
  refine hC _ 1 [] _ _ _ _ _ (c_det_3) rfl rfl (Nat.le_of_ble_eq_true rfl) rfl ?_
  refine mB hT 40 rfl ?_
  refine mNf (lv2 := [(5, .int 2), (3, .long (detX 3 (clc 3 T 2 hh))), (0, .ref 1), (1, .int 2), (2, .ref 26)]) (st2 := [.ref 1]) rfl rfl ?_
  refine mB hT 16 rfl ?_
  exact hR _ (by decide) _ _ _ rfl rfl
theorem c_dwc_3_3_2 {n vs : Int32} {be de : Int64} {ro co mi : Nat → Int64} {T : Nat → Nat → Int64} {B : Nat → Nat → Nat → Int32} {hd : Nat → Nat → Int32} {df : Nat → Int32} : KX1_determinantWithColumn l D ca ad [.ref 1, .int 2, .ref 26] (XW n vs be de 3 ro co mi T B hd df) (some (.long (detX 3 (clT 3 T 2 (hd 3))))) (XW n vs be de 3 ro (coT 3 T 2 co) (miX 3 (clT 3 T 2 (hd 3)) mi) T B hd df) := c_dwh_3_3_2 (fun _ => rfl)
set_option maxRecDepth 20000 in
theorem c_dwh_3_4_0 {n vs : Int32} {be de : Int64} {ro co mi : Nat → Int64} {T : Nat → Nat → Int64} {B : Nat → Nat → Nat → Int32} {hd : Nat → Nat → Int32} {df : Nat → Int32} {hh : Nat → Int64} (hq : ∀ j : Nat, hh j = ((hd 3) j).toInt64) : KX1_determinantWithColumn l D ca ad [.ref 1, .int 0, .ref 26] (XW n vs be de 4 ro co mi T B hd df) (some (.long (detX 4 (clc 4 T 0 hh)))) (XW n vs be de 4 ro (coT 4 T 0 co) (miX 4 (clc 4 T 0 hh) mi) T B hd df) := by
  refine PX1_determinantWithColumn (Nat.le_of_ble_eq_true rfl) ?_
  intro G hT hC hR
  refine mB hT 30 rfl ?_
  refine mNf (lv2 := [(3, .int 0), (0, .ref 1), (1, .int 0), (2, .ref 26)]) (st2 := [.long (hh 0), .int 0, .ref 4]) rfl (by rw [hq 0] <;> rfl) ?_
  refine mB hT 31 rfl ?_
  refine mNf (lv2 := [(3, .int 1), (0, .ref 1), (1, .int 0), (2, .ref 26)]) (st2 := [.long (hh 1), .int 0, .ref 5]) rfl (by rw [hq 1] <;> rfl) ?_
  refine mB hT 31 rfl ?_
  refine mNf (lv2 := [(3, .int 2), (0, .ref 1), (1, .int 0), (2, .ref 26)]) (st2 := [.long (hh 2), .int 0, .ref 6]) rfl (by rw [hq 2] <;> rfl) ?_
  refine mB hT 31 rfl ?_
  refine mNf (lv2 := [(3, .int 3), (0, .ref 1), (1, .int 0), (2, .ref 26)]) (st2 := [.long (hh 3), .int 0, .ref 7]) rfl (by rw [hq 3] <;> rfl) ?_
  refine mB hT 8 rfl ?_
  refine mWd (w2 := (XW n vs be de 4 ro (up (up (up (up co 0 (T 0 0)) 1 (T 1 0)) 2 (T 2 0)) 3 (T 3 0)) mi (up (up (up (up T 0 (up (T 0) 0 (hh 0))) 1 (up (T 1) 0 (hh 1))) 2 (up (T 2) 0 (hh 2))) 3 (up (T 3) 0 (hh 3))) B hd df)) rfl ?_
  refine mWd (w2 := (XW n vs be de 4 ro (coT 4 T 0 co) mi (clc 4 T 0 hh) B hd df)) rfl ?_
  refine hC _ 1 [] _ _ _ _ _ (c_det_4) rfl rfl (Nat.le_of_ble_eq_true rfl) rfl ?_
  refine mB hT 40 rfl ?_
  refine mNf (lv2 := [(5, .int 2), (3, .long (detX 4 (clc 4 T 0 hh))), (0, .ref 1), (1, .int 0), (2, .ref 26)]) (st2 := [.ref 1]) rfl rfl ?_
  refine mB hT 32 rfl ?_
  exact hR _ (by decide) _ _ _ rfl rfl
theorem c_dwc_3_4_0 {n vs : Int32} {be de : Int64} {ro co mi : Nat → Int64} {T : Nat → Nat → Int64} {B : Nat → Nat → Nat → Int32} {hd : Nat → Nat → Int32} {df : Nat → Int32} : KX1_determinantWithColumn l D ca ad [.ref 1, .int 0, .ref 26] (XW n vs be de 4 ro co mi T B hd df) (some (.long (detX 4 (clT 4 T 0 (hd 3))))) (XW n vs be de 4 ro (coT 4 T 0 co) (miX 4 (clT 4 T 0 (hd 3)) mi) T B hd df) := c_dwh_3_4_0 (fun _ => rfl)
set_option maxRecDepth 20000 in
theorem c_dwh_3_4_1 {n vs : Int32} {be de : Int64} {ro co mi : Nat → Int64} {T : Nat → Nat → Int64} {B : Nat → Nat → Nat → Int32} {hd : Nat → Nat → Int32} {df : Nat → Int32} {hh : Nat → Int64} (hq : ∀ j : Nat, hh j = ((hd 3) j).toInt64) : KX1_determinantWithColumn l D ca ad [.ref 1, .int 1, .ref 26] (XW n vs be de 4 ro co mi T B hd df) (some (.long (detX 4 (clc 4 T 1 hh)))) (XW n vs be de 4 ro (coT 4 T 1 co) (miX 4 (clc 4 T 1 hh) mi) T B hd df) := by
  refine PX1_determinantWithColumn (Nat.le_of_ble_eq_true rfl) ?_
  intro G hT hC hR
  refine mB hT 30 rfl ?_
  refine mNf (lv2 := [(3, .int 0), (0, .ref 1), (1, .int 1), (2, .ref 26)]) (st2 := [.long (hh 0), .int 1, .ref 4]) rfl (by rw [hq 0] <;> rfl) ?_
  refine mB hT 31 rfl ?_
  refine mNf (lv2 := [(3, .int 1), (0, .ref 1), (1, .int 1), (2, .ref 26)]) (st2 := [.long (hh 1), .int 1, .ref 5]) rfl (by rw [hq 1] <;> rfl) ?_
  refine mB hT 31 rfl ?_
  refine mNf (lv2 := [(3, .int 2), (0, .ref 1), (1, .int 1), (2, .ref 26)]) (st2 := [.long (hh 2), .int 1, .ref 6]) rfl (by rw [hq 2] <;> rfl) ?_
  refine mB hT 31 rfl ?_
  refine mNf (lv2 := [(3, .int 3), (0, .ref 1), (1, .int 1), (2, .ref 26)]) (st2 := [.long (hh 3), .int 1, .ref 7]) rfl (by rw [hq 3] <;> rfl) ?_
  refine mB hT 8 rfl ?_
  refine mWd (w2 := (XW n vs be de 4 ro (up (up (up (up co 0 (T 0 1)) 1 (T 1 1)) 2 (T 2 1)) 3 (T 3 1)) mi (up (up (up (up T 0 (up (T 0) 1 (hh 0))) 1 (up (T 1) 1 (hh 1))) 2 (up (T 2) 1 (hh 2))) 3 (up (T 3) 1 (hh 3))) B hd df)) rfl ?_
  refine mWd (w2 := (XW n vs be de 4 ro (coT 4 T 1 co) mi (clc 4 T 1 hh) B hd df)) rfl ?_
  refine hC _ 1 [] _ _ _ _ _ (c_det_4) rfl rfl (Nat.le_of_ble_eq_true rfl) rfl ?_
  refine mB hT 40 rfl ?_
  refine mNf (lv2 := [(5, .int 2), (3, .long (detX 4 (clc 4 T 1 hh))), (0, .ref 1), (1, .int 1), (2, .ref 26)]) (st2 := [.ref 1]) rfl rfl ?_
  refine mB hT 32 rfl ?_
  exact hR _ (by decide) _ _ _ rfl rfl
theorem c_dwc_3_4_1 {n vs : Int32} {be de : Int64} {ro co mi : Nat → Int64} {T : Nat → Nat → Int64} {B : Nat → Nat → Nat → Int32} {hd : Nat → Nat → Int32} {df : Nat → Int32} : KX1_determinantWithColumn l D ca ad [.ref 1, .int 1, .ref 26] (XW n vs be de 4 ro co mi T B hd df) (some (.long (detX 4 (clT 4 T 1 (hd 3))))) (XW n vs be de 4 ro (coT 4 T 1 co) (miX 4 (clT 4 T 1 (hd 3)) mi) T B hd df) := c_dwh_3_4_1 (fun _ => rfl)
set_option maxRecDepth 20000 in
theorem c_dwh_3_4_2 {n vs : Int32} {be de : Int64} {ro co mi : Nat → Int64} {T : Nat → Nat → Int64} {B : Nat → Nat → Nat → Int32} {hd : Nat → Nat → Int32} {df : Nat → Int32} {hh : Nat → Int64} (hq : ∀ j : Nat, hh j = ((hd 3) j).toInt64) : KX1_determinantWithColumn l D ca ad [.ref 1, .int 2, .ref 26] (XW n vs be de 4 ro co mi T B hd df) (some (.long (detX 4 (clc 4 T 2 hh)))) (XW n vs be de 4 ro (coT 4 T 2 co) (miX 4 (clc 4 T 2 hh) mi) T B hd df) := by
  refine PX1_determinantWithColumn (Nat.le_of_ble_eq_true rfl) ?_
  intro G hT hC hR
  refine mB hT 30 rfl ?_
  refine mNf (lv2 := [(3, .int 0), (0, .ref 1), (1, .int 2), (2, .ref 26)]) (st2 := [.long (hh 0), .int 2, .ref 4]) rfl (by rw [hq 0] <;> rfl) ?_
  refine mB hT 31 rfl ?_
  refine mNf (lv2 := [(3, .int 1), (0, .ref 1), (1, .int 2), (2, .ref 26)]) (st2 := [.long (hh 1), .int 2, .ref 5]) rfl (by rw [hq 1] <;> rfl) ?_
  refine mB hT 31 rfl ?_
  refine mNf (lv2 := [(3, .int 2), (0, .ref 1), (1, .int 2), (2, .ref 26)]) (st2 := [.long (hh 2), .int 2, .ref 6]) rfl (by rw [hq 2] <;> rfl) ?_
  refine mB hT 31 rfl ?_
  refine mNf (lv2 := [(3, .int 3), (0, .ref 1), (1, .int 2), (2, .ref 26)]) (st2 := [.long (hh 3), .int 2, .ref 7]) rfl (by rw [hq 3] <;> rfl) ?_
  refine mB hT 8 rfl ?_
  refine mWd (w2 := (XW n vs be de 4 ro (up (up (up (up co 0 (T 0 2)) 1 (T 1 2)) 2 (T 2 2)) 3 (T 3 2)) mi (up (up (up (up T 0 (up (T 0) 2 (hh 0))) 1 (up (T 1) 2 (hh 1))) 2 (up (T 2) 2 (hh 2))) 3 (up (T 3) 2 (hh 3))) B hd df)) rfl ?_
  refine mWd (w2 := (XW n vs be de 4 ro (coT 4 T 2 co) mi (clc 4 T 2 hh) B hd df)) rfl ?_
  refine hC _ 1 [] _ _ _ _ _ (c_det_4) rfl rfl (Nat.le_of_ble_eq_true rfl) rfl ?_
  refine mB hT 40 rfl ?_
  refine mNf (lv2 := [(5, .int 2), (3, .long (detX 4 (clc 4 T 2 hh))), (0, .ref 1), (1, .int 2), (2, .ref 26)]) (st2 := [.ref 1]) rfl rfl ?_
  refine mB hT 32 rfl ?_
  exact hR _ (by decide) _ _ _ rfl rfl
theorem c_dwc_3_4_2 {n vs : Int32} {be de : Int64} {ro co mi : Nat → Int64} {T : Nat → Nat → Int64} {B : Nat → Nat → Nat → Int32} {hd : Nat → Nat → Int32} {df : Nat → Int32} : KX1_determinantWithColumn l D ca ad [.ref 1, .int 2, .ref 26] (XW n vs be de 4 ro co mi T B hd df) (some (.long (detX 4 (clT 4 T 2 (hd 3))))) (XW n vs be de 4 ro (coT 4 T 2 co) (miX 4 (clT 4 T 2 (hd 3)) mi) T B hd df) := c_dwh_3_4_2 (fun _ => rfl)
set_option maxRecDepth 20000 in
theorem c_dwh_3_4_3 {n vs : Int32} {be de : Int64} {ro co mi : Nat → Int64} {T : Nat → Nat → Int64} {B : Nat → Nat → Nat → Int32} {hd : Nat → Nat → Int32} {df : Nat → Int32} {hh : Nat → Int64} (hq : ∀ j : Nat, hh j = ((hd 3) j).toInt64) : KX1_determinantWithColumn l D ca ad [.ref 1, .int 3, .ref 26] (XW n vs be de 4 ro co mi T B hd df) (some (.long (detX 4 (clc 4 T 3 hh)))) (XW n vs be de 4 ro (coT 4 T 3 co) (miX 4 (clc 4 T 3 hh) mi) T B hd df) := by
  refine PX1_determinantWithColumn (Nat.le_of_ble_eq_true rfl) ?_
  intro G hT hC hR
  refine mB hT 30 rfl ?_
  refine mNf (lv2 := [(3, .int 0), (0, .ref 1), (1, .int 3), (2, .ref 26)]) (st2 := [.long (hh 0), .int 3, .ref 4]) rfl (by rw [hq 0] <;> rfl) ?_
  refine mB hT 31 rfl ?_
  refine mNf (lv2 := [(3, .int 1), (0, .ref 1), (1, .int 3), (2, .ref 26)]) (st2 := [.long (hh 1), .int 3, .ref 5]) rfl (by rw [hq 1] <;> rfl) ?_
  refine mB hT 31 rfl ?_
  refine mNf (lv2 := [(3, .int 2), (0, .ref 1), (1, .int 3), (2, .ref 26)]) (st2 := [.long (hh 2), .int 3, .ref 6]) rfl (by rw [hq 2] <;> rfl) ?_
  refine mB hT 31 rfl ?_
  refine mNf (lv2 := [(3, .int 3), (0, .ref 1), (1, .int 3), (2, .ref 26)]) (st2 := [.long (hh 3), .int 3, .ref 7]) rfl (by rw [hq 3] <;> rfl) ?_
  refine mB hT 8 rfl ?_
  refine mWd (w2 := (XW n vs be de 4 ro (up (up (up (up co 0 (T 0 3)) 1 (T 1 3)) 2 (T 2 3)) 3 (T 3 3)) mi (up (up (up (up T 0 (up (T 0) 3 (hh 0))) 1 (up (T 1) 3 (hh 1))) 2 (up (T 2) 3 (hh 2))) 3 (up (T 3) 3 (hh 3))) B hd df)) rfl ?_
  refine mWd (w2 := (XW n vs be de 4 ro (coT 4 T 3 co) mi (clc 4 T 3 hh) B hd df)) rfl ?_
  refine hC _ 1 [] _ _ _ _ _ (c_det_4) rfl rfl (Nat.le_of_ble_eq_true rfl) rfl ?_
  refine mB hT 40 rfl ?_
  refine mNf (lv2 := [(5, .int 2), (3, .long (detX 4 (clc 4 T 3 hh))), (0, .ref 1), (1, .int 3), (2, .ref 26)]) (st2 := [.ref 1]) rfl rfl ?_
  refine mB hT 32 rfl ?_
  exact hR _ (by decide) _ _ _ rfl rfl
theorem c_dwc_3_4_3 {n vs : Int32} {be de : Int64} {ro co mi : Nat → Int64} {T : Nat → Nat → Int64} {B : Nat → Nat → Nat → Int32} {hd : Nat → Nat → Int32} {df : Nat → Int32} : KX1_determinantWithColumn l D ca ad [.ref 1, .int 3, .ref 26] (XW n vs be de 4 ro co mi T B hd df) (some (.long (detX 4 (clT 4 T 3 (hd 3))))) (XW n vs be de 4 ro (coT 4 T 3 co) (miX 4 (clT 4 T 3 (hd 3)) mi) T B hd df) := c_dwh_3_4_3 (fun _ => rfl)
set_option maxRecDepth 20000 in
theorem c_dwh_4_1_0 {n vs : Int32} {be de : Int64} {ro co mi : Nat → Int64} {T : Nat → Nat → Int64} {B : Nat → Nat → Nat → Int32} {hd : Nat → Nat → Int32} {df : Nat → Int32} {hh : Nat → Int64} (hq : ∀ j : Nat, hh j = (df j).toInt64) : KX1_determinantWithColumn l D ca ad [.ref 1, .int 0, .ref 27] (XW n vs be de 1 ro co mi T B hd df) (some (.long (detX 1 (clc 1 T 0 hh)))) (XW n vs be de 1 ro (coT 1 T 0 co) (miX 1 (clc 1 T 0 hh) mi) T B hd df) := by
  refine PX1_determinantWithColumn (Nat.le_of_ble_eq_true rfl) ?_
  intro G hT hC hR
  refine mB hT 30 rfl ?_
  refine mNf (lv2 := [(3, .int 0), (0, .ref 1), (1, .int 0), (2, .ref 27)]) (st2 := [.long (hh 0), .int 0, .ref 4]) rfl (by rw [hq 0] <;> rfl) ?_
  refine mB hT 8 rfl ?_
  refine mWd (w2 := (XW n vs be de 1 ro (up co 0 (T 0 0)) mi (up T 0 (up (T 0) 0 (hh 0))) B hd df)) rfl ?_
  refine mWd (w2 := (XW n vs be de 1 ro (coT 1 T 0 co) mi (clc 1 T 0 hh) B hd df)) rfl ?_
  refine hC _ 1 [] _ _ _ _ _ (c_det_1) rfl rfl (Nat.le_of_ble_eq_true rfl) rfl ?_
  refine mB hT 24 rfl ?_
  exact hR _ (by decide) _ _ _ rfl rfl
theorem c_dwc_4_1_0 {n vs : Int32} {be de : Int64} {ro co mi : Nat → Int64} {T : Nat → Nat → Int64} {B : Nat → Nat → Nat → Int32} {hd : Nat → Nat → Int32} {df : Nat → Int32} : KX1_determinantWithColumn l D ca ad [.ref 1, .int 0, .ref 27] (XW n vs be de 1 ro co mi T B hd df) (some (.long (detX 1 (clT 1 T 0 df)))) (XW n vs be de 1 ro (coT 1 T 0 co) (miX 1 (clT 1 T 0 df) mi) T B hd df) := c_dwh_4_1_0 (fun _ => rfl)
set_option maxRecDepth 20000 in
theorem c_dwh_4_2_0 {n vs : Int32} {be de : Int64} {ro co mi : Nat → Int64} {T : Nat → Nat → Int64} {B : Nat → Nat → Nat → Int32} {hd : Nat → Nat → Int32} {df : Nat → Int32} {hh : Nat → Int64} (hq : ∀ j : Nat, hh j = (df j).toInt64) : KX1_determinantWithColumn l D ca ad [.ref 1, .int 0, .ref 27] (XW n vs be de 2 ro co mi T B hd df) (some (.long (detX 2 (clc 2 T 0 hh)))) (XW n vs be de 2 ro (coT 2 T 0 co) (miX 2 (clc 2 T 0 hh) mi) T B hd df) := by
  refine PX1_determinantWithColumn (Nat.le_of_ble_eq_true rfl) ?_
  intro G hT hC hR
  refine mB hT 30 rfl ?_
  refine mNf (lv2 := [(3, .int 0), (0, .ref 1), (1, .int 0), (2, .ref 27)]) (st2 := [.long (hh 0), .int 0, .ref 4]) rfl (by rw [hq 0] <;> rfl) ?_
  refine mB hT 31 rfl ?_
  refine mNf (lv2 := [(3, .int 1), (0, .ref 1), (1, .int 0), (2, .ref 27)]) (st2 := [.long (hh 1), .int 0, .ref 5]) rfl (by rw [hq 1] <;> rfl) ?_
  refine mB hT 8 rfl ?_
  refine mWd (w2 := (XW n vs be de 2 ro (up (up co 0 (T 0 0)) 1 (T 1 0)) mi (up (up T 0 (up (T 0) 0 (hh 0))) 1 (up (T 1) 0 (hh 1))) B hd df)) rfl ?_
  refine mWd (w2 := (XW n vs be de 2 ro (coT 2 T 0 co) mi (clc 2 T 0 hh) B hd df)) rfl ?_
  refine hC _ 1 [] _ _ _ _ _ (c_det_2) rfl rfl (Nat.le_of_ble_eq_true rfl) rfl ?_
  refine mB hT 40 rfl ?_
  refine mNf (lv2 := [(5, .int 2), (3, .long (detX 2 (clc 2 T 0 hh))), (0, .ref 1), (1, .int 0), (2, .ref 27)]) (st2 := [.long (detX 2 (clc 2 T 0 hh))]) rfl rfl ?_
  exact hR _ (by decide) _ _ _ rfl rfl
theorem c_dwc_4_2_0 {n vs : Int32} {be de : Int64} {ro co mi : Nat → Int64} {T : Nat → Nat → Int64} {B : Nat → Nat → Nat → Int32} {hd : Nat → Nat → Int32} {df : Nat → Int32} : KX1_determinantWithColumn l D ca ad [.ref 1, .int 0, .ref 27] (XW n vs be de 2 ro co mi T B hd df) (some (.long (detX 2 (clT 2 T 0 df)))) (XW n vs be de 2 ro (coT 2 T 0 co) (miX 2 (clT 2 T 0 df) mi) T B hd df) := c_dwh_4_2_0 (fun _ => rfl)
set_option maxRecDepth 20000 in
theorem c_dwh_4_2_1 {n vs : Int32} {be de : Int64} {ro co mi : Nat → Int64} {T : Nat → Nat → Int64} {B : Nat → Nat → Nat → Int32} {hd : Nat → Nat → Int32} {df : Nat → Int32} {hh : Nat → Int64} (hq : ∀ j : Nat, hh j = (df j).toInt64) : KX1_determinantWithColumn l D ca ad [.ref 1, .int 1, .ref 27] (XW n vs be de 2 ro co mi T B hd df) (some (.long (detX 2 (clc 2 T 1 hh)))) (XW n vs be de 2 ro (coT 2 T 1 co) (miX 2 (clc 2 T 1 hh) mi) T B hd df) := by
  refine PX1_determinantWithColumn (Nat.le_of_ble_eq_true rfl) ?_
  intro G hT hC hR
  refine mB hT 30 rfl ?_
  refine mNf (lv2 := [(3, .int 0), (0, .ref 1), (1, .int 1), (2, .ref 27)]) (st2 := [.long (hh 0), .int 1, .ref 4]) rfl (by rw [hq 0] <;> rfl) ?_
  refine mB hT 31 rfl ?_
  refine mNf (lv2 := [(3, .int 1), (0, .ref 1), (1, .int 1), (2, .ref 27)]) (st2 := [.long (hh 1), .int 1, .ref 5]) rfl (by rw [hq 1] <;> rfl) ?_
  refine mB hT 8 rfl ?_
  refine mWd (w2 := (XW n vs be de 2 ro (up (up co 0 (T 0 1)) 1 (T 1 1)) mi (up (up T 0 (up (T 0) 1 (hh 0))) 1 (up (T 1) 1 (hh 1))) B hd df)) rfl ?_
  refine mWd (w2 := (XW n vs be de 2 ro (coT 2 T 1 co) mi (clc 2 T 1 hh) B hd df)) rfl ?_
  refine hC _ 1 [] _ _ _ _ _ (c_det_2) rfl rfl (Nat.le_of_ble_eq_true rfl) rfl ?_
  refine mB hT 40 rfl ?_
  refine mNf (lv2 := [(5, .int 2), (3, .long (detX 2 (clc 2 T 1 hh))), (0, .ref 1), (1, .int 1), (2, .ref 27)]) (st2 := [.long (detX 2 (clc 2 T 1 hh))]) rfl rfl ?_
  exact hR _ (by decide) _ _ _ rfl rfl
theorem c_dwc_4_2_1 {n vs : Int32} {be de : Int64} {ro co mi : Nat → Int64} {T : Nat → Nat → Int64} {B : Nat → Nat → Nat → Int32} {hd : Nat → Nat → Int32} {df : Nat → Int32} : KX1_determinantWithColumn l D ca ad [.ref 1, .int 1, .ref 27] (XW n vs be de 2 ro co mi T B hd df) (some (.long (detX 2 (clT 2 T 1 df)))) (XW n vs be de 2 ro (coT 2 T 1 co) (miX 2 (clT 2 T 1 df) mi) T B hd df) := c_dwh_4_2_1 (fun _ => rfl)
set_option maxRecDepth 20000 in
theorem c_dwh_4_3_0 {n vs : Int32} {be de : Int64} {ro co mi : Nat → Int64} {T : Nat → Nat → Int64} {B : Nat → Nat → Nat → Int32} {hd : Nat → Nat → Int32} {df : Nat → Int32} {hh : Nat → Int64} (hq : ∀ j : Nat, hh j = (df j).toInt64) : KX1_determinantWithColumn l D ca ad [.ref 1, .int 0, .ref 27] (XW n vs be de 3 ro co mi T B hd df) (some (.long (detX 3 (clc 3 T 0 hh)))) (XW n vs be de 3 ro (coT 3 T 0 co) (miX 3 (clc 3 T 0 hh) mi) T B hd df) := by
  refine PX1_determinantWithColumn (Nat.le_of_ble_eq_true rfl) ?_
  intro G hT hC hR
  refine mB hT 30 rfl ?_
  refine mNf (lv2 := [(3, .int 0), (0, .ref 1), (1, .int 0), (2, .ref 27)]) (st2 := [.long (hh 0), .int 0, .ref 4]) rfl (by rw [hq 0] <;> rfl) ?_
  refine mB hT 31 rfl ?_
  refine mNf (lv2 := [(3, .int 1), (0, .ref 1), (1, .int 0), (2, .ref 27)]) (st2 := [.long (hh 1), .int 0, .ref 5]) rfl (by rw [hq 1] <;> rfl) ?_
  refine mB hT 31 rfl ?_
  refine mNf (lv2 := [(3, .int 2), (0, .ref 1), (1, .int 0), (2, .ref 27)]) (st2 := [.long (hh 2), .int 0, .ref 6]) rfl (by rw [hq 2] <;> rfl) ?_
  refine mB hT 8 rfl ?_
  refine mWd (w2 := (XW n vs be de 3 ro (up (up (up co 0 (T 0 0)) 1 (T 1 0)) 2 (T 2 0)) mi (up (up (up T 0 (up (T 0) 0 (hh 0))) 1 (up (T 1) 0 (hh 1))) 2 (up (T 2) 0 (hh 2))) B hd df)) rfl ?_
  refine mWd (w2 := (XW n vs be de 3 ro (coT 3 T 0 co) mi (clc 3 T 0 hh) B hd df)) rfl ?_
  refine hC _ 1 [] _ _ _ _ _ (c_det_3) rfl rfl (Nat.le_of_ble_eq_true rfl) rfl ?_
  refine mB hT 40 rfl ?_
  refine mNf (lv2 := [(5, .int 2), (3, .long (detX 3 (clc 3 T 0 hh))), (0, .ref 1), (1, .int 0), (2, .ref 27)]) (st2 := [.ref 1]) rfl rfl ?_
  refine mB hT 16 rfl ?_
  exact hR _ (by decide) _ _ _ rfl rfl
theorem c_dwc_4_3_0 {n vs : Int32} {be de : Int64} {ro co mi : Nat → Int64} {T : Nat → Nat → Int64} {B : Nat → Nat → Nat → Int32} {hd : Nat → Nat → Int32} {df : Nat → Int32} : KX1_determinantWithColumn l D ca ad [.ref 1, .int 0, .ref 27] (XW n vs be de 3 ro co mi T B hd df) (some (.long (detX 3 (clT 3 T 0 df)))) (XW n vs be de 3 ro (coT 3 T 0 co) (miX 3 (clT 3 T 0 df) mi) T B hd df) := c_dwh_4_3_0 (fun _ => rfl)
set_option maxRecDepth 20000 in
theorem c_dwh_4_3_1 {n vs : Int32} {be de : Int64} {ro co mi : Nat → Int64} {T : Nat → Nat → Int64} {B : Nat → Nat → Nat → Int32} {hd : Nat → Nat → Int32} {df : Nat → Int32} {hh : Nat → Int64} (hq : ∀ j : Nat, hh j = (df j).toInt64) : KX1_determinantWithColumn l D ca ad [.ref 1, .int 1, .ref 27] (XW n vs be de 3 ro co mi T B hd df) (some (.long (detX 3 (clc 3 T 1 hh)))) (XW n vs be de 3 ro (coT 3 T 1 co) (miX 3 (clc 3 T 1 hh) mi) T B hd df) := by
  refine PX1_determinantWithColumn (Nat.le_of_ble_eq_true rfl) ?_
  intro G hT hC hR
  refine mB hT 30 rfl ?_
  refine mNf (lv2 := [(3, .int 0), (0, .ref 1), (1, .int 1), (2, .ref 27)]) (st2 := [.long (hh 0), .int 1, .ref 4]) rfl (by rw [hq 0] <;> rfl) ?_
  refine mB hT 31 rfl ?_
  refine mNf (lv2 := [(3, .int 1), (0, .ref 1), (1, .int 1), (2, .ref 27)]) (st2 := [.long (hh 1), .int 1, .ref 5]) rfl (by rw [hq 1] <;> rfl) ?_
  refine mB hT 31 rfl ?_
  refine mNf (lv2 := [(3, .int 2), (0, .ref 1), (1, .int 1), (2, .ref 27)]) (st2 := [.long (hh 2), .int 1, .ref 6]) rfl (by rw [hq 2] <;> rfl) ?_
  refine mB hT 8 rfl ?_
  refine mWd (w2 := (XW n vs be de 3 ro (up (up (up co 0 (T 0 1)) 1 (T 1 1)) 2 (T 2 1)) mi (up (up (up T 0 (up (T 0) 1 (hh 0))) 1 (up (T 1) 1 (hh 1))) 2 (up (T 2) 1 (hh 2))) B hd df)) rfl ?_
  refine mWd (w2 := (XW n vs be de 3 ro (coT 3 T 1 co) mi (clc 3 T 1 hh) B hd df)) rfl ?_
  refine hC _ 1 [] _ _ _ _ _ (c_det_3) rfl rfl (Nat.le_of_ble_eq_true rfl) rfl ?_
  refine mB hT 40 rfl ?_
  refine mNf (lv2 := [(5, .int 2), (3, .long (detX 3 (clc 3 T 1 hh))), (0, .ref 1), (1, .int 1), (2, .ref 27)]) (st2 := [.ref 1]) rfl rfl ?_
  refine mB hT 16 rfl ?_
  exact hR _ (by decide) _ _ _ rfl rfl
theorem c_dwc_4_3_1 {n vs : Int32} {be de : Int64} {ro co mi : Nat → Int64} {T : Nat → Nat → Int64} {B : Nat → Nat → Nat → Int32} {hd : Nat → Nat → Int32} {df : Nat → Int32} : KX1_determinantWithColumn l D ca ad [.ref 1, .int 1, .ref 27] (XW n vs be de 3 ro co mi T B hd df) (some (.long (detX 3 (clT 3 T 1 df)))) (XW n vs be de 3 ro (coT 3 T 1 co) (miX 3 (clT 3 T 1 df) mi) T B hd df) := c_dwh_4_3_1 (fun _ => rfl)
set_option maxRecDepth 20000 in
theorem c_dwh_4_3_2 {n vs : Int32} {be de : Int64} {ro co mi : Nat → Int64} {T : Nat → Nat → Int64} {B : Nat → Nat → Nat → Int32} {hd : Nat → Nat → Int32} {df : Nat → Int32} {hh : Nat → Int64} (hq : ∀ j : Nat, hh j = (df j).toInt64) : KX1_determinantWithColumn l D ca ad [.ref 1, .int 2, .ref 27] (XW n vs be de 3 ro co mi T B hd df) (some (.long (detX 3 (clc 3 T 2 hh)))) (XW n vs be de 3 ro (coT 3 T 2 co) (miX 3 (clc 3 T 2 hh) mi) T B hd df) := by
  refine PX1_determinantWithColumn (Nat.le_of_ble_eq_true rfl) ?_
  intro G hT hC hR
  refine mB hT 30 rfl ?_
  refine mNf (lv2 := [(3, .int 0), (0, .ref 1), (1, .int 2), (2, .ref 27)]) (st2 := [.long (hh 0), .int 2, .ref 4]) rfl (by rw [hq 0] <;> rfl) ?_
  refine mB hT 31 rfl ?_
  refine mNf (lv2 := [(3, .int 1), (0, .ref 1), (1, .int 2), (2, .ref 27)]) (st2 := [.long (hh 1), .int 2, .ref 5]) rfl (by rw [hq 1] <;> rfl) ?_
  refine mB hT 31 rfl ?_
  refine mNf (lv2 := [(3, .int 2), (0, .ref 1), (1, .int 2), (2, .ref 27)]) (st2 := [.long (hh 2), .int 2, .ref 6]) rfl (by rw [hq 2] <;> rfl) ?_
  refine mB hT 8 rfl ?_
  refine mWd (w2 := (XW n vs be de 3 ro (up (up (up co 0 (T 0 2)) 1 (T 1 2)) 2 (T 2 2)) mi (up (up (up T 0 (up (T 0) 2 (hh 0))) 1 (up (T 1) 2 (hh 1))) 2 (up (T 2) 2 (hh 2))) B hd df)) rfl ?_
  refine mWd (w2 := (XW n vs be de 3 ro (coT 3 T 2 co) mi (clc 3 T 2 hh) B hd df)) rfl ?_
  refine hC _ 1 [] _ _ _ _ _ (c_det_3) rfl rfl (Nat.le_of_ble_eq_true rfl) rfl ?_
  refine mB hT 40 rfl ?_
  refine mNf (lv2 := [(5, .int 2), (3, .long (detX 3 (clc 3 T 2 hh))), (0, .ref 1), (1, .int 2), (2, .ref 27)]) (st2 := [.ref 1]) rfl rfl ?_
  refine mB hT 16 rfl ?_
  exact hR _ (by decide) _ _ _ rfl rfl
theorem c_dwc_4_3_2 {n vs : Int32} {be de : Int64} {ro co mi : Nat → Int64} {T : Nat → Nat → Int64} {B : Nat → Nat → Nat → Int32} {hd : Nat → Nat → Int32} {df : Nat → Int32} : KX1_determinantWithColumn l D ca ad [.ref 1, .int 2, .ref 27] (XW n vs be de 3 ro co mi T B hd df) (some (.long (detX 3 (clT 3 T 2 df)))) (XW n vs be de 3 ro (coT 3 T 2 co) (miX 3 (clT 3 T 2 df) mi) T B hd df) := c_dwh_4_3_2 (fun _ => rfl)
set_option maxRecDepth 20000 in
theorem c_dwh_4_4_0 {n vs : Int32} {be de : Int64} {ro co mi : Nat → Int64} {T : Nat → Nat → Int64} {B : Nat → Nat → Nat → Int32} {hd : Nat → Nat → Int32} {df : Nat → Int32} {hh : Nat → Int64} (hq : ∀ j : Nat, hh j = (df j).toInt64) : KX1_determinantWithColumn l D ca ad [.ref 1, .int 0, .ref 27] (XW n vs be de 4 ro co mi T B hd df) (some (.long (detX 4 (clc 4 T 0 hh)))) (XW n vs be de 4 ro (coT 4 T 0 co) (miX 4 (clc 4 T 0 hh) mi) T B hd df) := by
  refine PX1_determinantWithColumn (Nat.le_of_ble_eq_true rfl) ?_
  intro G hT hC hR
  refine mB hT 30 rfl ?_
  refine mNf (lv2 := [(3, .int 0), (0, .ref 1), (1, .int 0), (2, .ref 27)]) (st2 := [.long (hh 0), .int 0, .ref 4]) rfl (by rw [hq 0] <;> rfl) ?_
  refine mB hT 31 rfl ?_
  refine mNf (lv2 := [(3, .int 1), (0, .ref 1), (1, .int 0), (2, .ref 27)]) (st2 := [.long (hh 1), .int 0, .ref 5]) rfl (by rw [hq 1] <;> rfl) ?_
  refine mB hT 31 rfl ?_
  refine mNf (lv2 := [(3, .int 2), (0, .ref 1), (1, .int 0), (2, .ref 27)]) (st2 := [.long (hh 2), .int 0, .ref 6]) rfl (by rw [hq 2] <;> rfl) ?_
  refine mB hT 31 rfl ?_
  refine mNf (lv2 := [(3, .int 3), (0, .ref 1), (1, .int 0), (2, .ref 27)]) (st2 := [.long (hh 3), .int 0, .ref 7]) rfl (by rw [hq 3] <;> rfl) ?_
  refine mB hT 8 rfl ?_
  refine mWd (w2 := (XW n vs be de 4 ro (up (up (up (up co 0 (T 0 0)) 1 (T 1 0)) 2 (T 2 0)) 3 (T 3 0)) mi (up (up (up (up T 0 (up (T 0) 0 (hh 0))) 1 (up (T 1) 0 (hh 1))) 2 (up (T 2) 0 (hh 2))) 3 (up (T 3) 0 (hh 3))) B hd df)) rfl ?_
  refine mWd (w2 := (XW n vs be de 4 ro (coT 4 T 0 co) mi (clc 4 T 0 hh) B hd df)) rfl ?_
  refine hC _ 1 [] _ _ _ _ _ (c_det_4) rfl rfl (Nat.le_of_ble_eq_true rfl) rfl ?_
  refine mB hT 40 rfl ?_
  refine mNf (lv2 := [(5, .int 2), (3, .long (detX 4 (clc 4 T 0 hh))), (0, .ref 1), (1, .int 0), (2, .ref 27)]) (st2 := [.ref 1]) rfl rfl ?_
  refine mB hT 32 rfl ?_
  exact hR _ (by decide) _ _ _ rfl rfl
theorem c_dwc_4_4_0 {n vs : Int32} {be de : Int64} {ro co mi : Nat → Int64} {T : Nat → Nat → Int64} {B : Nat → Nat → Nat → Int32} {hd : Nat → Nat → Int32} {df : Nat → Int32} : KX1_determinantWithColumn l D ca ad [.ref 1, .int 0, .ref 27] (XW n vs be de 4 ro co mi T B hd df) (some (.long (detX 4 (clT 4 T 0 df)))) (XW n vs be de 4 ro (coT 4 T 0 co) (miX 4 (clT 4 T 0 df) mi) T B hd df) := c_dwh_4_4_0 (fun _ => rfl)
set_option maxRecDepth 20000 in
theorem c_dwh_4_4_1 {n vs : Int32} {be de : Int64} {ro co mi : Nat → Int64} {T : Nat → Nat → Int64} {B : Nat → Nat → Nat → Int32} {hd : Nat → Nat → Int32} {df : Nat → Int32} {hh : Nat → Int64} (hq : ∀ j : Nat, hh j = (df j).toInt64) : KX1_determinantWithColumn l D ca ad [.ref 1, .int 1, .ref 27] (XW n vs be de 4 ro co mi T B hd df) (some (.long (detX 4 (clc 4 T 1 hh)))) (XW n vs be de 4 ro (coT 4 T 1 co) (miX 4 (clc 4 T 1 hh) mi) T B hd df) := by
  refine PX1_determinantWithColumn (Nat.le_of_ble_eq_true rfl) ?_
  intro G hT hC hR
  refine mB hT 30 rfl ?_
  refine mNf (lv2 := [(3, .int 0), (0, .ref 1), (1, .int 1), (2, .ref 27)]) (st2 := [.long (hh 0), .int 1, .ref 4]) rfl (by rw [hq 0] <;> rfl) ?_
  refine mB hT 31 rfl ?_
  refine mNf (lv2 := [(3, .int 1), (0, .ref 1), (1, .int 1), (2, .ref 27)]) (st2 := [.long (hh 1), .int 1, .ref 5]) rfl (by rw [hq 1] <;> rfl) ?_
  refine mB hT 31 rfl ?_
  refine mNf (lv2 := [(3, .int 2), (0, .ref 1), (1, .int 1), (2, .ref 27)]) (st2 := [.long (hh 2), .int 1, .ref 6]) rfl (by rw [hq 2] <;> rfl) ?_
  refine mB hT 31 rfl ?_
  refine mNf (lv2 := [(3, .int 3), (0, .ref 1), (1, .int 1), (2, .ref 27)]) (st2 := [.long (hh 3), .int 1, .ref 7]) rfl (by rw [hq 3] <;> rfl) ?_
  refine mB hT 8 rfl ?_
  refine mWd (w2 := (XW n vs be de 4 ro (up (up (up (up co 0 (T 0 1)) 1 (T 1 1)) 2 (T 2 1)) 3 (T 3 1)) mi (up (up (up (up T 0 (up (T 0) 1 (hh 0))) 1 (up (T 1) 1 (hh 1))) 2 (up (T 2) 1 (hh 2))) 3 (up (T 3) 1 (hh 3))) B hd df)) rfl ?_
  refine mWd (w2 := (XW n vs be de 4 ro (coT 4 T 1 co) mi (clc 4 T 1 hh) B hd df)) rfl ?_
  refine hC _ 1 [] _ _ _ _ _ (c_det_4) rfl rfl (Nat.le_of_ble_eq_true rfl) rfl ?_
  refine mB hT 40 rfl ?_
  refine mNf (lv2 := [(5, .int 2), (3, .long (detX 4 (clc 4 T 1 hh))), (0, .ref 1), (1, .int 1), (2, .ref 27)]) (st2 := [.ref 1]) rfl rfl ?_
  refine mB hT 32 rfl ?_
  exact hR _ (by decide) _ _ _ rfl rfl
theorem c_dwc_4_4_1 {n vs : Int32} {be de : Int64} {ro co mi : Nat → Int64} {T : Nat → Nat → Int64} {B : Nat → Nat → Nat → Int32} {hd : Nat → Nat → Int32} {df : Nat → Int32} : KX1_determinantWithColumn l D ca ad [.ref 1, .int 1, .ref 27] (XW n vs be de 4 ro co mi T B hd df) (some (.long (detX 4 (clT 4 T 1 df)))) (XW n vs be de 4 ro (coT 4 T 1 co) (miX 4 (clT 4 T 1 df) mi) T B hd df) := c_dwh_4_4_1 (fun _ => rfl)
set_option maxRecDepth 20000 in
theorem c_dwh_4_4_2 {n vs : Int32} {be de : Int64} {ro co mi : Nat → Int64} {T : Nat → Nat → Int64} {B : Nat → Nat → Nat → Int32} {hd : Nat → Nat → Int32} {df : Nat → Int32} {hh : Nat → Int64} (hq : ∀ j : Nat, hh j = (df j).toInt64) : KX1_determinantWithColumn l D ca ad [.ref 1, .int 2, .ref 27] (XW n vs be de 4 ro co mi T B hd df) (some (.long (detX 4 (clc 4 T 2 hh)))) (XW n vs be de 4 ro (coT 4 T 2 co) (miX 4 (clc 4 T 2 hh) mi) T B hd df) := by
  refine PX1_determinantWithColumn (Nat.le_of_ble_eq_true rfl) ?_
  intro G hT hC hR
  refine mB hT 30 rfl ?_
  refine mNf (lv2 := [(3, .int 0), (0, .ref 1), (1, .int 2), (2, .ref 27)]) (st2 := [.long (hh 0), .int 2, .ref 4]) rfl (by rw [hq 0] <;> rfl) ?_
  refine mB hT 31 rfl ?_
  refine mNf (lv2 := [(3, .int 1), (0, .ref 1), (1, .int 2), (2, .ref 27)]) (st2 := [.long (hh 1), .int 2, .ref 5]) rfl (by rw [hq 1] <;> rfl) ?_
  refine mB hT 31 rfl ?_
  refine mNf (lv2 := [(3, .int 2), (0, .ref 1), (1, .int 2), (2, .ref 27)]) (st2 := [.long (hh 2), .int 2, .ref 6]) rfl (by rw [hq 2] <;> rfl) ?_
  refine mB hT 31 rfl ?_
  refine mNf (lv2 := [(3, .int 3), (0, .ref 1), (1, .int 2), (2, .ref 27)]) (st2 := [.long (hh 3), .int 2, .ref 7]) rfl (by rw [hq 3] <;> rfl) ?_
  refine mB hT 8 rfl ?_
  refine mWd (w2 := (XW n vs be de 4 ro (up (up (up (up co 0 (T 0 2)) 1 (T 1 2)) 2 (T 2 2)) 3 (T 3 2)) mi (up (up (up (up T 0 (up (T 0) 2 (hh 0))) 1 (up (T 1) 2 (hh 1))) 2 (up (T 2) 2 (hh 2))) 3 (up (T 3) 2 (hh 3))) B hd df)) rfl ?_
  refine mWd (w2 := (XW n vs be de 4 ro (coT 4 T 2 co) mi (clc 4 T 2 hh) B hd df)) rfl ?_
  refine hC _ 1 [] _ _ _ _ _ (c_det_4) rfl rfl (Nat.le_of_ble_eq_true rfl) rfl ?_
  refine mB hT 40 rfl ?_
  refine mNf (lv2 := [(5, .int 2), (3, .long (detX 4 (clc 4 T 2 hh))), (0, .ref 1), (1, .int 2), (2, .ref 27)]) (st2 := [.ref 1]) rfl rfl ?_
  refine mB hT 32 rfl ?_
  exact hR _ (by decide) _ _ _ rfl rfl
theorem c_dwc_4_4_2 {n vs : Int32} {be de : Int64} {ro co mi : Nat → Int64} {T : Nat → Nat → Int64} {B : Nat → Nat → Nat → Int32} {hd : Nat → Nat → Int32} {df : Nat → Int32} : KX1_determinantWithColumn l D ca ad [.ref 1, .int 2, .ref 27] (XW n vs be de 4 ro co mi T B hd df) (some (.long (detX 4 (clT 4 T 2 df)))) (XW n vs be de 4 ro (coT 4 T 2 co) (miX 4 (clT 4 T 2 df) mi) T B hd df) := c_dwh_4_4_2 (fun _ => rfl)
set_option maxRecDepth 20000 in
theorem c_dwh_4_4_3 {n vs : Int32} {be de : Int64} {ro co mi : Nat → Int64} {T : Nat → Nat → Int64} {B : Nat → Nat → Nat → Int32} {hd : Nat → Nat → Int32} {df : Nat → Int32} {hh : Nat → Int64} (hq : ∀ j : Nat, hh j = (df j).toInt64) : KX1_determinantWithColumn l D ca ad [.ref 1, .int 3, .ref 27] (XW n vs be de 4 ro co mi T B hd df) (some (.long (detX 4 (clc 4 T 3 hh)))) (XW n vs be de 4 ro (coT 4 T 3 co) (miX 4 (clc 4 T 3 hh) mi) T B hd df) := by
  refine PX1_determinantWithColumn (Nat.le_of_ble_eq_true rfl) ?_
  intro G hT hC hR
  refine mB hT 30 rfl ?_
  refine mNf (lv2 := [(3, .int 0), (0, .ref 1), (1, .int 3), (2, .ref 27)]) (st2 := [.long (hh 0), .int 3, .ref 4]) rfl (by rw [hq 0] <;> rfl) ?_
  refine mB hT 31 rfl ?_
  refine mNf (lv2 := [(3, .int 1), (0, .ref 1), (1, .int 3), (2, .ref 27)]) (st2 := [.long (hh 1), .int 3, .ref 5]) rfl (by rw [hq 1] <;> rfl) ?_
  refine mB hT 31 rfl ?_
  refine mNf (lv2 := [(3, .int 2), (0, .ref 1), (1, .int 3), (2, .ref 27)]) (st2 := [.long (hh 2), .int 3, .ref 6]) rfl (by rw [hq 2] <;> rfl) ?_
  refine mB hT 31 rfl ?_
  refine mNf (lv2 := [(3, .int 3), (0, .ref 1), (1, .int 3), (2, .ref 27)]) (st2 := [.long (hh 3), .int 3, .ref 7]) rfl (by rw [hq 3] <;> rfl) ?_
  refine mB hT 8 rfl ?_
  refine mWd (w2 := (XW n vs be de 4 ro (up (up (up (up co 0 (T 0 3)) 1 (T 1 3)) 2 (T 2 3)) 3 (T 3 3)) mi (up (up (up (up T 0 (up (T 0) 3 (hh 0))) 1 (up (T 1) 3 (hh 1))) 2 (up (T 2) 3 (hh 2))) 3 (up (T 3) 3 (hh 3))) B hd df)) rfl ?_
  refine mWd (w2 := (XW n vs be de 4 ro (coT 4 T 3 co) mi (clc 4 T 3 hh) B hd df)) rfl ?_
  refine hC _ 1 [] _ _ _ _ _ (c_det_4) rfl rfl (Nat.le_of_ble_eq_true rfl) rfl ?_
  refine mB hT 40 rfl ?_
  refine mNf (lv2 := [(5, .int 2), (3, .long (detX 4 (clc 4 T 3 hh))), (0, .ref 1), (1, .int 3), (2, .ref 27)]) (st2 := [.ref 1]) rfl rfl ?_
  refine mB hT 32 rfl ?_
  exact hR _ (by decide) _ _ _ rfl rfl
theorem c_dwc_4_4_3 {n vs : Int32} {be de : Int64} {ro co mi : Nat → Int64} {T : Nat → Nat → Int64} {B : Nat → Nat → Nat → Int32} {hd : Nat → Nat → Int32} {df : Nat → Int32} : KX1_determinantWithColumn l D ca ad [.ref 1, .int 3, .ref 27] (XW n vs be de 4 ro co mi T B hd df) (some (.long (detX 4 (clT 4 T 3 df)))) (XW n vs be de 4 ro (coT 4 T 3 co) (miX 4 (clT 4 T 3 df) mi) T B hd df) := c_dwh_4_4_3 (fun _ => rfl)
end
