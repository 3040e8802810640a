section
variable {l : Launch} {D : va_G} {ca : Nat → ClassId} {ad : Nat → Nat}

set_option maxRecDepth 20000 in
theorem c_min_0 {w : mW} : KJ9_min_7cf53 l D ca ad [.int 0, .int 4] w (some (.int 0)) w := by
  refine PJ9_min_7cf53 (Nat.le_of_ble_eq_true rfl) ?_
  intro G hT hC hR
  refine mB hT 5 rfl ?_
  exact hR _ (by decide) _ _ _ rfl rfl
set_option maxRecDepth 20000 in
theorem c_min_1 {w : mW} : KJ9_min_7cf53 l D ca ad [.int 1, .int 4] w (some (.int 1)) w := by
  refine PJ9_min_7cf53 (Nat.le_of_ble_eq_true rfl) ?_
  intro G hT hC hR
  refine mB hT 5 rfl ?_
  exact hR _ (by decide) _ _ _ rfl rfl
set_option maxRecDepth 20000 in
theorem c_min_2 {w : mW} : KJ9_min_7cf53 l D ca ad [.int 2, .int 4] w (some (.int 2)) w := by
  refine PJ9_min_7cf53 (Nat.le_of_ble_eq_true rfl) ?_
  intro G hT hC hR
  refine mB hT 5 rfl ?_
  exact hR _ (by decide) _ _ _ rfl rfl
set_option maxRecDepth 20000 in
theorem c_min_3 {w : mW} : KJ9_min_7cf53 l D ca ad [.int 3, .int 4] w (some (.int 3)) w := by
  refine PJ9_min_7cf53 (Nat.le_of_ble_eq_true rfl) ?_
  intro G hT hC hR
  refine mB hT 5 rfl ?_
  exact hR _ (by decide) _ _ _ rfl rfl
set_option maxRecDepth 20000 in
theorem c_min_4 {w : mW} : KJ9_min_7cf53 l D ca ad [.int 4, .int 4] w (some (.int 4)) w := by
  refine PJ9_min_7cf53 (Nat.le_of_ble_eq_true rfl) ?_
  intro G hT hC hR
  refine mB hT 5 rfl ?_
  exact hR _ (by decide) _ _ _ rfl rfl
set_option maxRecDepth 20000 in
theorem c_bitCount_0 {w : mW} : KJ6_bitCount_0f7a4 l D ca ad [.int 0] w (some (.int 0)) w := by
  refine PJ6_bitCount_0f7a4 (Nat.le_of_ble_eq_true rfl) ?_
  intro G hT hC hR
  refine mB hT 40 rfl ?_
  refine mNf (lv2 := [(0, .int 0)]) (st2 := [.int 63, .int 0]) rfl rfl ?_
  refine mB hT 1 rfl ?_
  exact hR _ (by decide) _ _ _ rfl rfl
set_option maxRecDepth 20000 in
theorem c_bitCount_1 {w : mW} : KJ6_bitCount_0f7a4 l D ca ad [.int 1] w (some (.int 1)) w := by
  refine PJ6_bitCount_0f7a4 (Nat.le_of_ble_eq_true rfl) ?_
  intro G hT hC hR
  refine mB hT 40 rfl ?_
  refine mNf (lv2 := [(0, .int 1)]) (st2 := [.int 63, .int 1]) rfl rfl ?_
  refine mB hT 1 rfl ?_
  exact hR _ (by decide) _ _ _ rfl rfl
set_option maxRecDepth 20000 in
theorem c_bitCount_2 {w : mW} : KJ6_bitCount_0f7a4 l D ca ad [.int 2] w (some (.int 1)) w := by
  refine PJ6_bitCount_0f7a4 (Nat.le_of_ble_eq_true rfl) ?_
  intro G hT hC hR
  refine mB hT 40 rfl ?_
  refine mNf (lv2 := [(0, .int 1)]) (st2 := [.int 63, .int 1]) rfl rfl ?_
  refine mB hT 1 rfl ?_
  exact hR _ (by decide) _ _ _ rfl rfl
set_option maxRecDepth 20000 in
theorem c_bitCount_3 {w : mW} : KJ6_bitCount_0f7a4 l D ca ad [.int 3] w (some (.int 2)) w := by
  refine PJ6_bitCount_0f7a4 (Nat.le_of_ble_eq_true rfl) ?_
  intro G hT hC hR
  refine mB hT 40 rfl ?_
  refine mNf (lv2 := [(0, .int 2)]) (st2 := [.int 63, .int 2]) rfl rfl ?_
  refine mB hT 1 rfl ?_
  exact hR _ (by decide) _ _ _ rfl rfl
set_option maxRecDepth 20000 in
theorem c_bitCount_4 {w : mW} : KJ6_bitCount_0f7a4 l D ca ad [.int 4] w (some (.int 1)) w := by
  refine PJ6_bitCount_0f7a4 (Nat.le_of_ble_eq_true rfl) ?_
  intro G hT hC hR
  refine mB hT 40 rfl ?_
  refine mNf (lv2 := [(0, .int 1)]) (st2 := [.int 63, .int 1]) rfl rfl ?_
  refine mB hT 1 rfl ?_
  exact hR _ (by decide) _ _ _ rfl rfl
set_option maxRecDepth 20000 in
theorem c_bitCount_5 {w : mW} : KJ6_bitCount_0f7a4 l D ca ad [.int 5] w (some (.int 2)) w := by
  refine PJ6_bitCount_0f7a4 (Nat.le_of_ble_eq_true rfl) ?_
  intro G hT hC hR
  refine mB hT 40 rfl ?_
  refine mNf (lv2 := [(0, .int 2)]) (st2 := [.int 63, .int 2]) rfl rfl ?_
  refine mB hT 1 rfl ?_
  exact hR _ (by decide) _ _ _ rfl rfl
set_option maxRecDepth 20000 in
theorem c_bitCount_6 {w : mW} : KJ6_bitCount_0f7a4 l D ca ad [.int 6] w (some (.int 2)) w := by
  refine PJ6_bitCount_0f7a4 (Nat.le_of_ble_eq_true rfl) ?_
  intro G hT hC hR
  refine mB hT 40 rfl ?_
  refine mNf (lv2 := [(0, .int 2)]) (st2 := [.int 63, .int 2]) rfl rfl ?_
  refine mB hT 1 rfl ?_
  exact hR _ (by decide) _ _ _ rfl rfl
set_option maxRecDepth 20000 in
theorem c_bitCount_7 {w : mW} : KJ6_bitCount_0f7a4 l D ca ad [.int 7] w (some (.int 3)) w := by
  refine PJ6_bitCount_0f7a4 (Nat.le_of_ble_eq_true rfl) ?_
  intro G hT hC hR
  refine mB hT 40 rfl ?_
  refine mNf (lv2 := [(0, .int 3)]) (st2 := [.int 63, .int 3]) rfl rfl ?_
  refine mB hT 1 rfl ?_
  exact hR _ (by decide) _ _ _ rfl rfl
set_option maxRecDepth 20000 in
theorem c_bitCount_8 {w : mW} : KJ6_bitCount_0f7a4 l D ca ad [.int 8] w (some (.int 1)) w := by
  refine PJ6_bitCount_0f7a4 (Nat.le_of_ble_eq_true rfl) ?_
  intro G hT hC hR
  refine mB hT 40 rfl ?_
  refine mNf (lv2 := [(0, .int 1)]) (st2 := [.int 63, .int 1]) rfl rfl ?_
  refine mB hT 1 rfl ?_
  exact hR _ (by decide) _ _ _ rfl rfl
set_option maxRecDepth 20000 in
theorem c_bitCount_9 {w : mW} : KJ6_bitCount_0f7a4 l D ca ad [.int 9] w (some (.int 2)) w := by
  refine PJ6_bitCount_0f7a4 (Nat.le_of_ble_eq_true rfl) ?_
  intro G hT hC hR
  refine mB hT 40 rfl ?_
  refine mNf (lv2 := [(0, .int 2)]) (st2 := [.int 63, .int 2]) rfl rfl ?_
  refine mB hT 1 rfl ?_
  exact hR _ (by decide) _ _ _ rfl rfl
set_option maxRecDepth 20000 in
theorem c_bitCount_10 {w : mW} : KJ6_bitCount_0f7a4 l D ca ad [.int 10] w (some (.int 2)) w := by
  refine PJ6_bitCount_0f7a4 (Nat.le_of_ble_eq_true rfl) ?_
  intro G hT hC hR
  refine mB hT 40 rfl ?_
  refine mNf (lv2 := [(0, .int 2)]) (st2 := [.int 63, .int 2]) rfl rfl ?_
  refine mB hT 1 rfl ?_
  exact hR _ (by decide) _ _ _ rfl rfl
set_option maxRecDepth 20000 in
theorem c_bitCount_11 {w : mW} : KJ6_bitCount_0f7a4 l D ca ad [.int 11] w (some (.int 3)) w := by
  refine PJ6_bitCount_0f7a4 (Nat.le_of_ble_eq_true rfl) ?_
  intro G hT hC hR
  refine mB hT 40 rfl ?_
  refine mNf (lv2 := [(0, .int 3)]) (st2 := [.int 63, .int 3]) rfl rfl ?_
  refine mB hT 1 rfl ?_
  exact hR _ (by decide) _ _ _ rfl rfl
set_option maxRecDepth 20000 in
theorem c_bitCount_12 {w : mW} : KJ6_bitCount_0f7a4 l D ca ad [.int 12] w (some (.int 2)) w := by
  refine PJ6_bitCount_0f7a4 (Nat.le_of_ble_eq_true rfl) ?_
  intro G hT hC hR
  refine mB hT 40 rfl ?_
  refine mNf (lv2 := [(0, .int 2)]) (st2 := [.int 63, .int 2]) rfl rfl ?_
  refine mB hT 1 rfl ?_
  exact hR _ (by decide) _ _ _ rfl rfl
set_option maxRecDepth 20000 in
theorem c_bitCount_13 {w : mW} : KJ6_bitCount_0f7a4 l D ca ad [.int 13] w (some (.int 3)) w := by
  refine PJ6_bitCount_0f7a4 (Nat.le_of_ble_eq_true rfl) ?_
  intro G hT hC hR
  refine mB hT 40 rfl ?_
  refine mNf (lv2 := [(0, .int 3)]) (st2 := [.int 63, .int 3]) rfl rfl ?_
  refine mB hT 1 rfl ?_
  exact hR _ (by decide) _ _ _ rfl rfl
set_option maxRecDepth 20000 in
theorem c_bitCount_14 {w : mW} : KJ6_bitCount_0f7a4 l D ca ad [.int 14] w (some (.int 3)) w := by
  refine PJ6_bitCount_0f7a4 (Nat.le_of_ble_eq_true rfl) ?_
  intro G hT hC hR
  refine mB hT 40 rfl ?_
  refine mNf (lv2 := [(0, .int 3)]) (st2 := [.int 63, .int 3]) rfl rfl ?_
  refine mB hT 1 rfl ?_
  exact hR _ (by decide) _ _ _ rfl rfl
set_option maxRecDepth 20000 in
theorem c_bitCount_15 {w : mW} : KJ6_bitCount_0f7a4 l D ca ad [.int 15] w (some (.int 4)) w := by
  refine PJ6_bitCount_0f7a4 (Nat.le_of_ble_eq_true rfl) ?_
  intro G hT hC hR
  refine mB hT 40 rfl ?_
  refine mNf (lv2 := [(0, .int 4)]) (st2 := [.int 63, .int 4]) rfl rfl ?_
  refine mB hT 1 rfl ?_
  exact hR _ (by decide) _ _ _ rfl rfl
set_option maxRecDepth 20000 in
theorem c_abs {w : mW} (x : Int64) : KJ9_abs_067f4 l D ca ad [.long x] w (some (.long (absX x))) w := by
  refine PJ9_abs_067f4 (Nat.le_of_ble_eq_true rfl) ?_
  intro G hT hC hR
  refine mB hT 4 rfl ?_
  refine mIf (fun h1 => ?_) (fun h1 => ?_)
  · refine mB hT 1 rfl ?_
    exact hR _ (by decide) _ _ _ (congrArg (fun z => [Value.long z]) (if_neg (Int64.not_lt.mpr (lc_ge.mp h1))).symm) rfl
  · refine mB hT 3 rfl ?_
    exact hR _ (by decide) _ _ _ (congrArg (fun z => [Value.long z]) (if_pos (Int64.not_le.mp (fun q => h1 (lc_ge.mpr q)))).symm) rfl
set_option maxRecDepth 20000 in
theorem c_hasBy_0 {n vs : Int32} {be de : Int64} {sz : Int32} {ro co mi : Nat → Int64} {T : Nat → Nat → Int64} {B : Nat → Nat → Nat → Int32} {hd : Nat → Nat → Int32} {df : Nat → Int32} : KX0_hasByProducts l D ca ad [.ref 10, .int 0] (XW n vs be de sz ro co mi T B hd df) (some (.int (hbX (B 6 0)))) (XW n vs be de sz ro co mi T B hd df) := by
  refine PX0_hasByProducts (Nat.le_of_ble_eq_true rfl) (hbX_01 _) ?_
  intro G hT hC hR
  refine mB hT 14 rfl ?_
  refine mIf (fun h1 => ?_) (fun h1 => ?_)
  · refine mB hT 14 rfl ?_
    refine mIf (fun h2 => ?_) (fun h2 => ?_)
    · refine mNf (lv2 := [(2, .int 1), (0, .ref 10), (1, .int 0)]) (st2 := []) rfl rfl ?_
      refine mB hT 14 rfl ?_
      refine mIf (fun h3 => ?_) (fun h3 => ?_)
      · refine mB hT 14 rfl ?_
        refine mIf (fun h4 => ?_) (fun h4 => ?_)
        · refine mNf (lv2 := [(2, .int 3), (0, .ref 10), (1, .int 0)]) (st2 := []) rfl rfl ?_
          refine mB hT 6 rfl ?_
          exact hR _ (by decide) _ _ _ (by unfold hbX; simp only [h_npos h1, h_npos h2, h_npos h3, h_npos h4, if_true, if_false]; rfl) rfl
        · refine mNf (lv2 := [(2, .int 3), (0, .ref 10), (1, .int 0)]) (st2 := []) rfl rfl ?_
          refine mB hT 1 rfl ?_
          exact hR _ (by decide) _ _ _ (by unfold hbX; simp only [h_npos h1, h_npos h2, h_npos h3, h_pos h4, if_true, if_false]; rfl) rfl
      · refine mB hT 1 rfl ?_
        exact hR _ (by decide) _ _ _ (by unfold hbX; simp only [h_npos h1, h_npos h2, h_pos h3, if_true, if_false]; rfl) rfl
    · refine mNf (lv2 := [(2, .int 1), (0, .ref 10), (1, .int 0)]) (st2 := []) rfl rfl ?_
      refine mB hT 1 rfl ?_
      exact hR _ (by decide) _ _ _ (by unfold hbX; simp only [h_npos h1, h_pos h2, if_true, if_false]; rfl) rfl
  · refine mB hT 1 rfl ?_
    exact hR _ (by decide) _ _ _ (by unfold hbX; simp only [h_pos h1, if_true, if_false]; rfl) rfl
set_option maxRecDepth 20000 in
theorem c_hasBy_1 {n vs : Int32} {be de : Int64} {sz : Int32} {ro co mi : Nat → Int64} {T : Nat → Nat → Int64} {B : Nat → Nat → Nat → Int32} {hd : Nat → Nat → Int32} {df : Nat → Int32} : KX0_hasByProducts l D ca ad [.ref 10, .int 1] (XW n vs be de sz ro co mi T B hd df) (some (.int (hbX (B 6 1)))) (XW n vs be de sz ro co mi T B hd df) := by
  refine PX0_hasByProducts (Nat.le_of_ble_eq_true rfl) (hbX_01 _) ?_
  intro G hT hC hR
  refine mB hT 14 rfl ?_
  refine mIf (fun h1 => ?_) (fun h1 => ?_)
  · refine mB hT 14 rfl ?_
    refine mIf (fun h2 => ?_) (fun h2 => ?_)
    · refine mNf (lv2 := [(2, .int 1), (0, .ref 10), (1, .int 1)]) (st2 := []) rfl rfl ?_
      refine mB hT 14 rfl ?_
      refine mIf (fun h3 => ?_) (fun h3 => ?_)
      · refine mB hT 14 rfl ?_
        refine mIf (fun h4 => ?_) (fun h4 => ?_)
        · refine mNf (lv2 := [(2, .int 3), (0, .ref 10), (1, .int 1)]) (st2 := []) rfl rfl ?_
          refine mB hT 6 rfl ?_
          exact hR _ (by decide) _ _ _ (by unfold hbX; simp only [h_npos h1, h_npos h2, h_npos h3, h_npos h4, if_true, if_false]; rfl) rfl
        · refine mNf (lv2 := [(2, .int 3), (0, .ref 10), (1, .int 1)]) (st2 := []) rfl rfl ?_
          refine mB hT 1 rfl ?_
          exact hR _ (by decide) _ _ _ (by unfold hbX; simp only [h_npos h1, h_npos h2, h_npos h3, h_pos h4, if_true, if_false]; rfl) rfl
      · refine mB hT 1 rfl ?_
        exact hR _ (by decide) _ _ _ (by unfold hbX; simp only [h_npos h1, h_npos h2, h_pos h3, if_true, if_false]; rfl) rfl
    · refine mNf (lv2 := [(2, .int 1), (0, .ref 10), (1, .int 1)]) (st2 := []) rfl rfl ?_
      refine mB hT 1 rfl ?_
      exact hR _ (by decide) _ _ _ (by unfold hbX; simp only [h_npos h1, h_pos h2, if_true, if_false]; rfl) rfl
  · refine mB hT 1 rfl ?_
    exact hR _ (by decide) _ _ _ (by unfold hbX; simp only [h_pos h1, if_true, if_false]; rfl) rfl
set_option maxRecDepth 20000 in
theorem c_hasBy_2 {n vs : Int32} {be de : Int64} {sz : Int32} {ro co mi : Nat → Int64} {T : Nat → Nat → Int64} {B : Nat → Nat → Nat → Int32} {hd : Nat → Nat → Int32} {df : Nat → Int32} : KX0_hasByProducts l D ca ad [.ref 10, .int 2] (XW n vs be de sz ro co mi T B hd df) (some (.int (hbX (B 6 2)))) (XW n vs be de sz ro co mi T B hd df) := by
  refine PX0_hasByProducts (Nat.le_of_ble_eq_true rfl) (hbX_01 _) ?_
  intro G hT hC hR
  refine mB hT 14 rfl ?_
  refine mIf (fun h1 => ?_) (fun h1 => ?_)
  · refine mB hT 14 rfl ?_
    refine mIf (fun h2 => ?_) (fun h2 => ?_)
    · refine mNf (lv2 := [(2, .int 1), (0, .ref 10), (1, .int 2)]) (st2 := []) rfl rfl ?_
      refine mB hT 14 rfl ?_
      refine mIf (fun h3 => ?_) (fun h3 => ?_)
      · refine mB hT 14 rfl ?_
        refine mIf (fun h4 => ?_) (fun h4 => ?_)
        · refine mNf (lv2 := [(2, .int 3), (0, .ref 10), (1, .int 2)]) (st2 := []) rfl rfl ?_
          refine mB hT 6 rfl ?_
          exact hR _ (by decide) _ _ _ (by unfold hbX; simp only [h_npos h1, h_npos h2, h_npos h3, h_npos h4, if_true, if_false]; rfl) rfl
        · refine mNf (lv2 := [(2, .int 3), (0, .ref 10), (1, .int 2)]) (st2 := []) rfl rfl ?_
          refine mB hT 1 rfl ?_
          exact hR _ (by decide) _ _ _ (by unfold hbX; simp only [h_npos h1, h_npos h2, h_npos h3, h_pos h4, if_true, if_false]; rfl) rfl
      · refine mB hT 1 rfl ?_
        exact hR _ (by decide) _ _ _ (by unfold hbX; simp only [h_npos h1, h_npos h2, h_pos h3, if_true, if_false]; rfl) rfl
    · refine mNf (lv2 := [(2, .int 1), (0, .ref 10), (1, .int 2)]) (st2 := []) rfl rfl ?_
      refine mB hT 1 rfl ?_
      exact hR _ (by decide) _ _ _ (by unfold hbX; simp only [h_npos h1, h_pos h2, if_true, if_false]; rfl) rfl
  · refine mB hT 1 rfl ?_
    exact hR _ (by decide) _ _ _ (by unfold hbX; simp only [h_pos h1, if_true, if_false]; rfl) rfl
set_option maxRecDepth 20000 in
theorem c_hasBy_3 {n vs : Int32} {be de : Int64} {sz : Int32} {ro co mi : Nat → Int64} {T : Nat → Nat → Int64} {B : Nat → Nat → Nat → Int32} {hd : Nat → Nat → Int32} {df : Nat → Int32} : KX0_hasByProducts l D ca ad [.ref 10, .int 3] (XW n vs be de sz ro co mi T B hd df) (some (.int (hbX (B 6 3)))) (XW n vs be de sz ro co mi T B hd df) := by
  refine PX0_hasByProducts (Nat.le_of_ble_eq_true rfl) (hbX_01 _) ?_
  intro G hT hC hR
  refine mB hT 14 rfl ?_
  refine mIf (fun h1 => ?_) (fun h1 => ?_)
  · refine mB hT 14 rfl ?_
    refine mIf (fun h2 => ?_) (fun h2 => ?_)
    · refine mNf (lv2 := [(2, .int 1), (0, .ref 10), (1, .int 3)]) (st2 := []) rfl rfl ?_
      refine mB hT 14 rfl ?_
      refine mIf (fun h3 => ?_) (fun h3 => ?_)
      · refine mB hT 14 rfl ?_
        refine mIf (fun h4 => ?_) (fun h4 => ?_)
        · refine mNf (lv2 := [(2, .int 3), (0, .ref 10), (1, .int 3)]) (st2 := []) rfl rfl ?_
          refine mB hT 6 rfl ?_
          exact hR _ (by decide) _ _ _ (by unfold hbX; simp only [h_npos h1, h_npos h2, h_npos h3, h_npos h4, if_true, if_false]; rfl) rfl
        · refine mNf (lv2 := [(2, .int 3), (0, .ref 10), (1, .int 3)]) (st2 := []) rfl rfl ?_
          refine mB hT 1 rfl ?_
          exact hR _ (by decide) _ _ _ (by unfold hbX; simp only [h_npos h1, h_npos h2, h_npos h3, h_pos h4, if_true, if_false]; rfl) rfl
      · refine mB hT 1 rfl ?_
        exact hR _ (by decide) _ _ _ (by unfold hbX; simp only [h_npos h1, h_npos h2, h_pos h3, if_true, if_false]; rfl) rfl
    · refine mNf (lv2 := [(2, .int 1), (0, .ref 10), (1, .int 3)]) (st2 := []) rfl rfl ?_
      refine mB hT 1 rfl ?_
      exact hR _ (by decide) _ _ _ (by unfold hbX; simp only [h_npos h1, h_pos h2, if_true, if_false]; rfl) rfl
  · refine mB hT 1 rfl ?_
    exact hR _ (by decide) _ _ _ (by unfold hbX; simp only [h_pos h1, if_true, if_false]; rfl) rfl
set_option maxRecDepth 20000 in
theorem c_weigh_0 {n vs : Int32} {be de : Int64} {sz : Int32} {ro co mi : Nat → Int64} {T : Nat → Nat → Int64} {B : Nat → Nat → Nat → Int32} {hd : Nat → Nat → Int32} {df : Nat → Int32} : KX0_weighRow l D ca ad [.ref 10, .int 0] (XW n vs be de sz ro co mi T B hd df) none (XW n vs be de sz ro co mi T (up B 6 (wrow (B 6) 0)) hd df) := by
  refine PX0_weighRow (Nat.le_of_ble_eq_true rfl) ?_
  intro G hT hC hR
  refine mB hT 10 rfl ?_
  refine mIf (fun h1 => ?_) (fun h1 => ?_)
  · refine mB hT 8 rfl ?_
    exact hR _ (by decide) _ _ _ rfl (by simp only [wrow, mainX, allX, msX, if_pos h1]; rfl)
  · refine mB hT 5 rfl ?_
    refine mIf (fun h2 => ?_) (fun h2 => ?_)
    · refine mB hT 40 rfl ?_
      refine mNf (lv2 := [(5, .int 1), (4, .int (((B 6 0 0) * (B 6 0 22)) + ((B 6 0 8) * (B 6 0 22)))), (3, .int 22), (2, .ref 12), (0, .ref 10), (1, .int 0)]) (st2 := [.int 1]) rfl rfl ?_
      refine mB hT 40 rfl ?_
      refine mNf (lv2 := [(5, .int 3), (4, .int (((((B 6 0 0) * (B 6 0 22)) + ((B 6 0 8) * (B 6 0 22))) + ((B 6 0 9) * (B 6 1 22))) + ((B 6 0 10) * (B 6 2 22)))), (3, .int 22), (2, .ref 12), (0, .ref 10), (1, .int 0)]) (st2 := [.int 3]) rfl rfl ?_
      refine mB hT 26 rfl ?_
      exact hR _ (by decide) _ _ _ rfl (by simp only [wrow, mainX, allX, msX, if_neg h1, if_pos h2]; rfl)
    · refine mB hT 40 rfl ?_
      refine mNf (lv2 := [(5, .int 1), (4, .int (((B 6 0 0) * (B 6 0 21)) + ((B 6 0 8) * (B 6 0 21)))), (3, .int 21), (2, .ref 12), (0, .ref 10), (1, .int 0)]) (st2 := [.int 4, .int 1]) rfl rfl ?_
      refine mB hT 40 rfl ?_
      refine mNf (lv2 := [(5, .int 3), (4, .int (((((B 6 0 0) * (B 6 0 21)) + ((B 6 0 8) * (B 6 0 21))) + ((B 6 0 9) * (B 6 1 21))) + ((B 6 0 10) * (B 6 2 21)))), (3, .int 21), (2, .ref 12), (0, .ref 10), (1, .int 0)]) (st2 := [.int 4, .int 3]) rfl rfl ?_
      refine mB hT 25 rfl ?_
      exact hR _ (by decide) _ _ _ rfl (by simp only [wrow, mainX, allX, msX, if_neg h1, if_neg h2]; rfl)
set_option maxRecDepth 20000 in
theorem c_weigh_1 {n vs : Int32} {be de : Int64} {sz : Int32} {ro co mi : Nat → Int64} {T : Nat → Nat → Int64} {B : Nat → Nat → Nat → Int32} {hd : Nat → Nat → Int32} {df : Nat → Int32} : KX0_weighRow l D ca ad [.ref 10, .int 1] (XW n vs be de sz ro co mi T B hd df) none (XW n vs be de sz ro co mi T (up B 6 (wrow (B 6) 1)) hd df) := by
  refine PX0_weighRow (Nat.le_of_ble_eq_true rfl) ?_
  intro G hT hC hR
  refine mB hT 10 rfl ?_
  refine mIf (fun h1 => ?_) (fun h1 => ?_)
  · refine mB hT 8 rfl ?_
    exact hR _ (by decide) _ _ _ rfl (by simp only [wrow, mainX, allX, msX, if_pos h1]; rfl)
  · refine mB hT 5 rfl ?_
    refine mIf (fun h2 => ?_) (fun h2 => ?_)
    · refine mB hT 40 rfl ?_
      refine mNf (lv2 := [(5, .int 1), (4, .int (((B 6 1 0) * (B 6 1 22)) + ((B 6 1 8) * (B 6 0 22)))), (3, .int 22), (2, .ref 13), (0, .ref 10), (1, .int 1)]) (st2 := [.int 1]) rfl rfl ?_
      refine mB hT 40 rfl ?_
      refine mNf (lv2 := [(5, .int 3), (4, .int (((((B 6 1 0) * (B 6 1 22)) + ((B 6 1 8) * (B 6 0 22))) + ((B 6 1 9) * (B 6 1 22))) + ((B 6 1 10) * (B 6 2 22)))), (3, .int 22), (2, .ref 13), (0, .ref 10), (1, .int 1)]) (st2 := [.int 3]) rfl rfl ?_
      refine mB hT 26 rfl ?_
      exact hR _ (by decide) _ _ _ rfl (by simp only [wrow, mainX, allX, msX, if_neg h1, if_pos h2]; rfl)
    · refine mB hT 40 rfl ?_
      refine mNf (lv2 := [(5, .int 1), (4, .int (((B 6 1 0) * (B 6 1 21)) + ((B 6 1 8) * (B 6 0 21)))), (3, .int 21), (2, .ref 13), (0, .ref 10), (1, .int 1)]) (st2 := [.int 4, .int 1]) rfl rfl ?_
      refine mB hT 40 rfl ?_
      refine mNf (lv2 := [(5, .int 3), (4, .int (((((B 6 1 0) * (B 6 1 21)) + ((B 6 1 8) * (B 6 0 21))) + ((B 6 1 9) * (B 6 1 21))) + ((B 6 1 10) * (B 6 2 21)))), (3, .int 21), (2, .ref 13), (0, .ref 10), (1, .int 1)]) (st2 := [.int 4, .int 3]) rfl rfl ?_
      refine mB hT 25 rfl ?_
      exact hR _ (by decide) _ _ _ rfl (by simp only [wrow, mainX, allX, msX, if_neg h1, if_neg h2]; rfl)
set_option maxRecDepth 20000 in
theorem c_weigh_2 {n vs : Int32} {be de : Int64} {sz : Int32} {ro co mi : Nat → Int64} {T : Nat → Nat → Int64} {B : Nat → Nat → Nat → Int32} {hd : Nat → Nat → Int32} {df : Nat → Int32} : KX0_weighRow l D ca ad [.ref 10, .int 2] (XW n vs be de sz ro co mi T B hd df) none (XW n vs be de sz ro co mi T (up B 6 (wrow (B 6) 2)) hd df) := by
  refine PX0_weighRow (Nat.le_of_ble_eq_true rfl) ?_
  intro G hT hC hR
  refine mB hT 10 rfl ?_
  refine mIf (fun h1 => ?_) (fun h1 => ?_)
  · refine mB hT 8 rfl ?_
    exact hR _ (by decide) _ _ _ rfl (by simp only [wrow, mainX, allX, msX, if_pos h1]; rfl)
  · refine mB hT 5 rfl ?_
    refine mIf (fun h2 => ?_) (fun h2 => ?_)
    · refine mB hT 40 rfl ?_
      refine mNf (lv2 := [(5, .int 1), (4, .int (((B 6 2 0) * (B 6 2 22)) + ((B 6 2 8) * (B 6 0 22)))), (3, .int 22), (2, .ref 14), (0, .ref 10), (1, .int 2)]) (st2 := [.int 1]) rfl rfl ?_
      refine mB hT 40 rfl ?_
      refine mNf (lv2 := [(5, .int 3), (4, .int (((((B 6 2 0) * (B 6 2 22)) + ((B 6 2 8) * (B 6 0 22))) + ((B 6 2 9) * (B 6 1 22))) + ((B 6 2 10) * (B 6 2 22)))), (3, .int 22), (2, .ref 14), (0, .ref 10), (1, .int 2)]) (st2 := [.int 3]) rfl rfl ?_
      refine mB hT 26 rfl ?_
      exact hR _ (by decide) _ _ _ rfl (by simp only [wrow, mainX, allX, msX, if_neg h1, if_pos h2]; rfl)
    · refine mB hT 40 rfl ?_
      refine mNf (lv2 := [(5, .int 1), (4, .int (((B 6 2 0) * (B 6 2 21)) + ((B 6 2 8) * (B 6 0 21)))), (3, .int 21), (2, .ref 14), (0, .ref 10), (1, .int 2)]) (st2 := [.int 4, .int 1]) rfl rfl ?_
      refine mB hT 40 rfl ?_
      refine mNf (lv2 := [(5, .int 3), (4, .int (((((B 6 2 0) * (B 6 2 21)) + ((B 6 2 8) * (B 6 0 21))) + ((B 6 2 9) * (B 6 1 21))) + ((B 6 2 10) * (B 6 2 21)))), (3, .int 21), (2, .ref 14), (0, .ref 10), (1, .int 2)]) (st2 := [.int 4, .int 3]) rfl rfl ?_
      refine mB hT 25 rfl ?_
      exact hR _ (by decide) _ _ _ rfl (by simp only [wrow, mainX, allX, msX, if_neg h1, if_neg h2]; rfl)
set_option maxRecDepth 20000 in
theorem c_weigh_3 {n vs : Int32} {be de : Int64} {sz : Int32} {ro co mi : Nat → Int64} {T : Nat → Nat → Int64} {B : Nat → Nat → Nat → Int32} {hd : Nat → Nat → Int32} {df : Nat → Int32} : KX0_weighRow l D ca ad [.ref 10, .int 3] (XW n vs be de sz ro co mi T B hd df) none (XW n vs be de sz ro co mi T (up B 6 (wrow (B 6) 3)) hd df) := by
  refine PX0_weighRow (Nat.le_of_ble_eq_true rfl) ?_
  intro G hT hC hR
  refine mB hT 10 rfl ?_
  refine mIf (fun h1 => ?_) (fun h1 => ?_)
  · refine mB hT 8 rfl ?_
    exact hR _ (by decide) _ _ _ rfl (by simp only [wrow, mainX, allX, msX, if_pos h1]; rfl)
  · refine mB hT 5 rfl ?_
    refine mIf (fun h2 => ?_) (fun h2 => ?_)
    · refine mB hT 40 rfl ?_
      refine mNf (lv2 := [(5, .int 1), (4, .int (((B 6 3 0) * (B 6 3 22)) + ((B 6 3 8) * (B 6 0 22)))), (3, .int 22), (2, .ref 15), (0, .ref 10), (1, .int 3)]) (st2 := [.int 1]) rfl rfl ?_
      refine mB hT 40 rfl ?_
      refine mNf (lv2 := [(5, .int 3), (4, .int (((((B 6 3 0) * (B 6 3 22)) + ((B 6 3 8) * (B 6 0 22))) + ((B 6 3 9) * (B 6 1 22))) + ((B 6 3 10) * (B 6 2 22)))), (3, .int 22), (2, .ref 15), (0, .ref 10), (1, .int 3)]) (st2 := [.int 3]) rfl rfl ?_
      refine mB hT 26 rfl ?_
      exact hR _ (by decide) _ _ _ rfl (by simp only [wrow, mainX, allX, msX, if_neg h1, if_pos h2]; rfl)
    · refine mB hT 40 rfl ?_
      refine mNf (lv2 := [(5, .int 1), (4, .int (((B 6 3 0) * (B 6 3 21)) + ((B 6 3 8) * (B 6 0 21)))), (3, .int 21), (2, .ref 15), (0, .ref 10), (1, .int 3)]) (st2 := [.int 4, .int 1]) rfl rfl ?_
      refine mB hT 40 rfl ?_
      refine mNf (lv2 := [(5, .int 3), (4, .int (((((B 6 3 0) * (B 6 3 21)) + ((B 6 3 8) * (B 6 0 21))) + ((B 6 3 9) * (B 6 1 21))) + ((B 6 3 10) * (B 6 2 21)))), (3, .int 21), (2, .ref 15), (0, .ref 10), (1, .int 3)]) (st2 := [.int 4, .int 3]) rfl rfl ?_
      refine mB hT 25 rfl ?_
      exact hR _ (by decide) _ _ _ rfl (by simp only [wrow, mainX, allX, msX, if_neg h1, if_neg h2]; rfl)
theorem c_change_on {G : mS → Prop} (hT : mTb G tbX0_change) (hC : CFX0_change l D ca ad G) {n vs : Int32} {be de : Int64} {sz : Int32} {ro co mi : Nat → Int64} {T : Nat → Nat → Int64} {B : Nat → Nat → Nat → Int32} {hd : Nat → Nat → Int32} {df : Nat → Int32} {rows : Nat → Nat → Int32} {i what : Nat} {old v : Int32} (hR : mRet G (some (.int old)) (XW n vs be de sz ro co mi T (up B 6 (wrow (wrow (wrow (wrow rows 0) 1) 2) 3)) hd df) [42]) : G (19, (4, .int old) :: mdrop1 (lv_args 0 [.ref 10, .int (Int32.ofNat i), .int (Int32.ofNat what), .int v]) 4, [], (XW n vs be de sz ro co mi T (up B 6 rows) hd df)) := by
  refine mB hT 7 rfl ?_
  refine hC _ 10 [_] _ _ _ _ _ (show KX0_weighRow l D ca ad _ (XW n vs be de sz ro co mi T (up B 6 rows) hd df) none (XW n vs be de sz ro co mi T (up B 6 (wrow rows 0)) hd df) from (c_weigh_0 (B := up B 6 rows))) rfl rfl (Nat.le_of_ble_eq_true rfl) rfl ?_
  refine mB hT 7 rfl ?_
  refine hC _ 10 [_] _ _ _ _ _ (show KX0_weighRow l D ca ad _ (XW n vs be de sz ro co mi T (up B 6 (wrow rows 0)) hd df) none (XW n vs be de sz ro co mi T (up B 6 (wrow (wrow rows 0) 1)) hd df) from (c_weigh_1 (B := up B 6 (wrow rows 0)))) rfl rfl (Nat.le_of_ble_eq_true rfl) rfl ?_
  refine mB hT 7 rfl ?_
  refine hC _ 10 [_] _ _ _ _ _ (show KX0_weighRow l D ca ad _ (XW n vs be de sz ro co mi T (up B 6 (wrow (wrow rows 0) 1)) hd df) none (XW n vs be de sz ro co mi T (up B 6 (wrow (wrow (wrow rows 0) 1) 2)) hd df) from (c_weigh_2 (B := up B 6 (wrow (wrow rows 0) 1)))) rfl rfl (Nat.le_of_ble_eq_true rfl) rfl ?_
  refine mB hT 7 rfl ?_
  refine hC _ 10 [_] _ _ _ _ _ (show KX0_weighRow l D ca ad _ (XW n vs be de sz ro co mi T (up B 6 (wrow (wrow (wrow rows 0) 1) 2)) hd df) none (XW n vs be de sz ro co mi T (up B 6 (wrow (wrow (wrow (wrow rows 0) 1) 2) 3)) hd df) from (c_weigh_3 (B := up B 6 (wrow (wrow (wrow rows 0) 1) 2)))) rfl rfl (Nat.le_of_ble_eq_true rfl) rfl ?_
  refine mB hT 6 rfl ?_
  exact hR _ (by decide) _ _ _ rfl rfl
set_option maxRecDepth 20000 in
theorem c_change_0_0 {n vs : Int32} {be de : Int64} {sz : Int32} {ro co mi : Nat → Int64} {T : Nat → Nat → Int64} {B : Nat → Nat → Nat → Int32} {hd : Nat → Nat → Int32} {df : Nat → Int32} (v : Int32) : KX0_change l D ca ad [.ref 10, .int 0, .int 0, .int v] (XW n vs be de sz ro co mi T B hd df) (some (.int (B 6 0 0))) (XW n vs be de sz ro co mi T (up B 6 (chX (B 6) 0 0 v)) hd df) := by
  refine PX0_change (Nat.le_of_ble_eq_true rfl) ?_
  intro G hT hC hR
  refine mB hT 14 rfl ?_
  refine mWd (w2 := (XW n vs be de sz ro co mi T (up B 6 (up (B 6) 0 (up (B 6 0) 0 v))) hd df)) rfl ?_
  exact c_change_on (i := 0) (what := 0) (v := v) hT hC hR
set_option maxRecDepth 20000 in
theorem c_change_0_1 {n vs : Int32} {be de : Int64} {sz : Int32} {ro co mi : Nat → Int64} {T : Nat → Nat → Int64} {B : Nat → Nat → Nat → Int32} {hd : Nat → Nat → Int32} {df : Nat → Int32} (v : Int32) : KX0_change l D ca ad [.ref 10, .int 0, .int 1, .int v] (XW n vs be de sz ro co mi T B hd df) (some (.int (B 6 0 1))) (XW n vs be de sz ro co mi T (up B 6 (chX (B 6) 0 1 v)) hd df) := by
  refine PX0_change (Nat.le_of_ble_eq_true rfl) ?_
  intro G hT hC hR
  refine mB hT 14 rfl ?_
  refine mWd (w2 := (XW n vs be de sz ro co mi T (up B 6 (up (B 6) 0 (up (B 6 0) 1 v))) hd df)) rfl ?_
  exact c_change_on (i := 0) (what := 1) (v := v) hT hC hR
set_option maxRecDepth 20000 in
theorem c_change_0_4 {n vs : Int32} {be de : Int64} {sz : Int32} {ro co mi : Nat → Int64} {T : Nat → Nat → Int64} {B : Nat → Nat → Nat → Int32} {hd : Nat → Nat → Int32} {df : Nat → Int32} (v : Int32) : KX0_change l D ca ad [.ref 10, .int 0, .int 4, .int v] (XW n vs be de sz ro co mi T B hd df) (some (.int (B 6 0 4))) (XW n vs be de sz ro co mi T (up B 6 (chX (B 6) 0 4 v)) hd df) := by
  refine PX0_change (Nat.le_of_ble_eq_true rfl) ?_
  intro G hT hC hR
  refine mB hT 14 rfl ?_
  refine mWd (w2 := (XW n vs be de sz ro co mi T (up B 6 (up (B 6) 0 (up (B 6 0) 4 v))) hd df)) rfl ?_
  exact c_change_on (i := 0) (what := 4) (v := v) hT hC hR
set_option maxRecDepth 20000 in
theorem c_change_0_5 {n vs : Int32} {be de : Int64} {sz : Int32} {ro co mi : Nat → Int64} {T : Nat → Nat → Int64} {B : Nat → Nat → Nat → Int32} {hd : Nat → Nat → Int32} {df : Nat → Int32} (v : Int32) : KX0_change l D ca ad [.ref 10, .int 0, .int 5, .int v] (XW n vs be de sz ro co mi T B hd df) (some (.int (B 6 0 5))) (XW n vs be de sz ro co mi T (up B 6 (chX (B 6) 0 5 v)) hd df) := by
  refine PX0_change (Nat.le_of_ble_eq_true rfl) ?_
  intro G hT hC hR
  refine mB hT 14 rfl ?_
  refine mWd (w2 := (XW n vs be de sz ro co mi T (up B 6 (up (B 6) 0 (up (B 6 0) 5 v))) hd df)) rfl ?_
  exact c_change_on (i := 0) (what := 5) (v := v) hT hC hR
set_option maxRecDepth 20000 in
theorem c_change_0_6 {n vs : Int32} {be de : Int64} {sz : Int32} {ro co mi : Nat → Int64} {T : Nat → Nat → Int64} {B : Nat → Nat → Nat → Int32} {hd : Nat → Nat → Int32} {df : Nat → Int32} (v : Int32) : KX0_change l D ca ad [.ref 10, .int 0, .int 6, .int v] (XW n vs be de sz ro co mi T B hd df) (some (.int (B 6 0 6))) (XW n vs be de sz ro co mi T (up B 6 (chX (B 6) 0 6 v)) hd df) := by
  refine PX0_change (Nat.le_of_ble_eq_true rfl) ?_
  intro G hT hC hR
  refine mB hT 14 rfl ?_
  refine mWd (w2 := (XW n vs be de sz ro co mi T (up B 6 (up (B 6) 0 (up (B 6 0) 6 v))) hd df)) rfl ?_
  exact c_change_on (i := 0) (what := 6) (v := v) hT hC hR
set_option maxRecDepth 20000 in
theorem c_change_0_7 {n vs : Int32} {be de : Int64} {sz : Int32} {ro co mi : Nat → Int64} {T : Nat → Nat → Int64} {B : Nat → Nat → Nat → Int32} {hd : Nat → Nat → Int32} {df : Nat → Int32} (v : Int32) : KX0_change l D ca ad [.ref 10, .int 0, .int 7, .int v] (XW n vs be de sz ro co mi T B hd df) (some (.int (B 6 0 7))) (XW n vs be de sz ro co mi T (up B 6 (chX (B 6) 0 7 v)) hd df) := by
  refine PX0_change (Nat.le_of_ble_eq_true rfl) ?_
  intro G hT hC hR
  refine mB hT 14 rfl ?_
  refine mWd (w2 := (XW n vs be de sz ro co mi T (up B 6 (up (B 6) 0 (up (B 6 0) 7 v))) hd df)) rfl ?_
  exact c_change_on (i := 0) (what := 7) (v := v) hT hC hR
set_option maxRecDepth 20000 in
theorem c_change_0_8 {n vs : Int32} {be de : Int64} {sz : Int32} {ro co mi : Nat → Int64} {T : Nat → Nat → Int64} {B : Nat → Nat → Nat → Int32} {hd : Nat → Nat → Int32} {df : Nat → Int32} (v : Int32) : KX0_change l D ca ad [.ref 10, .int 0, .int 8, .int v] (XW n vs be de sz ro co mi T B hd df) (some (.int (B 6 0 8))) (XW n vs be de sz ro co mi T (up B 6 (chX (B 6) 0 8 v)) hd df) := by
  refine PX0_change (Nat.le_of_ble_eq_true rfl) ?_
  intro G hT hC hR
  refine mB hT 14 rfl ?_
  refine mWd (w2 := (XW n vs be de sz ro co mi T (up B 6 (up (B 6) 0 (up (B 6 0) 8 v))) hd df)) rfl ?_
  exact c_change_on (i := 0) (what := 8) (v := v) hT hC hR
set_option maxRecDepth 20000 in
theorem c_change_0_9 {n vs : Int32} {be de : Int64} {sz : Int32} {ro co mi : Nat → Int64} {T : Nat → Nat → Int64} {B : Nat → Nat → Nat → Int32} {hd : Nat → Nat → Int32} {df : Nat → Int32} (v : Int32) : KX0_change l D ca ad [.ref 10, .int 0, .int 9, .int v] (XW n vs be de sz ro co mi T B hd df) (some (.int (B 6 0 9))) (XW n vs be de sz ro co mi T (up B 6 (chX (B 6) 0 9 v)) hd df) := by
  refine PX0_change (Nat.le_of_ble_eq_true rfl) ?_
  intro G hT hC hR
  refine mB hT 14 rfl ?_
  refine mWd (w2 := (XW n vs be de sz ro co mi T (up B 6 (up (B 6) 0 (up (B 6 0) 9 v))) hd df)) rfl ?_
  exact c_change_on (i := 0) (what := 9) (v := v) hT hC hR
set_option maxRecDepth 20000 in
theorem c_change_0_10 {n vs : Int32} {be de : Int64} {sz : Int32} {ro co mi : Nat → Int64} {T : Nat → Nat → Int64} {B : Nat → Nat → Nat → Int32} {hd : Nat → Nat → Int32} {df : Nat → Int32} (v : Int32) : KX0_change l D ca ad [.ref 10, .int 0, .int 10, .int v] (XW n vs be de sz ro co mi T B hd df) (some (.int (B 6 0 10))) (XW n vs be de sz ro co mi T (up B 6 (chX (B 6) 0 10 v)) hd df) := by
  refine PX0_change (Nat.le_of_ble_eq_true rfl) ?_
  intro G hT hC hR
  refine mB hT 14 rfl ?_
  refine mWd (w2 := (XW n vs be de sz ro co mi T (up B 6 (up (B 6) 0 (up (B 6 0) 10 v))) hd df)) rfl ?_
  exact c_change_on (i := 0) (what := 10) (v := v) hT hC hR
set_option maxRecDepth 20000 in
theorem c_change_0_11 {n vs : Int32} {be de : Int64} {sz : Int32} {ro co mi : Nat → Int64} {T : Nat → Nat → Int64} {B : Nat → Nat → Nat → Int32} {hd : Nat → Nat → Int32} {df : Nat → Int32} (v : Int32) : KX0_change l D ca ad [.ref 10, .int 0, .int 11, .int v] (XW n vs be de sz ro co mi T B hd df) (some (.int (B 6 0 11))) (XW n vs be de sz ro co mi T (up B 6 (chX (B 6) 0 11 v)) hd df) := by
  refine PX0_change (Nat.le_of_ble_eq_true rfl) ?_
  intro G hT hC hR
  refine mB hT 14 rfl ?_
  refine mWd (w2 := (XW n vs be de sz ro co mi T (up B 6 (up (B 6) 0 (up (B 6 0) 11 v))) hd df)) rfl ?_
  exact c_change_on (i := 0) (what := 11) (v := v) hT hC hR
set_option maxRecDepth 20000 in
theorem c_change_0_12 {n vs : Int32} {be de : Int64} {sz : Int32} {ro co mi : Nat → Int64} {T : Nat → Nat → Int64} {B : Nat → Nat → Nat → Int32} {hd : Nat → Nat → Int32} {df : Nat → Int32} (v : Int32) : KX0_change l D ca ad [.ref 10, .int 0, .int 12, .int v] (XW n vs be de sz ro co mi T B hd df) (some (.int (B 6 0 12))) (XW n vs be de sz ro co mi T (up B 6 (chX (B 6) 0 12 v)) hd df) := by
  refine PX0_change (Nat.le_of_ble_eq_true rfl) ?_
  intro G hT hC hR
  refine mB hT 14 rfl ?_
  refine mWd (w2 := (XW n vs be de sz ro co mi T (up B 6 (up (B 6) 0 (up (B 6 0) 12 v))) hd df)) rfl ?_
  exact c_change_on (i := 0) (what := 12) (v := v) hT hC hR
set_option maxRecDepth 20000 in
theorem c_change_0_13 {n vs : Int32} {be de : Int64} {sz : Int32} {ro co mi : Nat → Int64} {T : Nat → Nat → Int64} {B : Nat → Nat → Nat → Int32} {hd : Nat → Nat → Int32} {df : Nat → Int32} (v : Int32) : KX0_change l D ca ad [.ref 10, .int 0, .int 13, .int v] (XW n vs be de sz ro co mi T B hd df) (some (.int (B 6 0 13))) (XW n vs be de sz ro co mi T (up B 6 (chX (B 6) 0 13 v)) hd df) := by
  refine PX0_change (Nat.le_of_ble_eq_true rfl) ?_
  intro G hT hC hR
  refine mB hT 14 rfl ?_
  refine mWd (w2 := (XW n vs be de sz ro co mi T (up B 6 (up (B 6) 0 (up (B 6 0) 13 v))) hd df)) rfl ?_
  exact c_change_on (i := 0) (what := 13) (v := v) hT hC hR
set_option maxRecDepth 20000 in
theorem c_change_0_14 {n vs : Int32} {be de : Int64} {sz : Int32} {ro co mi : Nat → Int64} {T : Nat → Nat → Int64} {B : Nat → Nat → Nat → Int32} {hd : Nat → Nat → Int32} {df : Nat → Int32} (v : Int32) : KX0_change l D ca ad [.ref 10, .int 0, .int 14, .int v] (XW n vs be de sz ro co mi T B hd df) (some (.int (B 6 0 14))) (XW n vs be de sz ro co mi T (up B 6 (chX (B 6) 0 14 v)) hd df) := by
  refine PX0_change (Nat.le_of_ble_eq_true rfl) ?_
  intro G hT hC hR
  refine mB hT 14 rfl ?_
  refine mWd (w2 := (XW n vs be de sz ro co mi T (up B 6 (up (B 6) 0 (up (B 6 0) 14 v))) hd df)) rfl ?_
  exact c_change_on (i := 0) (what := 14) (v := v) hT hC hR
set_option maxRecDepth 20000 in
theorem c_change_0_15 {n vs : Int32} {be de : Int64} {sz : Int32} {ro co mi : Nat → Int64} {T : Nat → Nat → Int64} {B : Nat → Nat → Nat → Int32} {hd : Nat → Nat → Int32} {df : Nat → Int32} (v : Int32) : KX0_change l D ca ad [.ref 10, .int 0, .int 15, .int v] (XW n vs be de sz ro co mi T B hd df) (some (.int (B 6 0 15))) (XW n vs be de sz ro co mi T (up B 6 (chX (B 6) 0 15 v)) hd df) := by
  refine PX0_change (Nat.le_of_ble_eq_true rfl) ?_
  intro G hT hC hR
  refine mB hT 14 rfl ?_
  refine mWd (w2 := (XW n vs be de sz ro co mi T (up B 6 (up (B 6) 0 (up (B 6 0) 15 v))) hd df)) rfl ?_
  exact c_change_on (i := 0) (what := 15) (v := v) hT hC hR
set_option maxRecDepth 20000 in
theorem c_change_0_16 {n vs : Int32} {be de : Int64} {sz : Int32} {ro co mi : Nat → Int64} {T : Nat → Nat → Int64} {B : Nat → Nat → Nat → Int32} {hd : Nat → Nat → Int32} {df : Nat → Int32} (v : Int32) : KX0_change l D ca ad [.ref 10, .int 0, .int 16, .int v] (XW n vs be de sz ro co mi T B hd df) (some (.int (B 6 0 16))) (XW n vs be de sz ro co mi T (up B 6 (chX (B 6) 0 16 v)) hd df) := by
  refine PX0_change (Nat.le_of_ble_eq_true rfl) ?_
  intro G hT hC hR
  refine mB hT 14 rfl ?_
  refine mWd (w2 := (XW n vs be de sz ro co mi T (up B 6 (up (B 6) 0 (up (B 6 0) 16 v))) hd df)) rfl ?_
  exact c_change_on (i := 0) (what := 16) (v := v) hT hC hR
set_option maxRecDepth 20000 in
theorem c_change_0_17 {n vs : Int32} {be de : Int64} {sz : Int32} {ro co mi : Nat → Int64} {T : Nat → Nat → Int64} {B : Nat → Nat → Nat → Int32} {hd : Nat → Nat → Int32} {df : Nat → Int32} (v : Int32) : KX0_change l D ca ad [.ref 10, .int 0, .int 17, .int v] (XW n vs be de sz ro co mi T B hd df) (some (.int (B 6 0 17))) (XW n vs be de sz ro co mi T (up B 6 (chX (B 6) 0 17 v)) hd df) := by
  refine PX0_change (Nat.le_of_ble_eq_true rfl) ?_
  intro G hT hC hR
  refine mB hT 14 rfl ?_
  refine mWd (w2 := (XW n vs be de sz ro co mi T (up B 6 (up (B 6) 0 (up (B 6 0) 17 v))) hd df)) rfl ?_
  exact c_change_on (i := 0) (what := 17) (v := v) hT hC hR
set_option maxRecDepth 20000 in
theorem c_change_0_18 {n vs : Int32} {be de : Int64} {sz : Int32} {ro co mi : Nat → Int64} {T : Nat → Nat → Int64} {B : Nat → Nat → Nat → Int32} {hd : Nat → Nat → Int32} {df : Nat → Int32} (v : Int32) : KX0_change l D ca ad [.ref 10, .int 0, .int 18, .int v] (XW n vs be de sz ro co mi T B hd df) (some (.int (B 6 0 18))) (XW n vs be de sz ro co mi T (up B 6 (chX (B 6) 0 18 v)) hd df) := by
  refine PX0_change (Nat.le_of_ble_eq_true rfl) ?_
  intro G hT hC hR
  refine mB hT 14 rfl ?_
  refine mWd (w2 := (XW n vs be de sz ro co mi T (up B 6 (up (B 6) 0 (up (B 6 0) 18 v))) hd df)) rfl ?_
  exact c_change_on (i := 0) (what := 18) (v := v) hT hC hR
set_option maxRecDepth 20000 in
theorem c_change_0_19 {n vs : Int32} {be de : Int64} {sz : Int32} {ro co mi : Nat → Int64} {T : Nat → Nat → Int64} {B : Nat → Nat → Nat → Int32} {hd : Nat → Nat → Int32} {df : Nat → Int32} (v : Int32) : KX0_change l D ca ad [.ref 10, .int 0, .int 19, .int v] (XW n vs be de sz ro co mi T B hd df) (some (.int (B 6 0 19))) (XW n vs be de sz ro co mi T (up B 6 (chX (B 6) 0 19 v)) hd df) := by
  refine PX0_change (Nat.le_of_ble_eq_true rfl) ?_
  intro G hT hC hR
  refine mB hT 14 rfl ?_
  refine mWd (w2 := (XW n vs be de sz ro co mi T (up B 6 (up (B 6) 0 (up (B 6 0) 19 v))) hd df)) rfl ?_
  exact c_change_on (i := 0) (what := 19) (v := v) hT hC hR
set_option maxRecDepth 20000 in
theorem c_change_0_20 {n vs : Int32} {be de : Int64} {sz : Int32} {ro co mi : Nat → Int64} {T : Nat → Nat → Int64} {B : Nat → Nat → Nat → Int32} {hd : Nat → Nat → Int32} {df : Nat → Int32} (v : Int32) : KX0_change l D ca ad [.ref 10, .int 0, .int 20, .int v] (XW n vs be de sz ro co mi T B hd df) (some (.int (B 6 0 20))) (XW n vs be de sz ro co mi T (up B 6 (chX (B 6) 0 20 v)) hd df) := by
  refine PX0_change (Nat.le_of_ble_eq_true rfl) ?_
  intro G hT hC hR
  refine mB hT 14 rfl ?_
  refine mWd (w2 := (XW n vs be de sz ro co mi T (up B 6 (up (B 6) 0 (up (B 6 0) 20 v))) hd df)) rfl ?_
  exact c_change_on (i := 0) (what := 20) (v := v) hT hC hR
set_option maxRecDepth 20000 in
theorem c_change_0_21 {n vs : Int32} {be de : Int64} {sz : Int32} {ro co mi : Nat → Int64} {T : Nat → Nat → Int64} {B : Nat → Nat → Nat → Int32} {hd : Nat → Nat → Int32} {df : Nat → Int32} (v : Int32) : KX0_change l D ca ad [.ref 10, .int 0, .int 21, .int v] (XW n vs be de sz ro co mi T B hd df) (some (.int (B 6 0 21))) (XW n vs be de sz ro co mi T (up B 6 (chX (B 6) 0 21 v)) hd df) := by
  refine PX0_change (Nat.le_of_ble_eq_true rfl) ?_
  intro G hT hC hR
  refine mB hT 14 rfl ?_
  refine mWd (w2 := (XW n vs be de sz ro co mi T (up B 6 (up (B 6) 0 (up (B 6 0) 21 v))) hd df)) rfl ?_
  exact c_change_on (i := 0) (what := 21) (v := v) hT hC hR
set_option maxRecDepth 20000 in
theorem c_change_0_22 {n vs : Int32} {be de : Int64} {sz : Int32} {ro co mi : Nat → Int64} {T : Nat → Nat → Int64} {B : Nat → Nat → Nat → Int32} {hd : Nat → Nat → Int32} {df : Nat → Int32} (v : Int32) : KX0_change l D ca ad [.ref 10, .int 0, .int 22, .int v] (XW n vs be de sz ro co mi T B hd df) (some (.int (B 6 0 22))) (XW n vs be de sz ro co mi T (up B 6 (chX (B 6) 0 22 v)) hd df) := by
  refine PX0_change (Nat.le_of_ble_eq_true rfl) ?_
  intro G hT hC hR
  refine mB hT 14 rfl ?_
  refine mWd (w2 := (XW n vs be de sz ro co mi T (up B 6 (up (B 6) 0 (up (B 6 0) 22 v))) hd df)) rfl ?_
  exact c_change_on (i := 0) (what := 22) (v := v) hT hC hR
set_option maxRecDepth 20000 in
theorem c_change_1_0 {n vs : Int32} {be de : Int64} {sz : Int32} {ro co mi : Nat → Int64} {T : Nat → Nat → Int64} {B : Nat → Nat → Nat → Int32} {hd : Nat → Nat → Int32} {df : Nat → Int32} (v : Int32) : KX0_change l D ca ad [.ref 10, .int 1, .int 0, .int v] (XW n vs be de sz ro co mi T B hd df) (some (.int (B 6 1 0))) (XW n vs be de sz ro co mi T (up B 6 (chX (B 6) 1 0 v)) hd df) := by
  refine PX0_change (Nat.le_of_ble_eq_true rfl) ?_
  intro G hT hC hR
  refine mB hT 14 rfl ?_
  refine mWd (w2 := (XW n vs be de sz ro co mi T (up B 6 (up (B 6) 1 (up (B 6 1) 0 v))) hd df)) rfl ?_
  exact c_change_on (i := 1) (what := 0) (v := v) hT hC hR
set_option maxRecDepth 20000 in
theorem c_change_1_1 {n vs : Int32} {be de : Int64} {sz : Int32} {ro co mi : Nat → Int64} {T : Nat → Nat → Int64} {B : Nat → Nat → Nat → Int32} {hd : Nat → Nat → Int32} {df : Nat → Int32} (v : Int32) : KX0_change l D ca ad [.ref 10, .int 1, .int 1, .int v] (XW n vs be de sz ro co mi T B hd df) (some (.int (B 6 1 1))) (XW n vs be de sz ro co mi T (up B 6 (chX (B 6) 1 1 v)) hd df) := by
  refine PX0_change (Nat.le_of_ble_eq_true rfl) ?_
  intro G hT hC hR
  refine mB hT 14 rfl ?_
  refine mWd (w2 := (XW n vs be de sz ro co mi T (up B 6 (up (B 6) 1 (up (B 6 1) 1 v))) hd df)) rfl ?_
  exact c_change_on (i := 1) (what := 1) (v := v) hT hC hR
set_option maxRecDepth 20000 in
theorem c_change_1_4 {n vs : Int32} {be de : Int64} {sz : Int32} {ro co mi : Nat → Int64} {T : Nat → Nat → Int64} {B : Nat → Nat → Nat → Int32} {hd : Nat → Nat → Int32} {df : Nat → Int32} (v : Int32) : KX0_change l D ca ad [.ref 10, .int 1, .int 4, .int v] (XW n vs be de sz ro co mi T B hd df) (some (.int (B 6 1 4))) (XW n vs be de sz ro co mi T (up B 6 (chX (B 6) 1 4 v)) hd df) := by
  refine PX0_change (Nat.le_of_ble_eq_true rfl) ?_
  intro G hT hC hR
  refine mB hT 14 rfl ?_
  refine mWd (w2 := (XW n vs be de sz ro co mi T (up B 6 (up (B 6) 1 (up (B 6 1) 4 v))) hd df)) rfl ?_
  exact c_change_on (i := 1) (what := 4) (v := v) hT hC hR
set_option maxRecDepth 20000 in
theorem c_change_1_5 {n vs : Int32} {be de : Int64} {sz : Int32} {ro co mi : Nat → Int64} {T : Nat → Nat → Int64} {B : Nat → Nat → Nat → Int32} {hd : Nat → Nat → Int32} {df : Nat → Int32} (v : Int32) : KX0_change l D ca ad [.ref 10, .int 1, .int 5, .int v] (XW n vs be de sz ro co mi T B hd df) (some (.int (B 6 1 5))) (XW n vs be de sz ro co mi T (up B 6 (chX (B 6) 1 5 v)) hd df) := by
  refine PX0_change (Nat.le_of_ble_eq_true rfl) ?_
  intro G hT hC hR
  refine mB hT 14 rfl ?_
  refine mWd (w2 := (XW n vs be de sz ro co mi T (up B 6 (up (B 6) 1 (up (B 6 1) 5 v))) hd df)) rfl ?_
  exact c_change_on (i := 1) (what := 5) (v := v) hT hC hR
set_option maxRecDepth 20000 in
theorem c_change_1_6 {n vs : Int32} {be de : Int64} {sz : Int32} {ro co mi : Nat → Int64} {T : Nat → Nat → Int64} {B : Nat → Nat → Nat → Int32} {hd : Nat → Nat → Int32} {df : Nat → Int32} (v : Int32) : KX0_change l D ca ad [.ref 10, .int 1, .int 6, .int v] (XW n vs be de sz ro co mi T B hd df) (some (.int (B 6 1 6))) (XW n vs be de sz ro co mi T (up B 6 (chX (B 6) 1 6 v)) hd df) := by
  refine PX0_change (Nat.le_of_ble_eq_true rfl) ?_
  intro G hT hC hR
  refine mB hT 14 rfl ?_
  refine mWd (w2 := (XW n vs be de sz ro co mi T (up B 6 (up (B 6) 1 (up (B 6 1) 6 v))) hd df)) rfl ?_
  exact c_change_on (i := 1) (what := 6) (v := v) hT hC hR
set_option maxRecDepth 20000 in
theorem c_change_1_7 {n vs : Int32} {be de : Int64} {sz : Int32} {ro co mi : Nat → Int64} {T : Nat → Nat → Int64} {B : Nat → Nat → Nat → Int32} {hd : Nat → Nat → Int32} {df : Nat → Int32} (v : Int32) : KX0_change l D ca ad [.ref 10, .int 1, .int 7, .int v] (XW n vs be de sz ro co mi T B hd df) (some (.int (B 6 1 7))) (XW n vs be de sz ro co mi T (up B 6 (chX (B 6) 1 7 v)) hd df) := by
  refine PX0_change (Nat.le_of_ble_eq_true rfl) ?_
  intro G hT hC hR
  refine mB hT 14 rfl ?_
  refine mWd (w2 := (XW n vs be de sz ro co mi T (up B 6 (up (B 6) 1 (up (B 6 1) 7 v))) hd df)) rfl ?_
  exact c_change_on (i := 1) (what := 7) (v := v) hT hC hR
set_option maxRecDepth 20000 in
theorem c_change_1_8 {n vs : Int32} {be de : Int64} {sz : Int32} {ro co mi : Nat → Int64} {T : Nat → Nat → Int64} {B : Nat → Nat → Nat → Int32} {hd : Nat → Nat → Int32} {df : Nat → Int32} (v : Int32) : KX0_change l D ca ad [.ref 10, .int 1, .int 8, .int v] (XW n vs be de sz ro co mi T B hd df) (some (.int (B 6 1 8))) (XW n vs be de sz ro co mi T (up B 6 (chX (B 6) 1 8 v)) hd df) := by
  refine PX0_change (Nat.le_of_ble_eq_true rfl) ?_
  intro G hT hC hR
  refine mB hT 14 rfl ?_
  refine mWd (w2 := (XW n vs be de sz ro co mi T (up B 6 (up (B 6) 1 (up (B 6 1) 8 v))) hd df)) rfl ?_
  exact c_change_on (i := 1) (what := 8) (v := v) hT hC hR
set_option maxRecDepth 20000 in
theorem c_change_1_9 {n vs : Int32} {be de : Int64} {sz : Int32} {ro co mi : Nat → Int64} {T : Nat → Nat → Int64} {B : Nat → Nat → Nat → Int32} {hd : Nat → Nat → Int32} {df : Nat → Int32} (v : Int32) : KX0_change l D ca ad [.ref 10, .int 1, .int 9, .int v] (XW n vs be de sz ro co mi T B hd df) (some (.int (B 6 1 9))) (XW n vs be de sz ro co mi T (up B 6 (chX (B 6) 1 9 v)) hd df) := by
  refine PX0_change (Nat.le_of_ble_eq_true rfl) ?_
  intro G hT hC hR
  refine mB hT 14 rfl ?_
  refine mWd (w2 := (XW n vs be de sz ro co mi T (up B 6 (up (B 6) 1 (up (B 6 1) 9 v))) hd df)) rfl ?_
  exact c_change_on (i := 1) (what := 9) (v := v) hT hC hR
set_option maxRecDepth 20000 in
theorem c_change_1_10 {n vs : Int32} {be de : Int64} {sz : Int32} {ro co mi : Nat → Int64} {T : Nat → Nat → Int64} {B : Nat → Nat → Nat → Int32} {hd : Nat → Nat → Int32} {df : Nat → Int32} (v : Int32) : KX0_change l D ca ad [.ref 10, .int 1, .int 10, .int v] (XW n vs be de sz ro co mi T B hd df) (some (.int (B 6 1 10))) (XW n vs be de sz ro co mi T (up B 6 (chX (B 6) 1 10 v)) hd df) := by
  refine PX0_change (Nat.le_of_ble_eq_true rfl) ?_
  intro G hT hC hR
  refine mB hT 14 rfl ?_
  refine mWd (w2 := (XW n vs be de sz ro co mi T (up B 6 (up (B 6) 1 (up (B 6 1) 10 v))) hd df)) rfl ?_
  exact c_change_on (i := 1) (what := 10) (v := v) hT hC hR
set_option maxRecDepth 20000 in
theorem c_change_1_11 {n vs : Int32} {be de : Int64} {sz : Int32} {ro co mi : Nat → Int64} {T : Nat → Nat → Int64} {B : Nat → Nat → Nat → Int32} {hd : Nat → Nat → Int32} {df : Nat → Int32} (v : Int32) : KX0_change l D ca ad [.ref 10, .int 1, .int 11, .int v] (XW n vs be de sz ro co mi T B hd df) (some (.int (B 6 1 11))) (XW n vs be de sz ro co mi T (up B 6 (chX (B 6) 1 11 v)) hd df) := by
  refine PX0_change (Nat.le_of_ble_eq_true rfl) ?_
  intro G hT hC hR
  refine mB hT 14 rfl ?_
  refine mWd (w2 := (XW n vs be de sz ro co mi T (up B 6 (up (B 6) 1 (up (B 6 1) 11 v))) hd df)) rfl ?_
  exact c_change_on (i := 1) (what := 11) (v := v) hT hC hR
set_option maxRecDepth 20000 in
theorem c_change_1_12 {n vs : Int32} {be de : Int64} {sz : Int32} {ro co mi : Nat → Int64} {T : Nat → Nat → Int64} {B : Nat → Nat → Nat → Int32} {hd : Nat → Nat → Int32} {df : Nat → Int32} (v : Int32) : KX0_change l D ca ad [.ref 10, .int 1, .int 12, .int v] (XW n vs be de sz ro co mi T B hd df) (some (.int (B 6 1 12))) (XW n vs be de sz ro co mi T (up B 6 (chX (B 6) 1 12 v)) hd df) := by
  refine PX0_change (Nat.le_of_ble_eq_true rfl) ?_
  intro G hT hC hR
  refine mB hT 14 rfl ?_
  refine mWd (w2 := (XW n vs be de sz ro co mi T (up B 6 (up (B 6) 1 (up (B 6 1) 12 v))) hd df)) rfl ?_
  exact c_change_on (i := 1) (what := 12) (v := v) hT hC hR
set_option maxRecDepth 20000 in
theorem c_change_1_13 {n vs : Int32} {be de : Int64} {sz : Int32} {ro co mi : Nat → Int64} {T : Nat → Nat → Int64} {B : Nat → Nat → Nat → Int32} {hd : Nat → Nat → Int32} {df : Nat → Int32} (v : Int32) : KX0_change l D ca ad [.ref 10, .int 1, .int 13, .int v] (XW n vs be de sz ro co mi T B hd df) (some (.int (B 6 1 13))) (XW n vs be de sz ro co mi T (up B 6 (chX (B 6) 1 13 v)) hd df) := by
  refine PX0_change (Nat.le_of_ble_eq_true rfl) ?_
  intro G hT hC hR
  refine mB hT 14 rfl ?_
  refine mWd (w2 := (XW n vs be de sz ro co mi T (up B 6 (up (B 6) 1 (up (B 6 1) 13 v))) hd df)) rfl ?_
  exact c_change_on (i := 1) (what := 13) (v := v) hT hC hR
set_option maxRecDepth 20000 in
theorem c_change_1_14 {n vs : Int32} {be de : Int64} {sz : Int32} {ro co mi : Nat → Int64} {T : Nat → Nat → Int64} {B : Nat → Nat → Nat → Int32} {hd : Nat → Nat → Int32} {df : Nat → Int32} (v : Int32) : KX0_change l D ca ad [.ref 10, .int 1, .int 14, .int v] (XW n vs be de sz ro co mi T B hd df) (some (.int (B 6 1 14))) (XW n vs be de sz ro co mi T (up B 6 (chX (B 6) 1 14 v)) hd df) := by
  refine PX0_change (Nat.le_of_ble_eq_true rfl) ?_
  intro G hT hC hR
  refine mB hT 14 rfl ?_
  refine mWd (w2 := (XW n vs be de sz ro co mi T (up B 6 (up (B 6) 1 (up (B 6 1) 14 v))) hd df)) rfl ?_
  exact c_change_on (i := 1) (what := 14) (v := v) hT hC hR
set_option maxRecDepth 20000 in
theorem c_change_1_15 {n vs : Int32} {be de : Int64} {sz : Int32} {ro co mi : Nat → Int64} {T : Nat → Nat → Int64} {B : Nat → Nat → Nat → Int32} {hd : Nat → Nat → Int32} {df : Nat → Int32} (v : Int32) : KX0_change l D ca ad [.ref 10, .int 1, .int 15, .int v] (XW n vs be de sz ro co mi T B hd df) (some (.int (B 6 1 15))) (XW n vs be de sz ro co mi T (up B 6 (chX (B 6) 1 15 v)) hd df) := by
  refine PX0_change (Nat.le_of_ble_eq_true rfl) ?_
  intro G hT hC hR
  refine mB hT 14 rfl ?_
  refine mWd (w2 := (XW n vs be de sz ro co mi T (up B 6 (up (B 6) 1 (up (B 6 1) 15 v))) hd df)) rfl ?_
  exact c_change_on (i := 1) (what := 15) (v := v) hT hC hR
set_option maxRecDepth 20000 in
theorem c_change_1_16 {n vs : Int32} {be de : Int64} {sz : Int32} {ro co mi : Nat → Int64} {T : Nat → Nat → Int64} {B : Nat → Nat → Nat → Int32} {hd : Nat → Nat → Int32} {df : Nat → Int32} (v : Int32) : KX0_change l D ca ad [.ref 10, .int 1, .int 16, .int v] (XW n vs be de sz ro co mi T B hd df) (some (.int (B 6 1 16))) (XW n vs be de sz ro co mi T (up B 6 (chX (B 6) 1 16 v)) hd df) := by
  refine PX0_change (Nat.le_of_ble_eq_true rfl) ?_
  intro G hT hC hR
  refine mB hT 14 rfl ?_
  refine mWd (w2 := (XW n vs be de sz ro co mi T (up B 6 (up (B 6) 1 (up (B 6 1) 16 v))) hd df)) rfl ?_
  exact c_change_on (i := 1) (what := 16) (v := v) hT hC hR
set_option maxRecDepth 20000 in
theorem c_change_1_17 {n vs : Int32} {be de : Int64} {sz : Int32} {ro co mi : Nat → Int64} {T : Nat → Nat → Int64} {B : Nat → Nat → Nat → Int32} {hd : Nat → Nat → Int32} {df : Nat → Int32} (v : Int32) : KX0_change l D ca ad [.ref 10, .int 1, .int 17, .int v] (XW n vs be de sz ro co mi T B hd df) (some (.int (B 6 1 17))) (XW n vs be de sz ro co mi T (up B 6 (chX (B 6) 1 17 v)) hd df) := by
  refine PX0_change (Nat.le_of_ble_eq_true rfl) ?_
  intro G hT hC hR
  refine mB hT 14 rfl ?_
  refine mWd (w2 := (XW n vs be de sz ro co mi T (up B 6 (up (B 6) 1 (up (B 6 1) 17 v))) hd df)) rfl ?_
  exact c_change_on (i := 1) (what := 17) (v := v) hT hC hR
set_option maxRecDepth 20000 in
theorem c_change_1_18 {n vs : Int32} {be de : Int64} {sz : Int32} {ro co mi : Nat → Int64} {T : Nat → Nat → Int64} {B : Nat → Nat → Nat → Int32} {hd : Nat → Nat → Int32} {df : Nat → Int32} (v : Int32) : KX0_change l D ca ad [.ref 10, .int 1, .int 18, .int v] (XW n vs be de sz ro co mi T B hd df) (some (.int (B 6 1 18))) (XW n vs be de sz ro co mi T (up B 6 (chX (B 6) 1 18 v)) hd df) := by
  refine PX0_change (Nat.le_of_ble_eq_true rfl) ?_
  intro G hT hC hR
  refine mB hT 14 rfl ?_
  refine mWd (w2 := (XW n vs be de sz ro co mi T (up B 6 (up (B 6) 1 (up (B 6 1) 18 v))) hd df)) rfl ?_
  exact c_change_on (i := 1) (what := 18) (v := v) hT hC hR
set_option maxRecDepth 20000 in
theorem c_change_1_19 {n vs : Int32} {be de : Int64} {sz : Int32} {ro co mi : Nat → Int64} {T : Nat → Nat → Int64} {B : Nat → Nat → Nat → Int32} {hd : Nat → Nat → Int32} {df : Nat → Int32} (v : Int32) : KX0_change l D ca ad [.ref 10, .int 1, .int 19, .int v] (XW n vs be de sz ro co mi T B hd df) (some (.int (B 6 1 19))) (XW n vs be de sz ro co mi T (up B 6 (chX (B 6) 1 19 v)) hd df) := by
  refine PX0_change (Nat.le_of_ble_eq_true rfl) ?_
  intro G hT hC hR
  refine mB hT 14 rfl ?_
  refine mWd (w2 := (XW n vs be de sz ro co mi T (up B 6 (up (B 6) 1 (up (B 6 1) 19 v))) hd df)) rfl ?_
  exact c_change_on (i := 1) (what := 19) (v := v) hT hC hR
set_option maxRecDepth 20000 in
theorem c_change_1_20 {n vs : Int32} {be de : Int64} {sz : Int32} {ro co mi : Nat → Int64} {T : Nat → Nat → Int64} {B : Nat → Nat → Nat → Int32} {hd : Nat → Nat → Int32} {df : Nat → Int32} (v : Int32) : KX0_change l D ca ad [.ref 10, .int 1, .int 20, .int v] (XW n vs be de sz ro co mi T B hd df) (some (.int (B 6 1 20))) (XW n vs be de sz ro co mi T (up B 6 (chX (B 6) 1 20 v)) hd df) := by
  refine PX0_change (Nat.le_of_ble_eq_true rfl) ?_
  intro G hT hC hR
  refine mB hT 14 rfl ?_
  refine mWd (w2 := (XW n vs be de sz ro co mi T (up B 6 (up (B 6) 1 (up (B 6 1) 20 v))) hd df)) rfl ?_
  exact c_change_on (i := 1) (what := 20) (v := v) hT hC hR
set_option maxRecDepth 20000 in
theorem c_change_1_21 {n vs : Int32} {be de : Int64} {sz : Int32} {ro co mi : Nat → Int64} {T : Nat → Nat → Int64} {B : Nat → Nat → Nat → Int32} {hd : Nat → Nat → Int32} {df : Nat → Int32} (v : Int32) : KX0_change l D ca ad [.ref 10, .int 1, .int 21, .int v] (XW n vs be de sz ro co mi T B hd df) (some (.int (B 6 1 21))) (XW n vs be de sz ro co mi T (up B 6 (chX (B 6) 1 21 v)) hd df) := by
  refine PX0_change (Nat.le_of_ble_eq_true rfl) ?_
  intro G hT hC hR
  refine mB hT 14 rfl ?_
  refine mWd (w2 := (XW n vs be de sz ro co mi T (up B 6 (up (B 6) 1 (up (B 6 1) 21 v))) hd df)) rfl ?_
  exact c_change_on (i := 1) (what := 21) (v := v) hT hC hR
set_option maxRecDepth 20000 in
theorem c_change_1_22 {n vs : Int32} {be de : Int64} {sz : Int32} {ro co mi : Nat → Int64} {T : Nat → Nat → Int64} {B : Nat → Nat → Nat → Int32} {hd : Nat → Nat → Int32} {df : Nat → Int32} (v : Int32) : KX0_change l D ca ad [.ref 10, .int 1, .int 22, .int v] (XW n vs be de sz ro co mi T B hd df) (some (.int (B 6 1 22))) (XW n vs be de sz ro co mi T (up B 6 (chX (B 6) 1 22 v)) hd df) := by
  refine PX0_change (Nat.le_of_ble_eq_true rfl) ?_
  intro G hT hC hR
  refine mB hT 14 rfl ?_
  refine mWd (w2 := (XW n vs be de sz ro co mi T (up B 6 (up (B 6) 1 (up (B 6 1) 22 v))) hd df)) rfl ?_
  exact c_change_on (i := 1) (what := 22) (v := v) hT hC hR
set_option maxRecDepth 20000 in
theorem c_change_2_0 {n vs : Int32} {be de : Int64} {sz : Int32} {ro co mi : Nat → Int64} {T : Nat → Nat → Int64} {B : Nat → Nat → Nat → Int32} {hd : Nat → Nat → Int32} {df : Nat → Int32} (v : Int32) : KX0_change l D ca ad [.ref 10, .int 2, .int 0, .int v] (XW n vs be de sz ro co mi T B hd df) (some (.int (B 6 2 0))) (XW n vs be de sz ro co mi T (up B 6 (chX (B 6) 2 0 v)) hd df) := by
  refine PX0_change (Nat.le_of_ble_eq_true rfl) ?_
  intro G hT hC hR
  refine mB hT 14 rfl ?_
  refine mWd (w2 := (XW n vs be de sz ro co mi T (up B 6 (up (B 6) 2 (up (B 6 2) 0 v))) hd df)) rfl ?_
  exact c_change_on (i := 2) (what := 0) (v := v) hT hC hR
set_option maxRecDepth 20000 in
theorem c_change_2_1 {n vs : Int32} {be de : Int64} {sz : Int32} {ro co mi : Nat → Int64} {T : Nat → Nat → Int64} {B : Nat → Nat → Nat → Int32} {hd : Nat → Nat → Int32} {df : Nat → Int32} (v : Int32) : KX0_change l D ca ad [.ref 10, .int 2, .int 1, .int v] (XW n vs be de sz ro co mi T B hd df) (some (.int (B 6 2 1))) (XW n vs be de sz ro co mi T (up B 6 (chX (B 6) 2 1 v)) hd df) := by
  refine PX0_change (Nat.le_of_ble_eq_true rfl) ?_
  intro G hT hC hR
  refine mB hT 14 rfl ?_
  refine mWd (w2 := (XW n vs be de sz ro co mi T (up B 6 (up (B 6) 2 (up (B 6 2) 1 v))) hd df)) rfl ?_
  exact c_change_on (i := 2) (what := 1) (v := v) hT hC hR
set_option maxRecDepth 20000 in
theorem c_change_2_4 {n vs : Int32} {be de : Int64} {sz : Int32} {ro co mi : Nat → Int64} {T : Nat → Nat → Int64} {B : Nat → Nat → Nat → Int32} {hd : Nat → Nat → Int32} {df : Nat → Int32} (v : Int32) : KX0_change l D ca ad [.ref 10, .int 2, .int 4, .int v] (XW n vs be de sz ro co mi T B hd df) (some (.int (B 6 2 4))) (XW n vs be de sz ro co mi T (up B 6 (chX (B 6) 2 4 v)) hd df) := by
  refine PX0_change (Nat.le_of_ble_eq_true rfl) ?_
  intro G hT hC hR
  refine mB hT 14 rfl ?_
  refine mWd (w2 := (XW n vs be de sz ro co mi T (up B 6 (up (B 6) 2 (up (B 6 2) 4 v))) hd df)) rfl ?_
  exact c_change_on (i := 2) (what := 4) (v := v) hT hC hR
set_option maxRecDepth 20000 in
theorem c_change_2_5 {n vs : Int32} {be de : Int64} {sz : Int32} {ro co mi : Nat → Int64} {T : Nat → Nat → Int64} {B : Nat → Nat → Nat → Int32} {hd : Nat → Nat → Int32} {df : Nat → Int32} (v : Int32) : KX0_change l D ca ad [.ref 10, .int 2, .int 5, .int v] (XW n vs be de sz ro co mi T B hd df) (some (.int (B 6 2 5))) (XW n vs be de sz ro co mi T (up B 6 (chX (B 6) 2 5 v)) hd df) := by
  refine PX0_change (Nat.le_of_ble_eq_true rfl) ?_
  intro G hT hC hR
  refine mB hT 14 rfl ?_
  refine mWd (w2 := (XW n vs be de sz ro co mi T (up B 6 (up (B 6) 2 (up (B 6 2) 5 v))) hd df)) rfl ?_
  exact c_change_on (i := 2) (what := 5) (v := v) hT hC hR
set_option maxRecDepth 20000 in
theorem c_change_2_6 {n vs : Int32} {be de : Int64} {sz : Int32} {ro co mi : Nat → Int64} {T : Nat → Nat → Int64} {B : Nat → Nat → Nat → Int32} {hd : Nat → Nat → Int32} {df : Nat → Int32} (v : Int32) : KX0_change l D ca ad [.ref 10, .int 2, .int 6, .int v] (XW n vs be de sz ro co mi T B hd df) (some (.int (B 6 2 6))) (XW n vs be de sz ro co mi T (up B 6 (chX (B 6) 2 6 v)) hd df) := by
  refine PX0_change (Nat.le_of_ble_eq_true rfl) ?_
  intro G hT hC hR
  refine mB hT 14 rfl ?_
  refine mWd (w2 := (XW n vs be de sz ro co mi T (up B 6 (up (B 6) 2 (up (B 6 2) 6 v))) hd df)) rfl ?_
  exact c_change_on (i := 2) (what := 6) (v := v) hT hC hR
set_option maxRecDepth 20000 in
theorem c_change_2_7 {n vs : Int32} {be de : Int64} {sz : Int32} {ro co mi : Nat → Int64} {T : Nat → Nat → Int64} {B : Nat → Nat → Nat → Int32} {hd : Nat → Nat → Int32} {df : Nat → Int32} (v : Int32) : KX0_change l D ca ad [.ref 10, .int 2, .int 7, .int v] (XW n vs be de sz ro co mi T B hd df) (some (.int (B 6 2 7))) (XW n vs be de sz ro co mi T (up B 6 (chX (B 6) 2 7 v)) hd df) := by
  refine PX0_change (Nat.le_of_ble_eq_true rfl) ?_
  intro G hT hC hR
  refine mB hT 14 rfl ?_
  refine mWd (w2 := (XW n vs be de sz ro co mi T (up B 6 (up (B 6) 2 (up (B 6 2) 7 v))) hd df)) rfl ?_
  exact c_change_on (i := 2) (what := 7) (v := v) hT hC hR
set_option maxRecDepth 20000 in
theorem c_change_2_8 {n vs : Int32} {be de : Int64} {sz : Int32} {ro co mi : Nat → Int64} {T : Nat → Nat → Int64} {B : Nat → Nat → Nat → Int32} {hd : Nat → Nat → Int32} {df : Nat → Int32} (v : Int32) : KX0_change l D ca ad [.ref 10, .int 2, .int 8, .int v] (XW n vs be de sz ro co mi T B hd df) (some (.int (B 6 2 8))) (XW n vs be de sz ro co mi T (up B 6 (chX (B 6) 2 8 v)) hd df) := by
  refine PX0_change (Nat.le_of_ble_eq_true rfl) ?_
  intro G hT hC hR
  refine mB hT 14 rfl ?_
  refine mWd (w2 := (XW n vs be de sz ro co mi T (up B 6 (up (B 6) 2 (up (B 6 2) 8 v))) hd df)) rfl ?_
  exact c_change_on (i := 2) (what := 8) (v := v) hT hC hR
set_option maxRecDepth 20000 in
theorem c_change_2_9 {n vs : Int32} {be de : Int64} {sz : Int32} {ro co mi : Nat → Int64} {T : Nat → Nat → Int64} {B : Nat → Nat → Nat → Int32} {hd : Nat → Nat → Int32} {df : Nat → Int32} (v : Int32) : KX0_change l D ca ad [.ref 10, .int 2, .int 9, .int v] (XW n vs be de sz ro co mi T B hd df) (some (.int (B 6 2 9))) (XW n vs be de sz ro co mi T (up B 6 (chX (B 6) 2 9 v)) hd df) := by
  refine PX0_change (Nat.le_of_ble_eq_true rfl) ?_
  intro G hT hC hR
  refine mB hT 14 rfl ?_
  refine mWd (w2 := (XW n vs be de sz ro co mi T (up B 6 (up (B 6) 2 (up (B 6 2) 9 v))) hd df)) rfl ?_
  exact c_change_on (i := 2) (what := 9) (v := v) hT hC hR
set_option maxRecDepth 20000 in
theorem c_change_2_10 {n vs : Int32} {be de : Int64} {sz : Int32} {ro co mi : Nat → Int64} {T : Nat → Nat → Int64} {B : Nat → Nat → Nat → Int32} {hd : Nat → Nat → Int32} {df : Nat → Int32} (v : Int32) : KX0_change l D ca ad [.ref 10, .int 2, .int 10, .int v] (XW n vs be de sz ro co mi T B hd df) (some (.int (B 6 2 10))) (XW n vs be de sz ro co mi T (up B 6 (chX (B 6) 2 10 v)) hd df) := by
  refine PX0_change (Nat.le_of_ble_eq_true rfl) ?_
  intro G hT hC hR
  refine mB hT 14 rfl ?_
  refine mWd (w2 := (XW n vs be de sz ro co mi T (up B 6 (up (B 6) 2 (up (B 6 2) 10 v))) hd df)) rfl ?_
  exact c_change_on (i := 2) (what := 10) (v := v) hT hC hR
set_option maxRecDepth 20000 in
theorem c_change_2_11 {n vs : Int32} {be de : Int64} {sz : Int32} {ro co mi : Nat → Int64} {T : Nat → Nat → Int64} {B : Nat → Nat → Nat → Int32} {hd : Nat → Nat → Int32} {df : Nat → Int32} (v : Int32) : KX0_change l D ca ad [.ref 10, .int 2, .int 11, .int v] (XW n vs be de sz ro co mi T B hd df) (some (.int (B 6 2 11))) (XW n vs be de sz ro co mi T (up B 6 (chX (B 6) 2 11 v)) hd df) := by
  refine PX0_change (Nat.le_of_ble_eq_true rfl) ?_
  intro G hT hC hR
  refine mB hT 14 rfl ?_
  refine mWd (w2 := (XW n vs be de sz ro co mi T (up B 6 (up (B 6) 2 (up (B 6 2) 11 v))) hd df)) rfl ?_
  exact c_change_on (i := 2) (what := 11) (v := v) hT hC hR
set_option maxRecDepth 20000 in
theorem c_change_2_12 {n vs : Int32} {be de : Int64} {sz : Int32} {ro co mi : Nat → Int64} {T : Nat → Nat → Int64} {B : Nat → Nat → Nat → Int32} {hd : Nat → Nat → Int32} {df : Nat → Int32} (v : Int32) : KX0_change l D ca ad [.ref 10, .int 2, .int 12, .int v] (XW n vs be de sz ro co mi T B hd df) (some (.int (B 6 2 12))) (XW n vs be de sz ro co mi T (up B 6 (chX (B 6) 2 12 v)) hd df) := by
  refine PX0_change (Nat.le_of_ble_eq_true rfl) ?_
  intro G hT hC hR
  refine mB hT 14 rfl ?_
  refine mWd (w2 := (XW n vs be de sz ro co mi T (up B 6 (up (B 6) 2 (up (B 6 2) 12 v))) hd df)) rfl ?_
  exact c_change_on (i := 2) (what := 12) (v := v) hT hC hR
set_option maxRecDepth 20000 in
theorem c_change_2_13 {n vs : Int32} {be de : Int64} {sz : Int32} {ro co mi : Nat → Int64} {T : Nat → Nat → Int64} {B : Nat → Nat → Nat → Int32} {hd : Nat → Nat → Int32} {df : Nat → Int32} (v : Int32) : KX0_change l D ca ad [.ref 10, .int 2, .int 13, .int v] (XW n vs be de sz ro co mi T B hd df) (some (.int (B 6 2 13))) (XW n vs be de sz ro co mi T (up B 6 (chX (B 6) 2 13 v)) hd df) := by
  refine PX0_change (Nat.le_of_ble_eq_true rfl) ?_
  intro G hT hC hR
  refine mB hT 14 rfl ?_
  refine mWd (w2 := (XW n vs be de sz ro co mi T (up B 6 (up (B 6) 2 (up (B 6 2) 13 v))) hd df)) rfl ?_
  exact c_change_on (i := 2) (what := 13) (v := v) hT hC hR
set_option maxRecDepth 20000 in
theorem c_change_2_14 {n vs : Int32} {be de : Int64} {sz : Int32} {ro co mi : Nat → Int64} {T : Nat → Nat → Int64} {B : Nat → Nat → Nat → Int32} {hd : Nat → Nat → Int32} {df : Nat → Int32} (v : Int32) : KX0_change l D ca ad [.ref 10, .int 2, .int 14, .int v] (XW n vs be de sz ro co mi T B hd df) (some (.int (B 6 2 14))) (XW n vs be de sz ro co mi T (up B 6 (chX (B 6) 2 14 v)) hd df) := by
  refine PX0_change (Nat.le_of_ble_eq_true rfl) ?_
  intro G hT hC hR
  refine mB hT 14 rfl ?_
  refine mWd (w2 := (XW n vs be de sz ro co mi T (up B 6 (up (B 6) 2 (up (B 6 2) 14 v))) hd df)) rfl ?_
  exact c_change_on (i := 2) (what := 14) (v := v) hT hC hR
set_option maxRecDepth 20000 in
theorem c_change_2_15 {n vs : Int32} {be de : Int64} {sz : Int32} {ro co mi : Nat → Int64} {T : Nat → Nat → Int64} {B : Nat → Nat → Nat → Int32} {hd : Nat → Nat → Int32} {df : Nat → Int32} (v : Int32) : KX0_change l D ca ad [.ref 10, .int 2, .int 15, .int v] (XW n vs be de sz ro co mi T B hd df) (some (.int (B 6 2 15))) (XW n vs be de sz ro co mi T (up B 6 (chX (B 6) 2 15 v)) hd df) := by
  refine PX0_change (Nat.le_of_ble_eq_true rfl) ?_
  intro G hT hC hR
  refine mB hT 14 rfl ?_
  refine mWd (w2 := (XW n vs be de sz ro co mi T (up B 6 (up (B 6) 2 (up (B 6 2) 15 v))) hd df)) rfl ?_
  exact c_change_on (i := 2) (what := 15) (v := v) hT hC hR
set_option maxRecDepth 20000 in
theorem c_change_2_16 {n vs : Int32} {be de : Int64} {sz : Int32} {ro co mi : Nat → Int64} {T : Nat → Nat → Int64} {B : Nat → Nat → Nat → Int32} {hd : Nat → Nat → Int32} {df : Nat → Int32} (v : Int32) : KX0_change l D ca ad [.ref 10, .int 2, .int 16, .int v] (XW n vs be de sz ro co mi T B hd df) (some (.int (B 6 2 16))) (XW n vs be de sz ro co mi T (up B 6 (chX (B 6) 2 16 v)) hd df) := by
  refine PX0_change (Nat.le_of_ble_eq_true rfl) ?_
  intro G hT hC hR
  refine mB hT 14 rfl ?_
  refine mWd (w2 := (XW n vs be de sz ro co mi T (up B 6 (up (B 6) 2 (up (B 6 2) 16 v))) hd df)) rfl ?_
  exact c_change_on (i := 2) (what := 16) (v := v) hT hC hR
set_option maxRecDepth 20000 in
theorem c_change_2_17 {n vs : Int32} {be de : Int64} {sz : Int32} {ro co mi : Nat → Int64} {T : Nat → Nat → Int64} {B : Nat → Nat → Nat → Int32} {hd : Nat → Nat → Int32} {df : Nat → Int32} (v : Int32) : KX0_change l D ca ad [.ref 10, .int 2, .int 17, .int v] (XW n vs be de sz ro co mi T B hd df) (some (.int (B 6 2 17))) (XW n vs be de sz ro co mi T (up B 6 (chX (B 6) 2 17 v)) hd df) := by
  refine PX0_change (Nat.le_of_ble_eq_true rfl) ?_
  intro G hT hC hR
  refine mB hT 14 rfl ?_
  refine mWd (w2 := (XW n vs be de sz ro co mi T (up B 6 (up (B 6) 2 (up (B 6 2) 17 v))) hd df)) rfl ?_
  exact c_change_on (i := 2) (what := 17) (v := v) hT hC hR
set_option maxRecDepth 20000 in
theorem c_change_2_18 {n vs : Int32} {be de : Int64} {sz : Int32} {ro co mi : Nat → Int64} {T : Nat → Nat → Int64} {B : Nat → Nat → Nat → Int32} {hd : Nat → Nat → Int32} {df : Nat → Int32} (v : Int32) : KX0_change l D ca ad [.ref 10, .int 2, .int 18, .int v] (XW n vs be de sz ro co mi T B hd df) (some (.int (B 6 2 18))) (XW n vs be de sz ro co mi T (up B 6 (chX (B 6) 2 18 v)) hd df) := by
  refine PX0_change (Nat.le_of_ble_eq_true rfl) ?_
  intro G hT hC hR
  refine mB hT 14 rfl ?_
  refine mWd (w2 := (XW n vs be de sz ro co mi T (up B 6 (up (B 6) 2 (up (B 6 2) 18 v))) hd df)) rfl ?_
  exact c_change_on (i := 2) (what := 18) (v := v) hT hC hR
set_option maxRecDepth 20000 in
theorem c_change_2_19 {n vs : Int32} {be de : Int64} {sz : Int32} {ro co mi : Nat → Int64} {T : Nat → Nat → Int64} {B : Nat → Nat → Nat → Int32} {hd : Nat → Nat → Int32} {df : Nat → Int32} (v : Int32) : KX0_change l D ca ad [.ref 10, .int 2, .int 19, .int v] (XW n vs be de sz ro co mi T B hd df) (some (.int (B 6 2 19))) (XW n vs be de sz ro co mi T (up B 6 (chX (B 6) 2 19 v)) hd df) := by
  refine PX0_change (Nat.le_of_ble_eq_true rfl) ?_
  intro G hT hC hR
  refine mB hT 14 rfl ?_
  refine mWd (w2 := (XW n vs be de sz ro co mi T (up B 6 (up (B 6) 2 (up (B 6 2) 19 v))) hd df)) rfl ?_
  exact c_change_on (i := 2) (what := 19) (v := v) hT hC hR
set_option maxRecDepth 20000 in
theorem c_change_2_20 {n vs : Int32} {be de : Int64} {sz : Int32} {ro co mi : Nat → Int64} {T : Nat → Nat → Int64} {B : Nat → Nat → Nat → Int32} {hd : Nat → Nat → Int32} {df : Nat → Int32} (v : Int32) : KX0_change l D ca ad [.ref 10, .int 2, .int 20, .int v] (XW n vs be de sz ro co mi T B hd df) (some (.int (B 6 2 20))) (XW n vs be de sz ro co mi T (up B 6 (chX (B 6) 2 20 v)) hd df) := by
  refine PX0_change (Nat.le_of_ble_eq_true rfl) ?_
  intro G hT hC hR
  refine mB hT 14 rfl ?_
  refine mWd (w2 := (XW n vs be de sz ro co mi T (up B 6 (up (B 6) 2 (up (B 6 2) 20 v))) hd df)) rfl ?_
  exact c_change_on (i := 2) (what := 20) (v := v) hT hC hR
set_option maxRecDepth 20000 in
theorem c_change_2_21 {n vs : Int32} {be de : Int64} {sz : Int32} {ro co mi : Nat → Int64} {T : Nat → Nat → Int64} {B : Nat → Nat → Nat → Int32} {hd : Nat → Nat → Int32} {df : Nat → Int32} (v : Int32) : KX0_change l D ca ad [.ref 10, .int 2, .int 21, .int v] (XW n vs be de sz ro co mi T B hd df) (some (.int (B 6 2 21))) (XW n vs be de sz ro co mi T (up B 6 (chX (B 6) 2 21 v)) hd df) := by
  refine PX0_change (Nat.le_of_ble_eq_true rfl) ?_
  intro G hT hC hR
  refine mB hT 14 rfl ?_
  refine mWd (w2 := (XW n vs be de sz ro co mi T (up B 6 (up (B 6) 2 (up (B 6 2) 21 v))) hd df)) rfl ?_
  exact c_change_on (i := 2) (what := 21) (v := v) hT hC hR
set_option maxRecDepth 20000 in
theorem c_change_2_22 {n vs : Int32} {be de : Int64} {sz : Int32} {ro co mi : Nat → Int64} {T : Nat → Nat → Int64} {B : Nat → Nat → Nat → Int32} {hd : Nat → Nat → Int32} {df : Nat → Int32} (v : Int32) : KX0_change l D ca ad [.ref 10, .int 2, .int 22, .int v] (XW n vs be de sz ro co mi T B hd df) (some (.int (B 6 2 22))) (XW n vs be de sz ro co mi T (up B 6 (chX (B 6) 2 22 v)) hd df) := by
  refine PX0_change (Nat.le_of_ble_eq_true rfl) ?_
  intro G hT hC hR
  refine mB hT 14 rfl ?_
  refine mWd (w2 := (XW n vs be de sz ro co mi T (up B 6 (up (B 6) 2 (up (B 6 2) 22 v))) hd df)) rfl ?_
  exact c_change_on (i := 2) (what := 22) (v := v) hT hC hR
set_option maxRecDepth 20000 in
theorem c_change_3_0 {n vs : Int32} {be de : Int64} {sz : Int32} {ro co mi : Nat → Int64} {T : Nat → Nat → Int64} {B : Nat → Nat → Nat → Int32} {hd : Nat → Nat → Int32} {df : Nat → Int32} (v : Int32) : KX0_change l D ca ad [.ref 10, .int 3, .int 0, .int v] (XW n vs be de sz ro co mi T B hd df) (some (.int (B 6 3 0))) (XW n vs be de sz ro co mi T (up B 6 (chX (B 6) 3 0 v)) hd df) := by
  refine PX0_change (Nat.le_of_ble_eq_true rfl) ?_
  intro G hT hC hR
  refine mB hT 14 rfl ?_
  refine mWd (w2 := (XW n vs be de sz ro co mi T (up B 6 (up (B 6) 3 (up (B 6 3) 0 v))) hd df)) rfl ?_
  exact c_change_on (i := 3) (what := 0) (v := v) hT hC hR
set_option maxRecDepth 20000 in
theorem c_change_3_1 {n vs : Int32} {be de : Int64} {sz : Int32} {ro co mi : Nat → Int64} {T : Nat → Nat → Int64} {B : Nat → Nat → Nat → Int32} {hd : Nat → Nat → Int32} {df : Nat → Int32} (v : Int32) : KX0_change l D ca ad [.ref 10, .int 3, .int 1, .int v] (XW n vs be de sz ro co mi T B hd df) (some (.int (B 6 3 1))) (XW n vs be de sz ro co mi T (up B 6 (chX (B 6) 3 1 v)) hd df) := by
  refine PX0_change (Nat.le_of_ble_eq_true rfl) ?_
  intro G hT hC hR
  refine mB hT 14 rfl ?_
  refine mWd (w2 := (XW n vs be de sz ro co mi T (up B 6 (up (B 6) 3 (up (B 6 3) 1 v))) hd df)) rfl ?_
  exact c_change_on (i := 3) (what := 1) (v := v) hT hC hR
set_option maxRecDepth 20000 in
theorem c_change_3_4 {n vs : Int32} {be de : Int64} {sz : Int32} {ro co mi : Nat → Int64} {T : Nat → Nat → Int64} {B : Nat → Nat → Nat → Int32} {hd : Nat → Nat → Int32} {df : Nat → Int32} (v : Int32) : KX0_change l D ca ad [.ref 10, .int 3, .int 4, .int v] (XW n vs be de sz ro co mi T B hd df) (some (.int (B 6 3 4))) (XW n vs be de sz ro co mi T (up B 6 (chX (B 6) 3 4 v)) hd df) := by
  refine PX0_change (Nat.le_of_ble_eq_true rfl) ?_
  intro G hT hC hR
  refine mB hT 14 rfl ?_
  refine mWd (w2 := (XW n vs be de sz ro co mi T (up B 6 (up (B 6) 3 (up (B 6 3) 4 v))) hd df)) rfl ?_
  exact c_change_on (i := 3) (what := 4) (v := v) hT hC hR
set_option maxRecDepth 20000 in
theorem c_change_3_5 {n vs : Int32} {be de : Int64} {sz : Int32} {ro co mi : Nat → Int64} {T : Nat → Nat → Int64} {B : Nat → Nat → Nat → Int32} {hd : Nat → Nat → Int32} {df : Nat → Int32} (v : Int32) : KX0_change l D ca ad [.ref 10, .int 3, .int 5, .int v] (XW n vs be de sz ro co mi T B hd df) (some (.int (B 6 3 5))) (XW n vs be de sz ro co mi T (up B 6 (chX (B 6) 3 5 v)) hd df) := by
  refine PX0_change (Nat.le_of_ble_eq_true rfl) ?_
  intro G hT hC hR
  refine mB hT 14 rfl ?_
  refine mWd (w2 := (XW n vs be de sz ro co mi T (up B 6 (up (B 6) 3 (up (B 6 3) 5 v))) hd df)) rfl ?_
  exact c_change_on (i := 3) (what := 5) (v := v) hT hC hR
set_option maxRecDepth 20000 in
theorem c_change_3_6 {n vs : Int32} {be de : Int64} {sz : Int32} {ro co mi : Nat → Int64} {T : Nat → Nat → Int64} {B : Nat → Nat → Nat → Int32} {hd : Nat → Nat → Int32} {df : Nat → Int32} (v : Int32) : KX0_change l D ca ad [.ref 10, .int 3, .int 6, .int v] (XW n vs be de sz ro co mi T B hd df) (some (.int (B 6 3 6))) (XW n vs be de sz ro co mi T (up B 6 (chX (B 6) 3 6 v)) hd df) := by
  refine PX0_change (Nat.le_of_ble_eq_true rfl) ?_
  intro G hT hC hR
  refine mB hT 14 rfl ?_
  refine mWd (w2 := (XW n vs be de sz ro co mi T (up B 6 (up (B 6) 3 (up (B 6 3) 6 v))) hd df)) rfl ?_
  exact c_change_on (i := 3) (what := 6) (v := v) hT hC hR
set_option maxRecDepth 20000 in
theorem c_change_3_7 {n vs : Int32} {be de : Int64} {sz : Int32} {ro co mi : Nat → Int64} {T : Nat → Nat → Int64} {B : Nat → Nat → Nat → Int32} {hd : Nat → Nat → Int32} {df : Nat → Int32} (v : Int32) : KX0_change l D ca ad [.ref 10, .int 3, .int 7, .int v] (XW n vs be de sz ro co mi T B hd df) (some (.int (B 6 3 7))) (XW n vs be de sz ro co mi T (up B 6 (chX (B 6) 3 7 v)) hd df) := by
  refine PX0_change (Nat.le_of_ble_eq_true rfl) ?_
  intro G hT hC hR
  refine mB hT 14 rfl ?_
  refine mWd (w2 := (XW n vs be de sz ro co mi T (up B 6 (up (B 6) 3 (up (B 6 3) 7 v))) hd df)) rfl ?_
  exact c_change_on (i := 3) (what := 7) (v := v) hT hC hR
set_option maxRecDepth 20000 in
theorem c_change_3_8 {n vs : Int32} {be de : Int64} {sz : Int32} {ro co mi : Nat → Int64} {T : Nat → Nat → Int64} {B : Nat → Nat → Nat → Int32} {hd : Nat → Nat → Int32} {df : Nat → Int32} (v : Int32) : KX0_change l D ca ad [.ref 10, .int 3, .int 8, .int v] (XW n vs be de sz ro co mi T B hd df) (some (.int (B 6 3 8))) (XW n vs be de sz ro co mi T (up B 6 (chX (B 6) 3 8 v)) hd df) := by
  refine PX0_change (Nat.le_of_ble_eq_true rfl) ?_
  intro G hT hC hR
  refine mB hT 14 rfl ?_
  refine mWd (w2 := (XW n vs be de sz ro co mi T (up B 6 (up (B 6) 3 (up (B 6 3) 8 v))) hd df)) rfl ?_
  exact c_change_on (i := 3) (what := 8) (v := v) hT hC hR
set_option maxRecDepth 20000 in
theorem c_change_3_9 {n vs : Int32} {be de : Int64} {sz : Int32} {ro co mi : Nat → Int64} {T : Nat → Nat → Int64} {B : Nat → Nat → Nat → Int32} {hd : Nat → Nat → Int32} {df : Nat → Int32} (v : Int32) : KX0_change l D ca ad [.ref 10, .int 3, .int 9, .int v] (XW n vs be de sz ro co mi T B hd df) (some (.int (B 6 3 9))) (XW n vs be de sz ro co mi T (up B 6 (chX (B 6) 3 9 v)) hd df) := by
  refine PX0_change (Nat.le_of_ble_eq_true rfl) ?_
  intro G hT hC hR
  refine mB hT 14 rfl ?_
  refine mWd (w2 := (XW n vs be de sz ro co mi T (up B 6 (up (B 6) 3 (up (B 6 3) 9 v))) hd df)) rfl ?_
  exact c_change_on (i := 3) (what := 9) (v := v) hT hC hR
set_option maxRecDepth 20000 in
theorem c_change_3_10 {n vs : Int32} {be de : Int64} {sz : Int32} {ro co mi : Nat → Int64} {T : Nat → Nat → Int64} {B : Nat → Nat → Nat → Int32} {hd : Nat → Nat → Int32} {df : Nat → Int32} (v : Int32) : KX0_change l D ca ad [.ref 10, .int 3, .int 10, .int v] (XW n vs be de sz ro co mi T B hd df) (some (.int (B 6 3 10))) (XW n vs be de sz ro co mi T (up B 6 (chX (B 6) 3 10 v)) hd df) := by
  refine PX0_change (Nat.le_of_ble_eq_true rfl) ?_
  intro G hT hC hR
  refine mB hT 14 rfl ?_
  refine mWd (w2 := (XW n vs be de sz ro co mi T (up B 6 (up (B 6) 3 (up (B 6 3) 10 v))) hd df)) rfl ?_
  exact c_change_on (i := 3) (what := 10) (v := v) hT hC hR
set_option maxRecDepth 20000 in
theorem c_change_3_11 {n vs : Int32} {be de : Int64} {sz : Int32} {ro co mi : Nat → Int64} {T : Nat → Nat → Int64} {B : Nat → Nat → Nat → Int32} {hd : Nat → Nat → Int32} {df : Nat → Int32} (v : Int32) : KX0_change l D ca ad [.ref 10, .int 3, .int 11, .int v] (XW n vs be de sz ro co mi T B hd df) (some (.int (B 6 3 11))) (XW n vs be de sz ro co mi T (up B 6 (chX (B 6) 3 11 v)) hd df) := by
  refine PX0_change (Nat.le_of_ble_eq_true rfl) ?_
  intro G hT hC hR
  refine mB hT 14 rfl ?_
  refine mWd (w2 := (XW n vs be de sz ro co mi T (up B 6 (up (B 6) 3 (up (B 6 3) 11 v))) hd df)) rfl ?_
  exact c_change_on (i := 3) (what := 11) (v := v) hT hC hR
set_option maxRecDepth 20000 in
theorem c_change_3_12 {n vs : Int32} {be de : Int64} {sz : Int32} {ro co mi : Nat → Int64} {T : Nat → Nat → Int64} {B : Nat → Nat → Nat → Int32} {hd : Nat → Nat → Int32} {df : Nat → Int32} (v : Int32) : KX0_change l D ca ad [.ref 10, .int 3, .int 12, .int v] (XW n vs be de sz ro co mi T B hd df) (some (.int (B 6 3 12))) (XW n vs be de sz ro co mi T (up B 6 (chX (B 6) 3 12 v)) hd df) := by
  refine PX0_change (Nat.le_of_ble_eq_true rfl) ?_
  intro G hT hC hR
  refine mB hT 14 rfl ?_
  refine mWd (w2 := (XW n vs be de sz ro co mi T (up B 6 (up (B 6) 3 (up (B 6 3) 12 v))) hd df)) rfl ?_
  exact c_change_on (i := 3) (what := 12) (v := v) hT hC hR
set_option maxRecDepth 20000 in
theorem c_change_3_13 {n vs : Int32} {be de : Int64} {sz : Int32} {ro co mi : Nat → Int64} {T : Nat → Nat → Int64} {B : Nat → Nat → Nat → Int32} {hd : Nat → Nat → Int32} {df : Nat → Int32} (v : Int32) : KX0_change l D ca ad [.ref 10, .int 3, .int 13, .int v] (XW n vs be de sz ro co mi T B hd df) (some (.int (B 6 3 13))) (XW n vs be de sz ro co mi T (up B 6 (chX (B 6) 3 13 v)) hd df) := by
  refine PX0_change (Nat.le_of_ble_eq_true rfl) ?_
  intro G hT hC hR
  refine mB hT 14 rfl ?_
  refine mWd (w2 := (XW n vs be de sz ro co mi T (up B 6 (up (B 6) 3 (up (B 6 3) 13 v))) hd df)) rfl ?_
  exact c_change_on (i := 3) (what := 13) (v := v) hT hC hR
set_option maxRecDepth 20000 in
theorem c_change_3_14 {n vs : Int32} {be de : Int64} {sz : Int32} {ro co mi : Nat → Int64} {T : Nat → Nat → Int64} {B : Nat → Nat → Nat → Int32} {hd : Nat → Nat → Int32} {df : Nat → Int32} (v : Int32) : KX0_change l D ca ad [.ref 10, .int 3, .int 14, .int v] (XW n vs be de sz ro co mi T B hd df) (some (.int (B 6 3 14))) (XW n vs be de sz ro co mi T (up B 6 (chX (B 6) 3 14 v)) hd df) := by
  refine PX0_change (Nat.le_of_ble_eq_true rfl) ?_
  intro G hT hC hR
  refine mB hT 14 rfl ?_
  refine mWd (w2 := (XW n vs be de sz ro co mi T (up B 6 (up (B 6) 3 (up (B 6 3) 14 v))) hd df)) rfl ?_
  exact c_change_on (i := 3) (what := 14) (v := v) hT hC hR
set_option maxRecDepth 20000 in
theorem c_change_3_15 {n vs : Int32} {be de : Int64} {sz : Int32} {ro co mi : Nat → Int64} {T : Nat → Nat → Int64} {B : Nat → Nat → Nat → Int32} {hd : Nat → Nat → Int32} {df : Nat → Int32} (v : Int32) : KX0_change l D ca ad [.ref 10, .int 3, .int 15, .int v] (XW n vs be de sz ro co mi T B hd df) (some (.int (B 6 3 15))) (XW n vs be de sz ro co mi T (up B 6 (chX (B 6) 3 15 v)) hd df) := by
  refine PX0_change (Nat.le_of_ble_eq_true rfl) ?_
  intro G hT hC hR
  refine mB hT 14 rfl ?_
  refine mWd (w2 := (XW n vs be de sz ro co mi T (up B 6 (up (B 6) 3 (up (B 6 3) 15 v))) hd df)) rfl ?_
  exact c_change_on (i := 3) (what := 15) (v := v) hT hC hR
set_option maxRecDepth 20000 in
theorem c_change_3_16 {n vs : Int32} {be de : Int64} {sz : Int32} {ro co mi : Nat → Int64} {T : Nat → Nat → Int64} {B : Nat → Nat → Nat → Int32} {hd : Nat → Nat → Int32} {df : Nat → Int32} (v : Int32) : KX0_change l D ca ad [.ref 10, .int 3, .int 16, .int v] (XW n vs be de sz ro co mi T B hd df) (some (.int (B 6 3 16))) (XW n vs be de sz ro co mi T (up B 6 (chX (B 6) 3 16 v)) hd df) := by
  refine PX0_change (Nat.le_of_ble_eq_true rfl) ?_
  intro G hT hC hR
  refine mB hT 14 rfl ?_
  refine mWd (w2 := (XW n vs be de sz ro co mi T (up B 6 (up (B 6) 3 (up (B 6 3) 16 v))) hd df)) rfl ?_
  exact c_change_on (i := 3) (what := 16) (v := v) hT hC hR
set_option maxRecDepth 20000 in
theorem c_change_3_17 {n vs : Int32} {be de : Int64} {sz : Int32} {ro co mi : Nat → Int64} {T : Nat → Nat → Int64} {B : Nat → Nat → Nat → Int32} {hd : Nat → Nat → Int32} {df : Nat → Int32} (v : Int32) : KX0_change l D ca ad [.ref 10, .int 3, .int 17, .int v] (XW n vs be de sz ro co mi T B hd df) (some (.int (B 6 3 17))) (XW n vs be de sz ro co mi T (up B 6 (chX (B 6) 3 17 v)) hd df) := by
  refine PX0_change (Nat.le_of_ble_eq_true rfl) ?_
  intro G hT hC hR
  refine mB hT 14 rfl ?_
  refine mWd (w2 := (XW n vs be de sz ro co mi T (up B 6 (up (B 6) 3 (up (B 6 3) 17 v))) hd df)) rfl ?_
  exact c_change_on (i := 3) (what := 17) (v := v) hT hC hR
set_option maxRecDepth 20000 in
theorem c_change_3_18 {n vs : Int32} {be de : Int64} {sz : Int32} {ro co mi : Nat → Int64} {T : Nat → Nat → Int64} {B : Nat → Nat → Nat → Int32} {hd : Nat → Nat → Int32} {df : Nat → Int32} (v : Int32) : KX0_change l D ca ad [.ref 10, .int 3, .int 18, .int v] (XW n vs be de sz ro co mi T B hd df) (some (.int (B 6 3 18))) (XW n vs be de sz ro co mi T (up B 6 (chX (B 6) 3 18 v)) hd df) := by
  refine PX0_change (Nat.le_of_ble_eq_true rfl) ?_
  intro G hT hC hR
  refine mB hT 14 rfl ?_
  refine mWd (w2 := (XW n vs be de sz ro co mi T (up B 6 (up (B 6) 3 (up (B 6 3) 18 v))) hd df)) rfl ?_
  exact c_change_on (i := 3) (what := 18) (v := v) hT hC hR
set_option maxRecDepth 20000 in
theorem c_change_3_19 {n vs : Int32} {be de : Int64} {sz : Int32} {ro co mi : Nat → Int64} {T : Nat → Nat → Int64} {B : Nat → Nat → Nat → Int32} {hd : Nat → Nat → Int32} {df : Nat → Int32} (v : Int32) : KX0_change l D ca ad [.ref 10, .int 3, .int 19, .int v] (XW n vs be de sz ro co mi T B hd df) (some (.int (B 6 3 19))) (XW n vs be de sz ro co mi T (up B 6 (chX (B 6) 3 19 v)) hd df) := by
  refine PX0_change (Nat.le_of_ble_eq_true rfl) ?_
  intro G hT hC hR
  refine mB hT 14 rfl ?_
  refine mWd (w2 := (XW n vs be de sz ro co mi T (up B 6 (up (B 6) 3 (up (B 6 3) 19 v))) hd df)) rfl ?_
  exact c_change_on (i := 3) (what := 19) (v := v) hT hC hR
set_option maxRecDepth 20000 in
theorem c_change_3_20 {n vs : Int32} {be de : Int64} {sz : Int32} {ro co mi : Nat → Int64} {T : Nat → Nat → Int64} {B : Nat → Nat → Nat → Int32} {hd : Nat → Nat → Int32} {df : Nat → Int32} (v : Int32) : KX0_change l D ca ad [.ref 10, .int 3, .int 20, .int v] (XW n vs be de sz ro co mi T B hd df) (some (.int (B 6 3 20))) (XW n vs be de sz ro co mi T (up B 6 (chX (B 6) 3 20 v)) hd df) := by
  refine PX0_change (Nat.le_of_ble_eq_true rfl) ?_
  intro G hT hC hR
  refine mB hT 14 rfl ?_
  refine mWd (w2 := (XW n vs be de sz ro co mi T (up B 6 (up (B 6) 3 (up (B 6 3) 20 v))) hd df)) rfl ?_
  exact c_change_on (i := 3) (what := 20) (v := v) hT hC hR
set_option maxRecDepth 20000 in
theorem c_change_3_21 {n vs : Int32} {be de : Int64} {sz : Int32} {ro co mi : Nat → Int64} {T : Nat → Nat → Int64} {B : Nat → Nat → Nat → Int32} {hd : Nat → Nat → Int32} {df : Nat → Int32} (v : Int32) : KX0_change l D ca ad [.ref 10, .int 3, .int 21, .int v] (XW n vs be de sz ro co mi T B hd df) (some (.int (B 6 3 21))) (XW n vs be de sz ro co mi T (up B 6 (chX (B 6) 3 21 v)) hd df) := by
  refine PX0_change (Nat.le_of_ble_eq_true rfl) ?_
  intro G hT hC hR
  refine mB hT 14 rfl ?_
  refine mWd (w2 := (XW n vs be de sz ro co mi T (up B 6 (up (B 6) 3 (up (B 6 3) 21 v))) hd df)) rfl ?_
  exact c_change_on (i := 3) (what := 21) (v := v) hT hC hR
set_option maxRecDepth 20000 in
theorem c_change_3_22 {n vs : Int32} {be de : Int64} {sz : Int32} {ro co mi : Nat → Int64} {T : Nat → Nat → Int64} {B : Nat → Nat → Nat → Int32} {hd : Nat → Nat → Int32} {df : Nat → Int32} (v : Int32) : KX0_change l D ca ad [.ref 10, .int 3, .int 22, .int v] (XW n vs be de sz ro co mi T B hd df) (some (.int (B 6 3 22))) (XW n vs be de sz ro co mi T (up B 6 (chX (B 6) 3 22 v)) hd df) := by
  refine PX0_change (Nat.le_of_ble_eq_true rfl) ?_
  intro G hT hC hR
  refine mB hT 14 rfl ?_
  refine mWd (w2 := (XW n vs be de sz ro co mi T (up B 6 (up (B 6) 3 (up (B 6 3) 22 v))) hd df)) rfl ?_
  exact c_change_on (i := 3) (what := 22) (v := v) hT hC hR
end
