theorem mAaldH {G : mS → Prop} {tb : List (Nat × mR)} (hT : mTb G tb) {pc m : Nat} (hm : (pc, r_aald m) ∈ tb) {lv : mL} {st : List Value} {b : Nat} (hb : b < 4) {n vs : Int32} {be de : Int64} {sz : Int32} {ro co mi : Nat → Int64} {T : Nat → Nat → Int64} {B : Nat → Nat → Nat → Int32} {hd : Nat → Nat → Int32} {df : Nat → Int32} (k : G (m, lv, .ref (23 + b) :: st, XW n vs be de sz ro co mi T B hd df)) : G (pc, lv, .int (Int32.ofNat b) :: .ref 22 :: st, XW n vs be de sz ro co mi T B hd df) := by
  match b, hb with
  | 0, _ => exact hT.1 _ hm _ _ _ _ rfl k
  | 1, _ => exact hT.1 _ hm _ _ _ _ rfl k
  | 2, _ => exact hT.1 _ hm _ _ _ _ rfl k
  | 3, _ => exact hT.1 _ hm _ _ _ _ rfl k
theorem absX_ne {x : Int64} (h : ¬ x = 0) : ¬ absX x = 0 := by
  unfold absX
  split
  · intro q; exact h (by rw [← @Int64.neg_neg x, q]; rfl)
  · exact h
section
variable {l : Launch} {D : va_G} {ca : Nat → ClassId} {ad : Nat → Nat}

theorem c_solve1_6 {n vs : Nat} {be de : Int64} {sz : Int32} {ro co mi : Nat → Int64} {T : Nat → Nat → Int64} {B : Nat → Nat → Nat → Int32} {hd : Nat → Nat → Int32} {df : Nat → Int32} {b : Nat} (hn : n ≤ 4) (hb : b < 4) (h0 : ¬ detX n (lyT n (B 6) T) = 0) : ∃ (de2 : Int64) (co2 mi2 : Nat → Int64) (T2 : Nat → Nat → Int64), KX1_solve l D ca ad [.ref 1, .ref 10, .int (Int32.ofNat n), .ref (23 + b)] (XW (Int32.ofNat n) (Int32.ofNat vs) be de sz ro co mi T B hd df) (some (.int 1)) (XW (Int32.ofNat n) (Int32.ofNat vs) (absX (detX n (lyT n (B 6) T))) de2 (Int32.ofNat n) (roX n (lyT n (B 6) T) (hd b) ro) co2 mi2 T2 B hd df) := by
  match n, hn, b, hb, h0 with
  | 0, _, 0, _, h0 => exact c_solve1_6_0_0 h0
  | 0, _, 1, _, h0 => exact c_solve1_6_0_1 h0
  | 0, _, 2, _, h0 => exact c_solve1_6_0_2 h0
  | 0, _, 3, _, h0 => exact c_solve1_6_0_3 h0
  | 1, _, 0, _, h0 => exact c_solve1_6_1_0 h0
  | 1, _, 1, _, h0 => exact c_solve1_6_1_1 h0
  | 1, _, 2, _, h0 => exact c_solve1_6_1_2 h0
  | 1, _, 3, _, h0 => exact c_solve1_6_1_3 h0
  | 2, _, 0, _, h0 => exact c_solve1_6_2_0 h0
  | 2, _, 1, _, h0 => exact c_solve1_6_2_1 h0
  | 2, _, 2, _, h0 => exact c_solve1_6_2_2 h0
  | 2, _, 3, _, h0 => exact c_solve1_6_2_3 h0
  | 3, _, 0, _, h0 => exact c_solve1_6_3_0 h0
  | 3, _, 1, _, h0 => exact c_solve1_6_3_1 h0
  | 3, _, 2, _, h0 => exact c_solve1_6_3_2 h0
  | 3, _, 3, _, h0 => exact c_solve1_6_3_3 h0
  | 4, _, 0, _, h0 => exact c_solve1_6_4_0 h0
  | 4, _, 1, _, h0 => exact c_solve1_6_4_1 h0
  | 4, _, 2, _, h0 => exact c_solve1_6_4_2 h0
  | 4, _, 3, _, h0 => exact c_solve1_6_4_3 h0
theorem c_solve0_6 {n vs : Nat} {be de : Int64} {sz : Int32} {ro co mi : Nat → Int64} {T : Nat → Nat → Int64} {B : Nat → Nat → Nat → Int32} {hd : Nat → Nat → Int32} {df : Nat → Int32} {b : Nat} (hn : n ≤ 4) (hb : b < 4) (h0 : detX n (lyT n (B 6) T) = 0) : ∃ (de2 : Int64) (mi2 : Nat → Int64) (T2 : Nat → Nat → Int64), KX1_solve l D ca ad [.ref 1, .ref 10, .int (Int32.ofNat n), .ref (23 + b)] (XW (Int32.ofNat n) (Int32.ofNat vs) be de sz ro co mi T B hd df) (some (.int 0)) (XW (Int32.ofNat n) (Int32.ofNat vs) be de2 (Int32.ofNat n) ro co mi2 T2 B hd df) := by
  match n, hn, b, hb, h0 with
  | 0, _, _, _, h0 => exact absurd (show (1 : Int64) = 0 from h0) (by decide)
  | 1, _, 0, _, h0 => exact c_solve0_6_1_0 h0
  | 1, _, 1, _, h0 => exact c_solve0_6_1_1 h0
  | 1, _, 2, _, h0 => exact c_solve0_6_1_2 h0
  | 1, _, 3, _, h0 => exact c_solve0_6_1_3 h0
  | 2, _, 0, _, h0 => exact c_solve0_6_2_0 h0
  | 2, _, 1, _, h0 => exact c_solve0_6_2_1 h0
  | 2, _, 2, _, h0 => exact c_solve0_6_2_2 h0
  | 2, _, 3, _, h0 => exact c_solve0_6_2_3 h0
  | 3, _, 0, _, h0 => exact c_solve0_6_3_0 h0
  | 3, _, 1, _, h0 => exact c_solve0_6_3_1 h0
  | 3, _, 2, _, h0 => exact c_solve0_6_3_2 h0
  | 3, _, 3, _, h0 => exact c_solve0_6_3_3 h0
  | 4, _, 0, _, h0 => exact c_solve0_6_4_0 h0
  | 4, _, 1, _, h0 => exact c_solve0_6_4_1 h0
  | 4, _, 2, _, h0 => exact c_solve0_6_4_2 h0
  | 4, _, 3, _, h0 => exact c_solve0_6_4_3 h0
theorem c_sum_6 {n vs : Nat} {be de : Int64} {ro co mi : Nat → Int64} {T : Nat → Nat → Int64} {B : Nat → Nat → Nat → Int32} {hd : Nat → Nat → Int32} {df : Nat → Int32} (hn : n ≤ 4) (k s : Nat) (hk : k < 3) (hs : s < 3) : KX1_sumOfEmissions l D ca ad [.ref 1, .ref 10, .int (Int32.ofNat k), .int (Int32.ofNat s)] (XW (Int32.ofNat n) (Int32.ofNat vs) be de (Int32.ofNat n) ro co mi T B hd df) (some (.long (smX n (B 6) ro k s))) (XW (Int32.ofNat n) (Int32.ofNat vs) be de (Int32.ofNat n) ro co mi T B hd df) := by
  match n, hn with
  | 0, _ => exact c_sum_6_0 k s hk hs
  | 1, _ => exact c_sum_6_1 k s hk hs
  | 2, _ => exact c_sum_6_2 k s hk hs
  | 3, _ => exact c_sum_6_3 k s hk hs
  | 4, _ => exact c_sum_6_4 k s hk hs
theorem c_solve1_7 {n vs : Nat} {be de : Int64} {sz : Int32} {ro co mi : Nat → Int64} {T : Nat → Nat → Int64} {B : Nat → Nat → Nat → Int32} {hd : Nat → Nat → Int32} {df : Nat → Int32} {b : Nat} (hn : n ≤ 4) (hb : b < 4) (h0 : ¬ detX n (lyT n (B 7) T) = 0) : ∃ (de2 : Int64) (co2 mi2 : Nat → Int64) (T2 : Nat → Nat → Int64), KX1_solve l D ca ad [.ref 1, .ref 16, .int (Int32.ofNat n), .ref (23 + b)] (XW (Int32.ofNat n) (Int32.ofNat vs) be de sz ro co mi T B hd df) (some (.int 1)) (XW (Int32.ofNat n) (Int32.ofNat vs) (absX (detX n (lyT n (B 7) T))) de2 (Int32.ofNat n) (roX n (lyT n (B 7) T) (hd b) ro) co2 mi2 T2 B hd df) := by
  match n, hn, b, hb, h0 with
  | 0, _, 0, _, h0 => exact c_solve1_7_0_0 h0
  | 0, _, 1, _, h0 => exact c_solve1_7_0_1 h0
  | 0, _, 2, _, h0 => exact c_solve1_7_0_2 h0
  | 0, _, 3, _, h0 => exact c_solve1_7_0_3 h0
  | 1, _, 0, _, h0 => exact c_solve1_7_1_0 h0
  | 1, _, 1, _, h0 => exact c_solve1_7_1_1 h0
  | 1, _, 2, _, h0 => exact c_solve1_7_1_2 h0
  | 1, _, 3, _, h0 => exact c_solve1_7_1_3 h0
  | 2, _, 0, _, h0 => exact c_solve1_7_2_0 h0
  | 2, _, 1, _, h0 => exact c_solve1_7_2_1 h0
  | 2, _, 2, _, h0 => exact c_solve1_7_2_2 h0
  | 2, _, 3, _, h0 => exact c_solve1_7_2_3 h0
  | 3, _, 0, _, h0 => exact c_solve1_7_3_0 h0
  | 3, _, 1, _, h0 => exact c_solve1_7_3_1 h0
  | 3, _, 2, _, h0 => exact c_solve1_7_3_2 h0
  | 3, _, 3, _, h0 => exact c_solve1_7_3_3 h0
  | 4, _, 0, _, h0 => exact c_solve1_7_4_0 h0
  | 4, _, 1, _, h0 => exact c_solve1_7_4_1 h0
  | 4, _, 2, _, h0 => exact c_solve1_7_4_2 h0
  | 4, _, 3, _, h0 => exact c_solve1_7_4_3 h0
theorem c_solve0_7 {n vs : Nat} {be de : Int64} {sz : Int32} {ro co mi : Nat → Int64} {T : Nat → Nat → Int64} {B : Nat → Nat → Nat → Int32} {hd : Nat → Nat → Int32} {df : Nat → Int32} {b : Nat} (hn : n ≤ 4) (hb : b < 4) (h0 : detX n (lyT n (B 7) T) = 0) : ∃ (de2 : Int64) (mi2 : Nat → Int64) (T2 : Nat → Nat → Int64), KX1_solve l D ca ad [.ref 1, .ref 16, .int (Int32.ofNat n), .ref (23 + b)] (XW (Int32.ofNat n) (Int32.ofNat vs) be de sz ro co mi T B hd df) (some (.int 0)) (XW (Int32.ofNat n) (Int32.ofNat vs) be de2 (Int32.ofNat n) ro co mi2 T2 B hd df) := by
  match n, hn, b, hb, h0 with
  | 0, _, _, _, h0 => exact absurd (show (1 : Int64) = 0 from h0) (by decide)
  | 1, _, 0, _, h0 => exact c_solve0_7_1_0 h0
  | 1, _, 1, _, h0 => exact c_solve0_7_1_1 h0
  | 1, _, 2, _, h0 => exact c_solve0_7_1_2 h0
  | 1, _, 3, _, h0 => exact c_solve0_7_1_3 h0
  | 2, _, 0, _, h0 => exact c_solve0_7_2_0 h0
  | 2, _, 1, _, h0 => exact c_solve0_7_2_1 h0
  | 2, _, 2, _, h0 => exact c_solve0_7_2_2 h0
  | 2, _, 3, _, h0 => exact c_solve0_7_2_3 h0
  | 3, _, 0, _, h0 => exact c_solve0_7_3_0 h0
  | 3, _, 1, _, h0 => exact c_solve0_7_3_1 h0
  | 3, _, 2, _, h0 => exact c_solve0_7_3_2 h0
  | 3, _, 3, _, h0 => exact c_solve0_7_3_3 h0
  | 4, _, 0, _, h0 => exact c_solve0_7_4_0 h0
  | 4, _, 1, _, h0 => exact c_solve0_7_4_1 h0
  | 4, _, 2, _, h0 => exact c_solve0_7_4_2 h0
  | 4, _, 3, _, h0 => exact c_solve0_7_4_3 h0
theorem c_sum_7 {n vs : Nat} {be de : Int64} {ro co mi : Nat → Int64} {T : Nat → Nat → Int64} {B : Nat → Nat → Nat → Int32} {hd : Nat → Nat → Int32} {df : Nat → Int32} (hn : n ≤ 4) (k s : Nat) (hk : k < 3) (hs : s < 3) : KX1_sumOfEmissions l D ca ad [.ref 1, .ref 16, .int (Int32.ofNat k), .int (Int32.ofNat s)] (XW (Int32.ofNat n) (Int32.ofNat vs) be de (Int32.ofNat n) ro co mi T B hd df) (some (.long (smX n (B 7) ro k s))) (XW (Int32.ofNat n) (Int32.ofNat vs) be de (Int32.ofNat n) ro co mi T B hd df) := by
  match n, hn with
  | 0, _ => exact c_sum_7_0 k s hk hs
  | 1, _ => exact c_sum_7_1 k s hk hs
  | 2, _ => exact c_sum_7_2 k s hk hs
  | 3, _ => exact c_sum_7_3 k s hk hs
  | 4, _ => exact c_sum_7_4 k s hk hs
set_option maxRecDepth 20000 in
theorem x_making_0 {be de : Int64} {sz : Int32} {ro co mi : Nat → Int64} {T : Nat → Nat → Int64} {B : Nat → Nat → Nat → Int32} {hd : Nat → Nat → Int32} {df : Nat → Int32} : KX2_making l D ca ad [.ref 0] (XW 0 0 be de sz ro co mi T B hd df) (some (.int 0)) (XW 1 0 be de sz ro co mi T B hd df) := by
  refine PX2_making (Nat.le_of_ble_eq_true rfl) ?_
  intro G hT hC hR
  refine mB hT 17 rfl ?_
  exact hR _ (by decide) _ _ _ rfl rfl
set_option maxRecDepth 20000 in
theorem x_making_1 {be de : Int64} {sz : Int32} {ro co mi : Nat → Int64} {T : Nat → Nat → Int64} {B : Nat → Nat → Nat → Int32} {hd : Nat → Nat → Int32} {df : Nat → Int32} : KX2_making l D ca ad [.ref 0] (XW 1 0 be de sz ro co mi T B hd df) (some (.int 1)) (XW 2 0 be de sz ro co mi T B hd df) := by
  refine PX2_making (Nat.le_of_ble_eq_true rfl) ?_
  intro G hT hC hR
  refine mB hT 17 rfl ?_
  exact hR _ (by decide) _ _ _ rfl rfl
set_option maxRecDepth 20000 in
theorem x_making_2 {be de : Int64} {sz : Int32} {ro co mi : Nat → Int64} {T : Nat → Nat → Int64} {B : Nat → Nat → Nat → Int32} {hd : Nat → Nat → Int32} {df : Nat → Int32} : KX2_making l D ca ad [.ref 0] (XW 2 0 be de sz ro co mi T B hd df) (some (.int 2)) (XW 3 0 be de sz ro co mi T B hd df) := by
  refine PX2_making (Nat.le_of_ble_eq_true rfl) ?_
  intro G hT hC hR
  refine mB hT 17 rfl ?_
  exact hR _ (by decide) _ _ _ rfl rfl
set_option maxRecDepth 20000 in
theorem x_making_3 {be de : Int64} {sz : Int32} {ro co mi : Nat → Int64} {T : Nat → Nat → Int64} {B : Nat → Nat → Nat → Int32} {hd : Nat → Nat → Int32} {df : Nat → Int32} : KX2_making l D ca ad [.ref 0] (XW 3 0 be de sz ro co mi T B hd df) (some (.int 3)) (XW 4 0 be de sz ro co mi T B hd df) := by
  refine PX2_making (Nat.le_of_ble_eq_true rfl) ?_
  intro G hT hC hR
  refine mB hT 17 rfl ?_
  exact hR _ (by decide) _ _ _ rfl rfl
set_option maxRecDepth 20000 in
theorem x_making_full {be de : Int64} {sz : Int32} {ro co mi : Nat → Int64} {T : Nat → Nat → Int64} {B : Nat → Nat → Nat → Int32} {hd : Nat → Nat → Int32} {df : Nat → Int32} : KX2_making l D ca ad [.ref 0] (XW 4 0 be de sz ro co mi T B hd df) (some (.int (-105))) (XW 4 0 be de sz ro co mi T B hd df) := by
  refine PX2_making (Nat.le_of_ble_eq_true rfl) ?_
  intro G hT hC hR
  refine mB hT 8 rfl ?_
  exact hR _ (by decide) _ _ _ rfl rfl
set_option maxRecDepth 20000 in
theorem x_making_state {n vs : Nat} {be de : Int64} {sz : Int32} {ro co mi : Nat → Int64} {T : Nat → Nat → Int64} {B : Nat → Nat → Nat → Int32} {hd : Nat → Nat → Int32} {df : Nat → Int32} (hv : 0 < vs) (hv6 : vs ≤ 6) : KX2_making l D ca ad [.ref 0] (XW (Int32.ofNat n) (Int32.ofNat vs) be de sz ro co mi T B hd df) (some (.int (-103))) (XW (Int32.ofNat n) (Int32.ofNat vs) be de sz ro co mi T B hd df) := by
  refine PX2_making (Nat.le_of_ble_eq_true rfl) ?_
  intro G hT hC hR
  refine mB hT 3 rfl ?_
  refine mIf (fun hp => absurd hp (nI_nle hv (by omega))) (fun _ => ?_)
  refine mB hT 1 rfl ?_
  exact hR _ (by decide) _ _ _ rfl rfl
set_option maxRecDepth 20000 in
theorem x_out_U {n vs : Nat} {be de : Int64} {sz : Int32} {ro co mi : Nat → Int64} {T : Nat → Nat → Int64} {B : Nat → Nat → Nat → Int32} {hd : Nat → Nat → Int32} {df : Nat → Int32} {i v : Int32} (hfi : ¬ (0 ≤ i ∧ i < Int32.ofNat n)) : KX2_out l D ca ad [.ref 0, .int i, .int v] (XW (Int32.ofNat n) (Int32.ofNat vs) be de sz ro co mi T B hd df) (some (.int (-101))) (XW (Int32.ofNat n) (Int32.ofNat vs) be de sz ro co mi T B hd df) := by
  refine PX2_out (Nat.le_of_ble_eq_true rfl) ?_
  intro G hT hC hR
  refine mB hT 2 rfl ?_
  refine hC.1 _ 0 [_] _ _ _ _ _ (c_isMaking_f hfi) rfl rfl (Nat.le_of_ble_eq_true rfl) rfl ?_
  refine mB hT 2 rfl ?_
  exact hR _ (by decide) _ _ _ rfl rfl
set_option maxRecDepth 20000 in
theorem x_out_O {n vs : Nat} {be de : Int64} {sz : Int32} {ro co mi : Nat → Int64} {T : Nat → Nat → Int64} {B : Nat → Nat → Nat → Int32} {hd : Nat → Nat → Int32} {df : Nat → Int32} {i : Nat} (hi : i < n) (hn : n ≤ 4) {v : Int32} (hf : ¬ (1 ≤ v ∧ v ≤ 6)) : KX2_out l D ca ad [.ref 0, .int (Int32.ofNat i), .int v] (XW (Int32.ofNat n) (Int32.ofNat vs) be de sz ro co mi T B hd df) (some (.int (-102))) (XW (Int32.ofNat n) (Int32.ofNat vs) be de sz ro co mi T B hd df) := by
  refine PX2_out (Nat.le_of_ble_eq_true rfl) ?_
  intro G hT hC hR
  refine mB hT 2 rfl ?_
  refine hC.1 _ 0 [_] _ _ _ _ _ (c_isMaking_t hi hn) rfl rfl (Nat.le_of_ble_eq_true rfl) rfl ?_
  refine mB hT 4 rfl ?_
  refine hC.2.1 _ [_, _, _] _ _ _ _ (c_isWithin_f hf) rfl (Nat.le_of_ble_eq_true rfl) rfl ?_
  refine mB hT 2 rfl ?_
  exact hR _ (by decide) _ _ _ rfl rfl
set_option maxRecDepth 20000 in
theorem x_rule_U {n vs : Nat} {be de : Int64} {sz : Int32} {ro co mi : Nat → Int64} {T : Nat → Nat → Int64} {B : Nat → Nat → Nat → Int32} {hd : Nat → Nat → Int32} {df : Nat → Int32} {i v : Int32} (hfi : ¬ (0 ≤ i ∧ i < Int32.ofNat n)) : KX2_rule l D ca ad [.ref 0, .int i, .int v] (XW (Int32.ofNat n) (Int32.ofNat vs) be de sz ro co mi T B hd df) (some (.int (-101))) (XW (Int32.ofNat n) (Int32.ofNat vs) be de sz ro co mi T B hd df) := by
  refine PX2_rule (Nat.le_of_ble_eq_true rfl) ?_
  intro G hT hC hR
  refine mB hT 2 rfl ?_
  refine hC.1 _ 0 [_] _ _ _ _ _ (c_isMaking_f hfi) rfl rfl (Nat.le_of_ble_eq_true rfl) rfl ?_
  refine mB hT 2 rfl ?_
  exact hR _ (by decide) _ _ _ rfl rfl
set_option maxRecDepth 20000 in
theorem x_rule_O {n vs : Nat} {be de : Int64} {sz : Int32} {ro co mi : Nat → Int64} {T : Nat → Nat → Int64} {B : Nat → Nat → Nat → Int32} {hd : Nat → Nat → Int32} {df : Nat → Int32} {i : Nat} (hi : i < n) (hn : n ≤ 4) {v : Int32} (hf : ¬ (0 ≤ v ∧ v ≤ 2)) : KX2_rule l D ca ad [.ref 0, .int (Int32.ofNat i), .int v] (XW (Int32.ofNat n) (Int32.ofNat vs) be de sz ro co mi T B hd df) (some (.int (-102))) (XW (Int32.ofNat n) (Int32.ofNat vs) be de sz ro co mi T B hd df) := by
  refine PX2_rule (Nat.le_of_ble_eq_true rfl) ?_
  intro G hT hC hR
  refine mB hT 2 rfl ?_
  refine hC.1 _ 0 [_] _ _ _ _ _ (c_isMaking_t hi hn) rfl rfl (Nat.le_of_ble_eq_true rfl) rfl ?_
  refine mB hT 4 rfl ?_
  refine hC.2.1 _ [_, _, _] _ _ _ _ (c_isWithin_f hf) rfl (Nat.le_of_ble_eq_true rfl) rfl ?_
  refine mB hT 2 rfl ?_
  exact hR _ (by decide) _ _ _ rfl rfl
set_option maxRecDepth 20000 in
theorem x_needs_U1 {n vs : Nat} {be de : Int64} {sz : Int32} {ro co mi : Nat → Int64} {T : Nat → Nat → Int64} {B : Nat → Nat → Nat → Int32} {hd : Nat → Nat → Int32} {df : Nat → Int32} {i j v : Int32} (hfi : ¬ (0 ≤ i ∧ i < Int32.ofNat n)) : KX2_needs l D ca ad [.ref 0, .int i, .int j, .int v] (XW (Int32.ofNat n) (Int32.ofNat vs) be de sz ro co mi T B hd df) (some (.int (-101))) (XW (Int32.ofNat n) (Int32.ofNat vs) be de sz ro co mi T B hd df) := by
  refine PX2_needs (Nat.le_of_ble_eq_true rfl) ?_
  intro G hT hC hR
  refine mB hT 2 rfl ?_
  refine hC.1 _ 0 [_] _ _ _ _ _ (c_isMaking_f hfi) rfl rfl (Nat.le_of_ble_eq_true rfl) rfl ?_
  refine mB hT 2 rfl ?_
  exact hR _ (by decide) _ _ _ rfl rfl
set_option maxRecDepth 20000 in
theorem x_needs_U2 {n vs : Nat} {be de : Int64} {sz : Int32} {ro co mi : Nat → Int64} {T : Nat → Nat → Int64} {B : Nat → Nat → Nat → Int32} {hd : Nat → Nat → Int32} {df : Nat → Int32} {i : Nat} (hi : i < n) (hn : n ≤ 4) {j v : Int32} (hfj : ¬ (0 ≤ j ∧ j < Int32.ofNat n)) : KX2_needs l D ca ad [.ref 0, .int (Int32.ofNat i), .int j, .int v] (XW (Int32.ofNat n) (Int32.ofNat vs) be de sz ro co mi T B hd df) (some (.int (-101))) (XW (Int32.ofNat n) (Int32.ofNat vs) be de sz ro co mi T B hd df) := by
  refine PX2_needs (Nat.le_of_ble_eq_true rfl) ?_
  intro G hT hC hR
  refine mB hT 2 rfl ?_
  refine hC.1 _ 0 [_] _ _ _ _ _ (c_isMaking_t hi hn) rfl rfl (Nat.le_of_ble_eq_true rfl) rfl ?_
  refine mB hT 3 rfl ?_
  refine hC.2.1 _ 0 [_] _ _ _ _ _ (c_isMaking_f hfj) rfl rfl (Nat.le_of_ble_eq_true rfl) rfl ?_
  refine mB hT 2 rfl ?_
  exact hR _ (by decide) _ _ _ rfl rfl
set_option maxRecDepth 20000 in
theorem x_needs_O {n vs : Nat} {be de : Int64} {sz : Int32} {ro co mi : Nat → Int64} {T : Nat → Nat → Int64} {B : Nat → Nat → Nat → Int32} {hd : Nat → Nat → Int32} {df : Nat → Int32} {i : Nat} (hi : i < n) (hn : n ≤ 4) {j : Nat} (hj : j < n) {v : Int32} (hf : ¬ (0 ≤ v ∧ v ≤ 6)) : KX2_needs l D ca ad [.ref 0, .int (Int32.ofNat i), .int (Int32.ofNat j), .int v] (XW (Int32.ofNat n) (Int32.ofNat vs) be de sz ro co mi T B hd df) (some (.int (-102))) (XW (Int32.ofNat n) (Int32.ofNat vs) be de sz ro co mi T B hd df) := by
  refine PX2_needs (Nat.le_of_ble_eq_true rfl) ?_
  intro G hT hC hR
  refine mB hT 2 rfl ?_
  refine hC.1 _ 0 [_] _ _ _ _ _ (c_isMaking_t hi hn) rfl rfl (Nat.le_of_ble_eq_true rfl) rfl ?_
  refine mB hT 3 rfl ?_
  refine hC.2.1 _ 0 [_] _ _ _ _ _ (c_isMaking_t hj hn) rfl rfl (Nat.le_of_ble_eq_true rfl) rfl ?_
  refine mB hT 4 rfl ?_
  refine hC.2.2.1 _ [_, _, _] _ _ _ _ (c_isWithin_f hf) rfl (Nat.le_of_ble_eq_true rfl) rfl ?_
  refine mB hT 2 rfl ?_
  exact hR _ (by decide) _ _ _ rfl rfl
set_option maxRecDepth 20000 in
theorem x_by_U1 {n vs : Nat} {be de : Int64} {sz : Int32} {ro co mi : Nat → Int64} {T : Nat → Nat → Int64} {B : Nat → Nat → Nat → Int32} {hd : Nat → Nat → Int32} {df : Nat → Int32} {i j v : Int32} (hfi : ¬ (0 ≤ i ∧ i < Int32.ofNat n)) : KX2_by l D ca ad [.ref 0, .int i, .int j, .int v] (XW (Int32.ofNat n) (Int32.ofNat vs) be de sz ro co mi T B hd df) (some (.int (-101))) (XW (Int32.ofNat n) (Int32.ofNat vs) be de sz ro co mi T B hd df) := by
  refine PX2_by (Nat.le_of_ble_eq_true rfl) ?_
  intro G hT hC hR
  refine mB hT 2 rfl ?_
  refine hC.1 _ 0 [_] _ _ _ _ _ (c_isMaking_f hfi) rfl rfl (Nat.le_of_ble_eq_true rfl) rfl ?_
  refine mB hT 2 rfl ?_
  exact hR _ (by decide) _ _ _ rfl rfl
set_option maxRecDepth 20000 in
theorem x_by_U2 {n vs : Nat} {be de : Int64} {sz : Int32} {ro co mi : Nat → Int64} {T : Nat → Nat → Int64} {B : Nat → Nat → Nat → Int32} {hd : Nat → Nat → Int32} {df : Nat → Int32} {i : Nat} (hi : i < n) (hn : n ≤ 4) {j v : Int32} (hfj : ¬ (0 ≤ j ∧ j < Int32.ofNat n)) : KX2_by l D ca ad [.ref 0, .int (Int32.ofNat i), .int j, .int v] (XW (Int32.ofNat n) (Int32.ofNat vs) be de sz ro co mi T B hd df) (some (.int (-101))) (XW (Int32.ofNat n) (Int32.ofNat vs) be de sz ro co mi T B hd df) := by
  refine PX2_by (Nat.le_of_ble_eq_true rfl) ?_
  intro G hT hC hR
  refine mB hT 2 rfl ?_
  refine hC.1 _ 0 [_] _ _ _ _ _ (c_isMaking_t hi hn) rfl rfl (Nat.le_of_ble_eq_true rfl) rfl ?_
  refine mB hT 3 rfl ?_
  refine hC.2.1 _ 0 [_] _ _ _ _ _ (c_isMaking_f hfj) rfl rfl (Nat.le_of_ble_eq_true rfl) rfl ?_
  refine mB hT 2 rfl ?_
  exact hR _ (by decide) _ _ _ rfl rfl
set_option maxRecDepth 20000 in
theorem x_by_O {n vs : Nat} {be de : Int64} {sz : Int32} {ro co mi : Nat → Int64} {T : Nat → Nat → Int64} {B : Nat → Nat → Nat → Int32} {hd : Nat → Nat → Int32} {df : Nat → Int32} {i : Nat} (hi : i < n) (hn : n ≤ 4) {j : Nat} (hj : j < n) {v : Int32} (hf : ¬ (0 ≤ v ∧ v ≤ 6)) : KX2_by l D ca ad [.ref 0, .int (Int32.ofNat i), .int (Int32.ofNat j), .int v] (XW (Int32.ofNat n) (Int32.ofNat vs) be de sz ro co mi T B hd df) (some (.int (-102))) (XW (Int32.ofNat n) (Int32.ofNat vs) be de sz ro co mi T B hd df) := by
  refine PX2_by (Nat.le_of_ble_eq_true rfl) ?_
  intro G hT hC hR
  refine mB hT 2 rfl ?_
  refine hC.1 _ 0 [_] _ _ _ _ _ (c_isMaking_t hi hn) rfl rfl (Nat.le_of_ble_eq_true rfl) rfl ?_
  refine mB hT 3 rfl ?_
  refine hC.2.1 _ 0 [_] _ _ _ _ _ (c_isMaking_t hj hn) rfl rfl (Nat.le_of_ble_eq_true rfl) rfl ?_
  refine mB hT 4 rfl ?_
  refine hC.2.2.1 _ [_, _, _] _ _ _ _ (c_isWithin_f hf) rfl (Nat.le_of_ble_eq_true rfl) rfl ?_
  refine mB hT 2 rfl ?_
  exact hR _ (by decide) _ _ _ rfl rfl
set_option maxRecDepth 20000 in
theorem x_by_S {n vs : Nat} {be de : Int64} {sz : Int32} {ro co mi : Nat → Int64} {T : Nat → Nat → Int64} {B : Nat → Nat → Nat → Int32} {hd : Nat → Nat → Int32} {df : Nat → Int32} {i : Nat} (hi : i < n) (hn : n ≤ 4) {v : Int32} (h1 : 0 ≤ v) (h2 : v ≤ 6) : KX2_by l D ca ad [.ref 0, .int (Int32.ofNat i), .int (Int32.ofNat i), .int v] (XW (Int32.ofNat n) (Int32.ofNat vs) be de sz ro co mi T B hd df) (some (.int (-102))) (XW (Int32.ofNat n) (Int32.ofNat vs) be de sz ro co mi T B hd df) := by
  refine PX2_by (Nat.le_of_ble_eq_true rfl) ?_
  intro G hT hC hR
  refine mB hT 2 rfl ?_
  refine hC.1 _ 0 [_] _ _ _ _ _ (c_isMaking_t hi hn) rfl rfl (Nat.le_of_ble_eq_true rfl) rfl ?_
  refine mB hT 3 rfl ?_
  refine hC.2.1 _ 0 [_] _ _ _ _ _ (c_isMaking_t hi hn) rfl rfl (Nat.le_of_ble_eq_true rfl) rfl ?_
  refine mB hT 4 rfl ?_
  refine hC.2.2.1 _ [_, _, _] _ _ _ _ (c_isWithin_t h1 h2) rfl (Nat.le_of_ble_eq_true rfl) rfl ?_
  refine mB hT 4 rfl ?_
  refine mIf (fun _ => ?_) (fun hn => absurd rfl hn)
  refine mB hT 1 rfl ?_
  exact hR _ (by decide) _ _ _ rfl rfl
set_option maxRecDepth 20000 in
theorem x_emits_U1 {n vs : Nat} {be de : Int64} {sz : Int32} {ro co mi : Nat → Int64} {T : Nat → Nat → Int64} {B : Nat → Nat → Nat → Int32} {hd : Nat → Nat → Int32} {df : Nat → Int32} {i k a t g : Int32} (hfi : ¬ (0 ≤ i ∧ i < Int32.ofNat n)) : KX2_emits l D ca ad [.ref 0, .int i, .int k, .int a, .int t, .int g] (XW (Int32.ofNat n) (Int32.ofNat vs) be de sz ro co mi T B hd df) (some (.int (-101))) (XW (Int32.ofNat n) (Int32.ofNat vs) be de sz ro co mi T B hd df) := by
  refine PX2_emits (Nat.le_of_ble_eq_true rfl) ?_
  intro G hT hC hR
  refine mB hT 2 rfl ?_
  refine hC.1 _ 0 [_] _ _ _ _ _ (c_isMaking_f hfi) rfl rfl (Nat.le_of_ble_eq_true rfl) rfl ?_
  refine mB hT 2 rfl ?_
  exact hR _ (by decide) _ _ _ rfl rfl
set_option maxRecDepth 20000 in
theorem x_emits_U2 {n vs : Nat} {be de : Int64} {sz : Int32} {ro co mi : Nat → Int64} {T : Nat → Nat → Int64} {B : Nat → Nat → Nat → Int32} {hd : Nat → Nat → Int32} {df : Nat → Int32} {i : Nat} (hi : i < n) (hn : n ≤ 4) {k a t g : Int32} (hfk : ¬ (0 ≤ k ∧ k < 3)) : KX2_emits l D ca ad [.ref 0, .int (Int32.ofNat i), .int k, .int a, .int t, .int g] (XW (Int32.ofNat n) (Int32.ofNat vs) be de sz ro co mi T B hd df) (some (.int (-101))) (XW (Int32.ofNat n) (Int32.ofNat vs) be de sz ro co mi T B hd df) := by
  refine PX2_emits (Nat.le_of_ble_eq_true rfl) ?_
  intro G hT hC hR
  refine mB hT 2 rfl ?_
  refine hC.1 _ 0 [_] _ _ _ _ _ (c_isMaking_t hi hn) rfl rfl (Nat.le_of_ble_eq_true rfl) rfl ?_
  refine mB hT 2 rfl ?_
  refine hC.2.1 _ [_] _ _ _ _ (c_isStuff_f hfk) rfl (Nat.le_of_ble_eq_true rfl) rfl ?_
  refine mB hT 2 rfl ?_
  exact hR _ (by decide) _ _ _ rfl rfl
set_option maxRecDepth 20000 in
theorem x_emits_O1 {n vs : Nat} {be de : Int64} {sz : Int32} {ro co mi : Nat → Int64} {T : Nat → Nat → Int64} {B : Nat → Nat → Nat → Int32} {hd : Nat → Nat → Int32} {df : Nat → Int32} {i : Nat} (hi : i < n) (hn : n ≤ 4) {k : Nat} (hk : k < 3) {a t g : Int32} (hf : ¬ (0 ≤ a ∧ a ≤ 100)) : KX2_emits l D ca ad [.ref 0, .int (Int32.ofNat i), .int (Int32.ofNat k), .int a, .int t, .int g] (XW (Int32.ofNat n) (Int32.ofNat vs) be de sz ro co mi T B hd df) (some (.int (-102))) (XW (Int32.ofNat n) (Int32.ofNat vs) be de sz ro co mi T B hd df) := by
  refine PX2_emits (Nat.le_of_ble_eq_true rfl) ?_
  intro G hT hC hR
  refine mB hT 2 rfl ?_
  refine hC.1 _ 0 [_] _ _ _ _ _ (c_isMaking_t hi hn) rfl rfl (Nat.le_of_ble_eq_true rfl) rfl ?_
  refine mB hT 2 rfl ?_
  refine hC.2.1 _ [_] _ _ _ _ (c_isStuff_t hk) rfl (Nat.le_of_ble_eq_true rfl) rfl ?_
  refine mB hT 4 rfl ?_
  refine hC.2.2.1 _ [_, _, _] _ _ _ _ (c_isWithin_f hf) rfl (Nat.le_of_ble_eq_true rfl) rfl ?_
  refine mB hT 2 rfl ?_
  exact hR _ (by decide) _ _ _ rfl rfl
set_option maxRecDepth 20000 in
theorem x_emits_O2 {n vs : Nat} {be de : Int64} {sz : Int32} {ro co mi : Nat → Int64} {T : Nat → Nat → Int64} {B : Nat → Nat → Nat → Int32} {hd : Nat → Nat → Int32} {df : Nat → Int32} {i : Nat} (hi : i < n) (hn : n ≤ 4) {k : Nat} (hk : k < 3) {a t g : Int32} (h1 : 0 ≤ a) (h2 : a ≤ 100) (hf : ¬ (0 ≤ g ∧ g ≤ 100)) : KX2_emits l D ca ad [.ref 0, .int (Int32.ofNat i), .int (Int32.ofNat k), .int a, .int t, .int g] (XW (Int32.ofNat n) (Int32.ofNat vs) be de sz ro co mi T B hd df) (some (.int (-102))) (XW (Int32.ofNat n) (Int32.ofNat vs) be de sz ro co mi T B hd df) := by
  refine PX2_emits (Nat.le_of_ble_eq_true rfl) ?_
  intro G hT hC hR
  refine mB hT 2 rfl ?_
  refine hC.1 _ 0 [_] _ _ _ _ _ (c_isMaking_t hi hn) rfl rfl (Nat.le_of_ble_eq_true rfl) rfl ?_
  refine mB hT 2 rfl ?_
  refine hC.2.1 _ [_] _ _ _ _ (c_isStuff_t hk) rfl (Nat.le_of_ble_eq_true rfl) rfl ?_
  refine mB hT 4 rfl ?_
  refine hC.2.2.1 _ [_, _, _] _ _ _ _ (c_isWithin_t h1 h2) rfl (Nat.le_of_ble_eq_true rfl) rfl ?_
  refine mB hT 4 rfl ?_
  refine hC.2.2.2.1 _ [_, _, _] _ _ _ _ (c_isWithin_f hf) rfl (Nat.le_of_ble_eq_true rfl) rfl ?_
  refine mB hT 2 rfl ?_
  exact hR _ (by decide) _ _ _ rfl rfl
set_option maxRecDepth 20000 in
theorem x_emits_O3 {n vs : Nat} {be de : Int64} {sz : Int32} {ro co mi : Nat → Int64} {T : Nat → Nat → Int64} {B : Nat → Nat → Nat → Int32} {hd : Nat → Nat → Int32} {df : Nat → Int32} {i : Nat} (hi : i < n) (hn : n ≤ 4) {k : Nat} (hk : k < 3) {a t g : Int32} (h1 : 0 ≤ a) (h2 : a ≤ 100) (h3 : 0 ≤ g) (h4 : g ≤ 100) (hf : ¬ (a ≤ t ∧ t ≤ g)) : KX2_emits l D ca ad [.ref 0, .int (Int32.ofNat i), .int (Int32.ofNat k), .int a, .int t, .int g] (XW (Int32.ofNat n) (Int32.ofNat vs) be de sz ro co mi T B hd df) (some (.int (-102))) (XW (Int32.ofNat n) (Int32.ofNat vs) be de sz ro co mi T B hd df) := by
  refine PX2_emits (Nat.le_of_ble_eq_true rfl) ?_
  intro G hT hC hR
  refine mB hT 2 rfl ?_
  refine hC.1 _ 0 [_] _ _ _ _ _ (c_isMaking_t hi hn) rfl rfl (Nat.le_of_ble_eq_true rfl) rfl ?_
  refine mB hT 2 rfl ?_
  refine hC.2.1 _ [_] _ _ _ _ (c_isStuff_t hk) rfl (Nat.le_of_ble_eq_true rfl) rfl ?_
  refine mB hT 4 rfl ?_
  refine hC.2.2.1 _ [_, _, _] _ _ _ _ (c_isWithin_t h1 h2) rfl (Nat.le_of_ble_eq_true rfl) rfl ?_
  refine mB hT 4 rfl ?_
  refine hC.2.2.2.1 _ [_, _, _] _ _ _ _ (c_isWithin_t h3 h4) rfl (Nat.le_of_ble_eq_true rfl) rfl ?_
  refine mB hT 4 rfl ?_
  refine hC.2.2.2.2.1 _ [_, _, _] _ _ _ _ (c_isWithin_f hf) rfl (Nat.le_of_ble_eq_true rfl) rfl ?_
  refine mB hT 2 rfl ?_
  exact hR _ (by decide) _ _ _ rfl rfl
set_option maxRecDepth 20000 in
theorem x_good_U {n vs : Nat} {be de : Int64} {sz : Int32} {ro co mi : Nat → Int64} {T : Nat → Nat → Int64} {B : Nat → Nat → Nat → Int32} {hd : Nat → Nat → Int32} {df : Nat → Int32} {j a p : Int32} (hfj : ¬ (0 ≤ j ∧ j < Int32.ofNat n)) : KX2_good l D ca ad [.ref 0, .int j, .int a, .int p] (XW (Int32.ofNat n) (Int32.ofNat vs) be de sz ro co mi T B hd df) (some (.int (-101))) (XW (Int32.ofNat n) (Int32.ofNat vs) be de sz ro co mi T B hd df) := by
  refine PX2_good (Nat.le_of_ble_eq_true rfl) ?_
  intro G hT hC hR
  refine mB hT 2 rfl ?_
  refine hC.1 _ 0 [_] _ _ _ _ _ (c_isMaking_f hfj) rfl rfl (Nat.le_of_ble_eq_true rfl) rfl ?_
  refine mB hT 2 rfl ?_
  exact hR _ (by decide) _ _ _ rfl rfl
set_option maxRecDepth 20000 in
theorem x_good_O1 {n vs : Nat} {be de : Int64} {sz : Int32} {ro co mi : Nat → Int64} {T : Nat → Nat → Int64} {B : Nat → Nat → Nat → Int32} {hd : Nat → Nat → Int32} {df : Nat → Int32} {j : Nat} (hj : j < n) (hn : n ≤ 4) {a p : Int32} (hf : ¬ (1 ≤ a ∧ a ≤ 5)) : KX2_good l D ca ad [.ref 0, .int (Int32.ofNat j), .int a, .int p] (XW (Int32.ofNat n) (Int32.ofNat vs) be de sz ro co mi T B hd df) (some (.int (-102))) (XW (Int32.ofNat n) (Int32.ofNat vs) be de sz ro co mi T B hd df) := by
  refine PX2_good (Nat.le_of_ble_eq_true rfl) ?_
  intro G hT hC hR
  refine mB hT 2 rfl ?_
  refine hC.1 _ 0 [_] _ _ _ _ _ (c_isMaking_t hj hn) rfl rfl (Nat.le_of_ble_eq_true rfl) rfl ?_
  refine mB hT 4 rfl ?_
  refine hC.2.1 _ [_, _, _] _ _ _ _ (c_isWithin_f hf) rfl (Nat.le_of_ble_eq_true rfl) rfl ?_
  refine mB hT 2 rfl ?_
  exact hR _ (by decide) _ _ _ rfl rfl
set_option maxRecDepth 20000 in
theorem x_good_O2 {n vs : Nat} {be de : Int64} {sz : Int32} {ro co mi : Nat → Int64} {T : Nat → Nat → Int64} {B : Nat → Nat → Nat → Int32} {hd : Nat → Nat → Int32} {df : Nat → Int32} {j : Nat} (hj : j < n) (hn : n ≤ 4) {a p : Int32} (h1 : 1 ≤ a) (h2 : a ≤ 5) (hf : ¬ (1 ≤ p ∧ p ≤ 5)) : KX2_good l D ca ad [.ref 0, .int (Int32.ofNat j), .int a, .int p] (XW (Int32.ofNat n) (Int32.ofNat vs) be de sz ro co mi T B hd df) (some (.int (-102))) (XW (Int32.ofNat n) (Int32.ofNat vs) be de sz ro co mi T B hd df) := by
  refine PX2_good (Nat.le_of_ble_eq_true rfl) ?_
  intro G hT hC hR
  refine mB hT 2 rfl ?_
  refine hC.1 _ 0 [_] _ _ _ _ _ (c_isMaking_t hj hn) rfl rfl (Nat.le_of_ble_eq_true rfl) rfl ?_
  refine mB hT 4 rfl ?_
  refine hC.2.1 _ [_, _, _] _ _ _ _ (c_isWithin_t h1 h2) rfl (Nat.le_of_ble_eq_true rfl) rfl ?_
  refine mB hT 4 rfl ?_
  refine hC.2.2.1 _ [_, _, _] _ _ _ _ (c_isWithin_f hf) rfl (Nat.le_of_ble_eq_true rfl) rfl ?_
  refine mB hT 2 rfl ?_
  exact hR _ (by decide) _ _ _ rfl rfl
set_option maxRecDepth 20000 in
theorem x_told_U {n vs : Nat} {be de : Int64} {sz : Int32} {ro co mi : Nat → Int64} {T : Nat → Nat → Int64} {B : Nat → Nat → Nat → Int32} {hd : Nat → Nat → Int32} {df : Nat → Int32} {i q : Int32} (hfi : ¬ (0 ≤ i ∧ i < Int32.ofNat n)) : KX2_told l D ca ad [.ref 0, .int i, .int q] (XW (Int32.ofNat n) (Int32.ofNat vs) be de sz ro co mi T B hd df) (some (.int (-101))) (XW (Int32.ofNat n) (Int32.ofNat vs) be de sz ro co mi T B hd df) := by
  refine PX2_told (Nat.le_of_ble_eq_true rfl) ?_
  intro G hT hC hR
  refine mB hT 2 rfl ?_
  refine hC.1 _ 0 [_] _ _ _ _ _ (c_isMaking_f hfi) rfl rfl (Nat.le_of_ble_eq_true rfl) rfl ?_
  refine mB hT 2 rfl ?_
  exact hR _ (by decide) _ _ _ rfl rfl
set_option maxRecDepth 20000 in
theorem x_told_O {n vs : Nat} {be de : Int64} {sz : Int32} {ro co mi : Nat → Int64} {T : Nat → Nat → Int64} {B : Nat → Nat → Nat → Int32} {hd : Nat → Nat → Int32} {df : Nat → Int32} {i : Nat} (hi : i < n) (hn : n ≤ 4) {q : Int32} (hf : ¬ (0 ≤ q ∧ q ≤ 22)) : KX2_told l D ca ad [.ref 0, .int (Int32.ofNat i), .int q] (XW (Int32.ofNat n) (Int32.ofNat vs) be de sz ro co mi T B hd df) (some (.int (-102))) (XW (Int32.ofNat n) (Int32.ofNat vs) be de sz ro co mi T B hd df) := by
  refine PX2_told (Nat.le_of_ble_eq_true rfl) ?_
  intro G hT hC hR
  refine mB hT 2 rfl ?_
  refine hC.1 _ 0 [_] _ _ _ _ _ (c_isMaking_t hi hn) rfl rfl (Nat.le_of_ble_eq_true rfl) rfl ?_
  refine mB hT 4 rfl ?_
  refine hC.2 _ [_, _, _] _ _ _ _ (c_isWithin_f hf) rfl (Nat.le_of_ble_eq_true rfl) rfl ?_
  refine mB hT 2 rfl ?_
  exact hR _ (by decide) _ _ _ rfl rfl
set_option maxRecDepth 20000 in
theorem x_entry_U1 {n vs : Nat} {be de : Int64} {sz : Int32} {ro co mi : Nat → Int64} {T : Nat → Nat → Int64} {B : Nat → Nat → Nat → Int32} {hd : Nat → Nat → Int32} {df : Nat → Int32} {i j : Int32} (hfj : ¬ (0 ≤ j ∧ j < Int32.ofNat n)) : KX2_entry l D ca ad [.ref 0, .int j, .int i] (XW (Int32.ofNat n) (Int32.ofNat vs) be de sz ro co mi T B hd df) (some (.int (-1000000))) (XW (Int32.ofNat n) (Int32.ofNat vs) be de sz ro co mi T B hd df) := by
  refine PX2_entry (Nat.le_of_ble_eq_true rfl) ?_
  intro G hT hC hR
  refine mB hT 2 rfl ?_
  refine hC.1 _ 0 [_] _ _ _ _ _ (c_isMaking_f hfj) rfl rfl (Nat.le_of_ble_eq_true rfl) rfl ?_
  refine mB hT 2 rfl ?_
  exact hR _ (by decide) _ _ _ rfl rfl
set_option maxRecDepth 20000 in
theorem x_entry_U2 {n vs : Nat} {be de : Int64} {sz : Int32} {ro co mi : Nat → Int64} {T : Nat → Nat → Int64} {B : Nat → Nat → Nat → Int32} {hd : Nat → Nat → Int32} {df : Nat → Int32} {j : Nat} (hj : j < n) (hn : n ≤ 4) {i : Int32} (hfi : ¬ (0 ≤ i ∧ i < Int32.ofNat n)) : KX2_entry l D ca ad [.ref 0, .int (Int32.ofNat j), .int i] (XW (Int32.ofNat n) (Int32.ofNat vs) be de sz ro co mi T B hd df) (some (.int (-1000000))) (XW (Int32.ofNat n) (Int32.ofNat vs) be de sz ro co mi T B hd df) := by
  refine PX2_entry (Nat.le_of_ble_eq_true rfl) ?_
  intro G hT hC hR
  refine mB hT 2 rfl ?_
  refine hC.1 _ 0 [_] _ _ _ _ _ (c_isMaking_t hj hn) rfl rfl (Nat.le_of_ble_eq_true rfl) rfl ?_
  refine mB hT 3 rfl ?_
  refine hC.2.1 _ 0 [_] _ _ _ _ _ (c_isMaking_f hfi) rfl rfl (Nat.le_of_ble_eq_true rfl) rfl ?_
  refine mB hT 2 rfl ?_
  exact hR _ (by decide) _ _ _ rfl rfl
set_option maxRecDepth 20000 in
theorem x_put_U1 {n vs : Nat} {be de : Int64} {sz : Int32} {ro co mi : Nat → Int64} {T : Nat → Nat → Int64} {B : Nat → Nat → Nat → Int32} {hd : Nat → Nat → Int32} {df : Nat → Int32} {b j v : Int32} (hfb : ¬ (0 ≤ b ∧ b < 4)) : KX2_put l D ca ad [.ref 0, .int b, .int j, .int v] (XW (Int32.ofNat n) (Int32.ofNat vs) be de sz ro co mi T B hd df) (some (.int (-101))) (XW (Int32.ofNat n) (Int32.ofNat vs) be de sz ro co mi T B hd df) := by
  refine PX2_put (Nat.le_of_ble_eq_true rfl) ?_
  intro G hT hC hR
  refine mB hT 1 rfl ?_
  refine hC.1 _ [_] _ _ _ _ (c_isBasket_f hfb) rfl (Nat.le_of_ble_eq_true rfl) rfl ?_
  refine mB hT 2 rfl ?_
  exact hR _ (by decide) _ _ _ rfl rfl
set_option maxRecDepth 20000 in
theorem x_put_U2 {n vs : Nat} {be de : Int64} {sz : Int32} {ro co mi : Nat → Int64} {T : Nat → Nat → Int64} {B : Nat → Nat → Nat → Int32} {hd : Nat → Nat → Int32} {df : Nat → Int32} {b : Nat} (hb : b < 4) {j v : Int32} (hfj : ¬ (0 ≤ j ∧ j < Int32.ofNat n)) : KX2_put l D ca ad [.ref 0, .int (Int32.ofNat b), .int j, .int v] (XW (Int32.ofNat n) (Int32.ofNat vs) be de sz ro co mi T B hd df) (some (.int (-101))) (XW (Int32.ofNat n) (Int32.ofNat vs) be de sz ro co mi T B hd df) := by
  refine PX2_put (Nat.le_of_ble_eq_true rfl) ?_
  intro G hT hC hR
  refine mB hT 1 rfl ?_
  refine hC.1 _ [_] _ _ _ _ (c_isBasket_t hb) rfl (Nat.le_of_ble_eq_true rfl) rfl ?_
  refine mB hT 3 rfl ?_
  refine hC.2.1 _ 0 [_] _ _ _ _ _ (c_isMaking_f hfj) rfl rfl (Nat.le_of_ble_eq_true rfl) rfl ?_
  refine mB hT 2 rfl ?_
  exact hR _ (by decide) _ _ _ rfl rfl
set_option maxRecDepth 20000 in
theorem x_put_O {n vs : Nat} {be de : Int64} {sz : Int32} {ro co mi : Nat → Int64} {T : Nat → Nat → Int64} {B : Nat → Nat → Nat → Int32} {hd : Nat → Nat → Int32} {df : Nat → Int32} {b : Nat} (hb : b < 4) {j : Nat} (hj : j < n) (hn : n ≤ 4) {v : Int32} (hf : ¬ (0 ≤ v ∧ v ≤ 20)) : KX2_put l D ca ad [.ref 0, .int (Int32.ofNat b), .int (Int32.ofNat j), .int v] (XW (Int32.ofNat n) (Int32.ofNat vs) be de sz ro co mi T B hd df) (some (.int (-102))) (XW (Int32.ofNat n) (Int32.ofNat vs) be de sz ro co mi T B hd df) := by
  refine PX2_put (Nat.le_of_ble_eq_true rfl) ?_
  intro G hT hC hR
  refine mB hT 1 rfl ?_
  refine hC.1 _ [_] _ _ _ _ (c_isBasket_t hb) rfl (Nat.le_of_ble_eq_true rfl) rfl ?_
  refine mB hT 3 rfl ?_
  refine hC.2.1 _ 0 [_] _ _ _ _ _ (c_isMaking_t hj hn) rfl rfl (Nat.le_of_ble_eq_true rfl) rfl ?_
  refine mB hT 4 rfl ?_
  refine hC.2.2 _ [_, _, _] _ _ _ _ (c_isWithin_f hf) rfl (Nat.le_of_ble_eq_true rfl) rfl ?_
  refine mB hT 2 rfl ?_
  exact hR _ (by decide) _ _ _ rfl rfl
set_option maxRecDepth 20000 in
theorem x_runs_U1 {n vs : Nat} {be de : Int64} {sz : Int32} {ro co mi : Nat → Int64} {T : Nat → Nat → Int64} {B : Nat → Nat → Nat → Int32} {hd : Nat → Nat → Int32} {df : Nat → Int32} {b i : Int32} (hfb : ¬ (0 ≤ b ∧ b < 4)) : KX2_runs l D ca ad [.ref 0, .int b, .int i] (XW (Int32.ofNat n) (Int32.ofNat vs) be de sz ro co mi T B hd df) (some (.long (-9000000000000000001))) (XW (Int32.ofNat n) (Int32.ofNat vs) be de sz ro co mi T B hd df) := by
  refine PX2_runs (Nat.le_of_ble_eq_true rfl) ?_
  intro G hT hC hR
  refine mB hT 1 rfl ?_
  refine hC.1 _ [_] _ _ _ _ (c_isBasket_f hfb) rfl (Nat.le_of_ble_eq_true rfl) rfl ?_
  refine mB hT 2 rfl ?_
  exact hR _ (by decide) _ _ _ rfl rfl
set_option maxRecDepth 20000 in
theorem x_runs_U2 {n vs : Nat} {be de : Int64} {sz : Int32} {ro co mi : Nat → Int64} {T : Nat → Nat → Int64} {B : Nat → Nat → Nat → Int32} {hd : Nat → Nat → Int32} {df : Nat → Int32} {b : Nat} (hb : b < 4) {i : Int32} (hfi : ¬ (0 ≤ i ∧ i < Int32.ofNat n)) : KX2_runs l D ca ad [.ref 0, .int (Int32.ofNat b), .int i] (XW (Int32.ofNat n) (Int32.ofNat vs) be de sz ro co mi T B hd df) (some (.long (-9000000000000000001))) (XW (Int32.ofNat n) (Int32.ofNat vs) be de sz ro co mi T B hd df) := by
  refine PX2_runs (Nat.le_of_ble_eq_true rfl) ?_
  intro G hT hC hR
  refine mB hT 1 rfl ?_
  refine hC.1 _ [_] _ _ _ _ (c_isBasket_t hb) rfl (Nat.le_of_ble_eq_true rfl) rfl ?_
  refine mB hT 3 rfl ?_
  refine hC.2.1 _ 0 [_] _ _ _ _ _ (c_isMaking_f hfi) rfl rfl (Nat.le_of_ble_eq_true rfl) rfl ?_
  refine mB hT 2 rfl ?_
  exact hR _ (by decide) _ _ _ rfl rfl
set_option maxRecDepth 20000 in
theorem x_total_U1 {n vs : Nat} {be de : Int64} {sz : Int32} {ro co mi : Nat → Int64} {T : Nat → Nat → Int64} {B : Nat → Nat → Nat → Int32} {hd : Nat → Nat → Int32} {df : Nat → Int32} {b k s p : Int32} (hfb : ¬ (0 ≤ b ∧ b < 4)) : KX2_total l D ca ad [.ref 0, .int b, .int k, .int s, .int p] (XW (Int32.ofNat n) (Int32.ofNat vs) be de sz ro co mi T B hd df) (some (.long (-9000000000000000001))) (XW (Int32.ofNat n) (Int32.ofNat vs) be de sz ro co mi T B hd df) := by
  refine PX2_total (Nat.le_of_ble_eq_true rfl) ?_
  intro G hT hC hR
  refine mB hT 1 rfl ?_
  refine hC.1 _ [_] _ _ _ _ (c_isBasket_f hfb) rfl (Nat.le_of_ble_eq_true rfl) rfl ?_
  refine mB hT 2 rfl ?_
  exact hR _ (by decide) _ _ _ rfl rfl
set_option maxRecDepth 20000 in
theorem x_total_U2 {n vs : Nat} {be de : Int64} {sz : Int32} {ro co mi : Nat → Int64} {T : Nat → Nat → Int64} {B : Nat → Nat → Nat → Int32} {hd : Nat → Nat → Int32} {df : Nat → Int32} {b : Nat} (hb : b < 4) {k s p : Int32} (hfk : ¬ (0 ≤ k ∧ k < 3)) : KX2_total l D ca ad [.ref 0, .int (Int32.ofNat b), .int k, .int s, .int p] (XW (Int32.ofNat n) (Int32.ofNat vs) be de sz ro co mi T B hd df) (some (.long (-9000000000000000001))) (XW (Int32.ofNat n) (Int32.ofNat vs) be de sz ro co mi T B hd df) := by
  refine PX2_total (Nat.le_of_ble_eq_true rfl) ?_
  intro G hT hC hR
  refine mB hT 1 rfl ?_
  refine hC.1 _ [_] _ _ _ _ (c_isBasket_t hb) rfl (Nat.le_of_ble_eq_true rfl) rfl ?_
  refine mB hT 2 rfl ?_
  refine hC.2.1 _ [_] _ _ _ _ (c_isStuff_f hfk) rfl (Nat.le_of_ble_eq_true rfl) rfl ?_
  refine mB hT 2 rfl ?_
  exact hR _ (by decide) _ _ _ rfl rfl
set_option maxRecDepth 20000 in
theorem x_total_O1 {n vs : Nat} {be de : Int64} {sz : Int32} {ro co mi : Nat → Int64} {T : Nat → Nat → Int64} {B : Nat → Nat → Nat → Int32} {hd : Nat → Nat → Int32} {df : Nat → Int32} {b : Nat} (hb : b < 4) {k : Nat} (hk : k < 3) {s p : Int32} (hf : ¬ (0 ≤ s ∧ s ≤ 2)) : KX2_total l D ca ad [.ref 0, .int (Int32.ofNat b), .int (Int32.ofNat k), .int s, .int p] (XW (Int32.ofNat n) (Int32.ofNat vs) be de sz ro co mi T B hd df) (some (.long (-9000000000000000002))) (XW (Int32.ofNat n) (Int32.ofNat vs) be de sz ro co mi T B hd df) := by
  refine PX2_total (Nat.le_of_ble_eq_true rfl) ?_
  intro G hT hC hR
  refine mB hT 1 rfl ?_
  refine hC.1 _ [_] _ _ _ _ (c_isBasket_t hb) rfl (Nat.le_of_ble_eq_true rfl) rfl ?_
  refine mB hT 2 rfl ?_
  refine hC.2.1 _ [_] _ _ _ _ (c_isStuff_t hk) rfl (Nat.le_of_ble_eq_true rfl) rfl ?_
  refine mB hT 4 rfl ?_
  refine hC.2.2.1 _ [_, _, _] _ _ _ _ (c_isWithin_f hf) rfl (Nat.le_of_ble_eq_true rfl) rfl ?_
  refine mB hT 2 rfl ?_
  exact hR _ (by decide) _ _ _ rfl rfl
set_option maxRecDepth 20000 in
theorem x_total_O2 {n vs : Nat} {be de : Int64} {sz : Int32} {ro co mi : Nat → Int64} {T : Nat → Nat → Int64} {B : Nat → Nat → Nat → Int32} {hd : Nat → Nat → Int32} {df : Nat → Int32} {b : Nat} (hb : b < 4) {k : Nat} (hk : k < 3) {s p : Int32} (h1 : 0 ≤ s) (h2 : s ≤ 2) (hf : ¬ (0 ≤ p ∧ p ≤ 1)) : KX2_total l D ca ad [.ref 0, .int (Int32.ofNat b), .int (Int32.ofNat k), .int s, .int p] (XW (Int32.ofNat n) (Int32.ofNat vs) be de sz ro co mi T B hd df) (some (.long (-9000000000000000002))) (XW (Int32.ofNat n) (Int32.ofNat vs) be de sz ro co mi T B hd df) := by
  refine PX2_total (Nat.le_of_ble_eq_true rfl) ?_
  intro G hT hC hR
  refine mB hT 1 rfl ?_
  refine hC.1 _ [_] _ _ _ _ (c_isBasket_t hb) rfl (Nat.le_of_ble_eq_true rfl) rfl ?_
  refine mB hT 2 rfl ?_
  refine hC.2.1 _ [_] _ _ _ _ (c_isStuff_t hk) rfl (Nat.le_of_ble_eq_true rfl) rfl ?_
  refine mB hT 4 rfl ?_
  refine hC.2.2.1 _ [_, _, _] _ _ _ _ (c_isWithin_t h1 h2) rfl (Nat.le_of_ble_eq_true rfl) rfl ?_
  refine mB hT 4 rfl ?_
  refine hC.2.2.2.1 _ [_, _, _] _ _ _ _ (c_isWithin_f hf) rfl (Nat.le_of_ble_eq_true rfl) rfl ?_
  refine mB hT 2 rfl ?_
  exact hR _ (by decide) _ _ _ rfl rfl
set_option maxRecDepth 20000 in
theorem x_share_U1 {n vs : Nat} {be de : Int64} {sz : Int32} {ro co mi : Nat → Int64} {T : Nat → Nat → Int64} {B : Nat → Nat → Nat → Int32} {hd : Nat → Nat → Int32} {df : Nat → Int32} {b k i : Int32} (hfb : ¬ (0 ≤ b ∧ b < 4)) : KX2_share l D ca ad [.ref 0, .int b, .int k, .int i] (XW (Int32.ofNat n) (Int32.ofNat vs) be de sz ro co mi T B hd df) (some (.long (-9000000000000000001))) (XW (Int32.ofNat n) (Int32.ofNat vs) be de sz ro co mi T B hd df) := by
  refine PX2_share (Nat.le_of_ble_eq_true rfl) ?_
  intro G hT hC hR
  refine mB hT 1 rfl ?_
  refine hC.1 _ [_] _ _ _ _ (c_isBasket_f hfb) rfl (Nat.le_of_ble_eq_true rfl) rfl ?_
  refine mB hT 2 rfl ?_
  exact hR _ (by decide) _ _ _ rfl rfl
set_option maxRecDepth 20000 in
theorem x_share_U2 {n vs : Nat} {be de : Int64} {sz : Int32} {ro co mi : Nat → Int64} {T : Nat → Nat → Int64} {B : Nat → Nat → Nat → Int32} {hd : Nat → Nat → Int32} {df : Nat → Int32} {b : Nat} (hb : b < 4) {k i : Int32} (hfk : ¬ (0 ≤ k ∧ k < 3)) : KX2_share l D ca ad [.ref 0, .int (Int32.ofNat b), .int k, .int i] (XW (Int32.ofNat n) (Int32.ofNat vs) be de sz ro co mi T B hd df) (some (.long (-9000000000000000001))) (XW (Int32.ofNat n) (Int32.ofNat vs) be de sz ro co mi T B hd df) := by
  refine PX2_share (Nat.le_of_ble_eq_true rfl) ?_
  intro G hT hC hR
  refine mB hT 1 rfl ?_
  refine hC.1 _ [_] _ _ _ _ (c_isBasket_t hb) rfl (Nat.le_of_ble_eq_true rfl) rfl ?_
  refine mB hT 2 rfl ?_
  refine hC.2.1 _ [_] _ _ _ _ (c_isStuff_f hfk) rfl (Nat.le_of_ble_eq_true rfl) rfl ?_
  refine mB hT 2 rfl ?_
  exact hR _ (by decide) _ _ _ rfl rfl
set_option maxRecDepth 20000 in
theorem x_share_U3 {n vs : Nat} {be de : Int64} {sz : Int32} {ro co mi : Nat → Int64} {T : Nat → Nat → Int64} {B : Nat → Nat → Nat → Int32} {hd : Nat → Nat → Int32} {df : Nat → Int32} {b : Nat} (hb : b < 4) {k : Nat} (hk : k < 3) {i : Int32} (hfi : ¬ (0 ≤ i ∧ i < Int32.ofNat n)) : KX2_share l D ca ad [.ref 0, .int (Int32.ofNat b), .int (Int32.ofNat k), .int i] (XW (Int32.ofNat n) (Int32.ofNat vs) be de sz ro co mi T B hd df) (some (.long (-9000000000000000001))) (XW (Int32.ofNat n) (Int32.ofNat vs) be de sz ro co mi T B hd df) := by
  refine PX2_share (Nat.le_of_ble_eq_true rfl) ?_
  intro G hT hC hR
  refine mB hT 1 rfl ?_
  refine hC.1 _ [_] _ _ _ _ (c_isBasket_t hb) rfl (Nat.le_of_ble_eq_true rfl) rfl ?_
  refine mB hT 2 rfl ?_
  refine hC.2.1 _ [_] _ _ _ _ (c_isStuff_t hk) rfl (Nat.le_of_ble_eq_true rfl) rfl ?_
  refine mB hT 3 rfl ?_
  refine hC.2.2.1 _ 0 [_] _ _ _ _ _ (c_isMaking_f hfi) rfl rfl (Nat.le_of_ble_eq_true rfl) rfl ?_
  refine mB hT 2 rfl ?_
  exact hR _ (by decide) _ _ _ rfl rfl
set_option maxRecDepth 20000 in
theorem x_sure_U1 {n vs : Nat} {be de : Int64} {sz : Int32} {ro co mi : Nat → Int64} {T : Nat → Nat → Int64} {B : Nat → Nat → Nat → Int32} {hd : Nat → Nat → Int32} {df : Nat → Int32} {a b k : Int32} (hfa : ¬ (0 ≤ a ∧ a < 4)) : KX2_sure l D ca ad [.ref 0, .int a, .int b, .int k] (XW (Int32.ofNat n) (Int32.ofNat vs) be de sz ro co mi T B hd df) (some (.int (-101))) (XW (Int32.ofNat n) (Int32.ofNat vs) be de sz ro co mi T B hd df) := by
  refine PX2_sure (Nat.le_of_ble_eq_true rfl) ?_
  intro G hT hC hR
  refine mB hT 1 rfl ?_
  refine hC.1 _ [_] _ _ _ _ (c_isBasket_f hfa) rfl (Nat.le_of_ble_eq_true rfl) rfl ?_
  refine mB hT 2 rfl ?_
  exact hR _ (by decide) _ _ _ rfl rfl
set_option maxRecDepth 20000 in
theorem x_sure_U2 {n vs : Nat} {be de : Int64} {sz : Int32} {ro co mi : Nat → Int64} {T : Nat → Nat → Int64} {B : Nat → Nat → Nat → Int32} {hd : Nat → Nat → Int32} {df : Nat → Int32} {a : Nat} (ha : a < 4) {b k : Int32} (hfb : ¬ (0 ≤ b ∧ b < 4)) : KX2_sure l D ca ad [.ref 0, .int (Int32.ofNat a), .int b, .int k] (XW (Int32.ofNat n) (Int32.ofNat vs) be de sz ro co mi T B hd df) (some (.int (-101))) (XW (Int32.ofNat n) (Int32.ofNat vs) be de sz ro co mi T B hd df) := by
  refine PX2_sure (Nat.le_of_ble_eq_true rfl) ?_
  intro G hT hC hR
  refine mB hT 1 rfl ?_
  refine hC.1 _ [_] _ _ _ _ (c_isBasket_t ha) rfl (Nat.le_of_ble_eq_true rfl) rfl ?_
  refine mB hT 2 rfl ?_
  refine hC.2.1 _ [_] _ _ _ _ (c_isBasket_f hfb) rfl (Nat.le_of_ble_eq_true rfl) rfl ?_
  refine mB hT 2 rfl ?_
  exact hR _ (by decide) _ _ _ rfl rfl
set_option maxRecDepth 20000 in
theorem x_sure_U3 {n vs : Nat} {be de : Int64} {sz : Int32} {ro co mi : Nat → Int64} {T : Nat → Nat → Int64} {B : Nat → Nat → Nat → Int32} {hd : Nat → Nat → Int32} {df : Nat → Int32} {a : Nat} (ha : a < 4) {b : Nat} (hb : b < 4) {k : Int32} (hfk : ¬ (0 ≤ k ∧ k < 3)) : KX2_sure l D ca ad [.ref 0, .int (Int32.ofNat a), .int (Int32.ofNat b), .int k] (XW (Int32.ofNat n) (Int32.ofNat vs) be de sz ro co mi T B hd df) (some (.int (-101))) (XW (Int32.ofNat n) (Int32.ofNat vs) be de sz ro co mi T B hd df) := by
  refine PX2_sure (Nat.le_of_ble_eq_true rfl) ?_
  intro G hT hC hR
  refine mB hT 1 rfl ?_
  refine hC.1 _ [_] _ _ _ _ (c_isBasket_t ha) rfl (Nat.le_of_ble_eq_true rfl) rfl ?_
  refine mB hT 2 rfl ?_
  refine hC.2.1 _ [_] _ _ _ _ (c_isBasket_t hb) rfl (Nat.le_of_ble_eq_true rfl) rfl ?_
  refine mB hT 2 rfl ?_
  refine hC.2.2.1 _ [_] _ _ _ _ (c_isStuff_f hfk) rfl (Nat.le_of_ble_eq_true rfl) rfl ?_
  refine mB hT 2 rfl ?_
  exact hR _ (by decide) _ _ _ rfl rfl
set_option maxRecDepth 20000 in
theorem x_most_U1 {n vs : Nat} {be de : Int64} {sz : Int32} {ro co mi : Nat → Int64} {T : Nat → Nat → Int64} {B : Nat → Nat → Nat → Int32} {hd : Nat → Nat → Int32} {df : Nat → Int32} {b k : Int32} (hfb : ¬ (0 ≤ b ∧ b < 4)) : KX2_most l D ca ad [.ref 0, .int b, .int k] (XW (Int32.ofNat n) (Int32.ofNat vs) be de sz ro co mi T B hd df) (some (.int (-101))) (XW (Int32.ofNat n) (Int32.ofNat vs) be de sz ro co mi T B hd df) := by
  refine PX2_most (Nat.le_of_ble_eq_true rfl) ?_
  intro G hT hC hR
  refine mB hT 1 rfl ?_
  refine hC.1 _ [_] _ _ _ _ (c_isBasket_f hfb) rfl (Nat.le_of_ble_eq_true rfl) rfl ?_
  refine mB hT 2 rfl ?_
  exact hR _ (by decide) _ _ _ rfl rfl
set_option maxRecDepth 20000 in
theorem x_most_U2 {n vs : Nat} {be de : Int64} {sz : Int32} {ro co mi : Nat → Int64} {T : Nat → Nat → Int64} {B : Nat → Nat → Nat → Int32} {hd : Nat → Nat → Int32} {df : Nat → Int32} {b : Nat} (hb : b < 4) {k : Int32} (hfk : ¬ (0 ≤ k ∧ k < 3)) : KX2_most l D ca ad [.ref 0, .int (Int32.ofNat b), .int k] (XW (Int32.ofNat n) (Int32.ofNat vs) be de sz ro co mi T B hd df) (some (.int (-101))) (XW (Int32.ofNat n) (Int32.ofNat vs) be de sz ro co mi T B hd df) := by
  refine PX2_most (Nat.le_of_ble_eq_true rfl) ?_
  intro G hT hC hR
  refine mB hT 1 rfl ?_
  refine hC.1 _ [_] _ _ _ _ (c_isBasket_t hb) rfl (Nat.le_of_ble_eq_true rfl) rfl ?_
  refine mB hT 2 rfl ?_
  refine hC.2.1 _ [_] _ _ _ _ (c_isStuff_f hfk) rfl (Nat.le_of_ble_eq_true rfl) rfl ?_
  refine mB hT 2 rfl ?_
  exact hR _ (by decide) _ _ _ rfl rfl
set_option maxRecDepth 20000 in
theorem x_turned_U {n vs : Nat} {be de : Int64} {sz : Int32} {ro co mi : Nat → Int64} {T : Nat → Nat → Int64} {B : Nat → Nat → Nat → Int32} {hd : Nat → Nat → Int32} {df : Nat → Int32} {b : Int32} (hfb : ¬ (0 ≤ b ∧ b < 4)) : KX2_turned l D ca ad [.ref 0, .int b] (XW (Int32.ofNat n) (Int32.ofNat vs) be de sz ro co mi T B hd df) (some (.int (-101))) (XW (Int32.ofNat n) (Int32.ofNat vs) be de sz ro co mi T B hd df) := by
  refine PX2_turned (Nat.le_of_ble_eq_true rfl) ?_
  intro G hT hC hR
  refine mB hT 1 rfl ?_
  refine hC.1 _ [_] _ _ _ _ (c_isBasket_f hfb) rfl (Nat.le_of_ble_eq_true rfl) rfl ?_
  refine mB hT 2 rfl ?_
  exact hR _ (by decide) _ _ _ rfl rfl
set_option maxRecDepth 20000 in
theorem x_recall_U {n vs : Nat} {be de : Int64} {sz : Int32} {ro co mi : Nat → Int64} {T : Nat → Nat → Int64} {B : Nat → Nat → Nat → Int32} {hd : Nat → Nat → Int32} {df : Nat → Int32} {v : Int32} (hfv : ¬ (0 ≤ v ∧ v < Int32.ofNat vs)) : KX2_recall l D ca ad [.ref 0, .int v] (XW (Int32.ofNat n) (Int32.ofNat vs) be de sz ro co mi T B hd df) (some (.int (-101))) (XW (Int32.ofNat n) (Int32.ofNat vs) be de sz ro co mi T B hd df) := by
  refine PX2_recall (Nat.le_of_ble_eq_true rfl) ?_
  intro G hT hC hR
  refine mB hT 2 rfl ?_
  refine hC.1 _ 0 [_] _ _ _ _ _ (c_isVersion_f hfv) rfl rfl (Nat.le_of_ble_eq_true rfl) rfl ?_
  refine mB hT 2 rfl ?_
  exact hR _ (by decide) _ _ _ rfl rfl
set_option maxRecDepth 20000 in
theorem x_blame_U1 {n vs : Nat} {be de : Int64} {sz : Int32} {ro co mi : Nat → Int64} {T : Nat → Nat → Int64} {B : Nat → Nat → Nat → Int32} {hd : Nat → Nat → Int32} {df : Nat → Int32} {v b k i : Int32} (hfv : ¬ (0 ≤ v ∧ v < Int32.ofNat vs)) : KX2_blame l D ca ad [.ref 0, .int v, .int b, .int k, .int i] (XW (Int32.ofNat n) (Int32.ofNat vs) be de sz ro co mi T B hd df) (some (.long (-9000000000000000001))) (XW (Int32.ofNat n) (Int32.ofNat vs) be de sz ro co mi T B hd df) := by
  refine PX2_blame (Nat.le_of_ble_eq_true rfl) ?_
  intro G hT hC hR
  refine mB hT 2 rfl ?_
  refine hC.1 _ 0 [_] _ _ _ _ _ (c_isVersion_f hfv) rfl rfl (Nat.le_of_ble_eq_true rfl) rfl ?_
  refine mB hT 2 rfl ?_
  exact hR _ (by decide) _ _ _ rfl rfl
set_option maxRecDepth 20000 in
theorem x_blame_U2 {n vs : Nat} {be de : Int64} {sz : Int32} {ro co mi : Nat → Int64} {T : Nat → Nat → Int64} {B : Nat → Nat → Nat → Int32} {hd : Nat → Nat → Int32} {df : Nat → Int32} {v : Nat} (hv : v < vs) (hvs : vs ≤ 6) {b k i : Int32} (hfb : ¬ (0 ≤ b ∧ b < 4)) : KX2_blame l D ca ad [.ref 0, .int (Int32.ofNat v), .int b, .int k, .int i] (XW (Int32.ofNat n) (Int32.ofNat vs) be de sz ro co mi T B hd df) (some (.long (-9000000000000000001))) (XW (Int32.ofNat n) (Int32.ofNat vs) be de sz ro co mi T B hd df) := by
  refine PX2_blame (Nat.le_of_ble_eq_true rfl) ?_
  intro G hT hC hR
  refine mB hT 2 rfl ?_
  refine hC.1 _ 0 [_] _ _ _ _ _ (c_isVersion_t hv hvs) rfl rfl (Nat.le_of_ble_eq_true rfl) rfl ?_
  refine mB hT 2 rfl ?_
  refine hC.2.1 _ [_] _ _ _ _ (c_isBasket_f hfb) rfl (Nat.le_of_ble_eq_true rfl) rfl ?_
  refine mB hT 2 rfl ?_
  exact hR _ (by decide) _ _ _ rfl rfl
set_option maxRecDepth 20000 in
theorem x_blame_U3 {n vs : Nat} {be de : Int64} {sz : Int32} {ro co mi : Nat → Int64} {T : Nat → Nat → Int64} {B : Nat → Nat → Nat → Int32} {hd : Nat → Nat → Int32} {df : Nat → Int32} {v : Nat} (hv : v < vs) (hvs : vs ≤ 6) {b : Nat} (hb : b < 4) {k i : Int32} (hfk : ¬ (0 ≤ k ∧ k < 3)) : KX2_blame l D ca ad [.ref 0, .int (Int32.ofNat v), .int (Int32.ofNat b), .int k, .int i] (XW (Int32.ofNat n) (Int32.ofNat vs) be de sz ro co mi T B hd df) (some (.long (-9000000000000000001))) (XW (Int32.ofNat n) (Int32.ofNat vs) be de sz ro co mi T B hd df) := by
  refine PX2_blame (Nat.le_of_ble_eq_true rfl) ?_
  intro G hT hC hR
  refine mB hT 2 rfl ?_
  refine hC.1 _ 0 [_] _ _ _ _ _ (c_isVersion_t hv hvs) rfl rfl (Nat.le_of_ble_eq_true rfl) rfl ?_
  refine mB hT 2 rfl ?_
  refine hC.2.1 _ [_] _ _ _ _ (c_isBasket_t hb) rfl (Nat.le_of_ble_eq_true rfl) rfl ?_
  refine mB hT 2 rfl ?_
  refine hC.2.2.1 _ [_] _ _ _ _ (c_isStuff_f hfk) rfl (Nat.le_of_ble_eq_true rfl) rfl ?_
  refine mB hT 2 rfl ?_
  exact hR _ (by decide) _ _ _ rfl rfl
set_option maxRecDepth 20000 in
theorem x_blame_U4 {n vs : Nat} {be de : Int64} {sz : Int32} {ro co mi : Nat → Int64} {T : Nat → Nat → Int64} {B : Nat → Nat → Nat → Int32} {hd : Nat → Nat → Int32} {df : Nat → Int32} {v : Nat} (hv : v < vs) (hvs : vs ≤ 6) {b : Nat} (hb : b < 4) {k : Nat} (hk : k < 3) {i : Int32} (hfi : ¬ (0 ≤ i ∧ i < Int32.ofNat n)) : KX2_blame l D ca ad [.ref 0, .int (Int32.ofNat v), .int (Int32.ofNat b), .int (Int32.ofNat k), .int i] (XW (Int32.ofNat n) (Int32.ofNat vs) be de sz ro co mi T B hd df) (some (.long (-9000000000000000001))) (XW (Int32.ofNat n) (Int32.ofNat vs) be de sz ro co mi T B hd df) := by
  refine PX2_blame (Nat.le_of_ble_eq_true rfl) ?_
  intro G hT hC hR
  refine mB hT 2 rfl ?_
  refine hC.1 _ 0 [_] _ _ _ _ _ (c_isVersion_t hv hvs) rfl rfl (Nat.le_of_ble_eq_true rfl) rfl ?_
  refine mB hT 2 rfl ?_
  refine hC.2.1 _ [_] _ _ _ _ (c_isBasket_t hb) rfl (Nat.le_of_ble_eq_true rfl) rfl ?_
  refine mB hT 2 rfl ?_
  refine hC.2.2.1 _ [_] _ _ _ _ (c_isStuff_t hk) rfl (Nat.le_of_ble_eq_true rfl) rfl ?_
  refine mB hT 3 rfl ?_
  refine hC.2.2.2.1 _ 0 [_] _ _ _ _ _ (c_isMaking_f hfi) rfl rfl (Nat.le_of_ble_eq_true rfl) rfl ?_
  refine mB hT 2 rfl ?_
  exact hR _ (by decide) _ _ _ rfl rfl
set_option maxRecDepth 20000 in
theorem x_keep_full {n : Nat} {be de : Int64} {sz : Int32} {ro co mi : Nat → Int64} {T : Nat → Nat → Int64} {B : Nat → Nat → Nat → Int32} {hd : Nat → Nat → Int32} {df : Nat → Int32} : KX2_keep l D ca ad [.ref 0] (XW (Int32.ofNat n) 6 be de sz ro co mi T B hd df) (some (.int (-105))) (XW (Int32.ofNat n) 6 be de sz ro co mi T B hd df) := by
  refine PX2_keep (Nat.le_of_ble_eq_true rfl) ?_
  intro G hT hC hR
  refine mB hT 5 rfl ?_
  exact hR _ (by decide) _ _ _ rfl rfl
end
