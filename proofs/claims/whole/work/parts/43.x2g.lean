theorem mIaldH {G : mS → Prop} {tb : List (Nat × mR)} (hT : mTb G tb) {pc m : Nat} (hm : (pc, r_iald m) ∈ tb) {lv : mL} {st : List Value} {b a : Nat} (hb : b < 4) (ha : a < 4) {n vs : Int32} {be de : Int64} {sz : Int32} {ro co mi : Nat → Int64} {T : Nat → Nat → Int64} {B : Nat → Nat → Nat → Int32} {hd : Nat → Nat → Int32} {df : Nat → Int32} (k : G (m, lv, .int (hd b a) :: st, XW n vs be de sz ro co mi T B hd df)) : G (pc, lv, .int (Int32.ofNat a) :: .ref (23 + b) :: st, XW n vs be de sz ro co mi T B hd df) := by
  match b, hb, a, ha with
  | 0, _, 0, _ => exact hT.1 _ hm _ _ _ _ rfl k
  | 0, _, 1, _ => exact hT.1 _ hm _ _ _ _ rfl k
  | 0, _, 2, _ => exact hT.1 _ hm _ _ _ _ rfl k
  | 0, _, 3, _ => exact hT.1 _ hm _ _ _ _ rfl k
  | 1, _, 0, _ => exact hT.1 _ hm _ _ _ _ rfl k
  | 1, _, 1, _ => exact hT.1 _ hm _ _ _ _ rfl k
  | 1, _, 2, _ => exact hT.1 _ hm _ _ _ _ rfl k
  | 1, _, 3, _ => exact hT.1 _ hm _ _ _ _ rfl k
  | 2, _, 0, _ => exact hT.1 _ hm _ _ _ _ rfl k
  | 2, _, 1, _ => exact hT.1 _ hm _ _ _ _ rfl k
  | 2, _, 2, _ => exact hT.1 _ hm _ _ _ _ rfl k
  | 2, _, 3, _ => exact hT.1 _ hm _ _ _ _ rfl k
  | 3, _, 0, _ => exact hT.1 _ hm _ _ _ _ rfl k
  | 3, _, 1, _ => exact hT.1 _ hm _ _ _ _ rfl k
  | 3, _, 2, _ => exact hT.1 _ hm _ _ _ _ rfl k
  | 3, _, 3, _ => exact hT.1 _ hm _ _ _ _ rfl k
theorem ofNat_ne_m1 {i : Nat} (h : i < 2 ^ 31) : ¬ Int32.ofNat i = -1 := fun e => ofNat_nneg h (by rw [e]; decide)
theorem ofNat_ne {i j : Nat} (hi : i < 2 ^ 31) (hj : j < 2 ^ 31) (h : i ≠ j) : ¬ Int32.ofNat i = Int32.ofNat j := fun e => h ((nI_eq hi hj).mp e)
section
variable {l : Launch} {D : va_G} {ca : Nat → ClassId} {ad : Nat → Nat}

theorem c_cell_6 {n vs : Int32} {be de : Int64} {sz : Int32} {ro co mi : Nat → Int64} {T : Nat → Nat → Int64} {B : Nat → Nat → Nat → Int32} {hd : Nat → Nat → Int32} {df : Nat → Int32} {j i : Nat} (hj : j < 4) (hi : i < 4) : KX0_tableCell l D ca ad [.ref 10, .int (Int32.ofNat j), .int (Int32.ofNat i)] (XW n vs be de sz ro co mi T B hd df) (some (.int (cellX (B 6 i) i j))) (XW n vs be de sz ro co mi T B hd df) := by
  match j, hj, i, hi with
  | 0, _, 0, _ => exact c_tableCell_6_0_0
  | 0, _, 1, _ => exact c_tableCell_6_0_1
  | 0, _, 2, _ => exact c_tableCell_6_0_2
  | 0, _, 3, _ => exact c_tableCell_6_0_3
  | 1, _, 0, _ => exact c_tableCell_6_1_0
  | 1, _, 1, _ => exact c_tableCell_6_1_1
  | 1, _, 2, _ => exact c_tableCell_6_1_2
  | 1, _, 3, _ => exact c_tableCell_6_1_3
  | 2, _, 0, _ => exact c_tableCell_6_2_0
  | 2, _, 1, _ => exact c_tableCell_6_2_1
  | 2, _, 2, _ => exact c_tableCell_6_2_2
  | 2, _, 3, _ => exact c_tableCell_6_2_3
  | 3, _, 0, _ => exact c_tableCell_6_3_0
  | 3, _, 1, _ => exact c_tableCell_6_3_1
  | 3, _, 2, _ => exact c_tableCell_6_3_2
  | 3, _, 3, _ => exact c_tableCell_6_3_3
theorem c_em_6 {n vs : Int32} {be de : Int64} {sz : Int32} {ro co mi : Nat → Int64} {T : Nat → Nat → Int64} {B : Nat → Nat → Nat → Int32} {hd : Nat → Nat → Int32} {df : Nat → Int32} {i : Nat} (hi : i < 4) (k s : Nat) (hk : k < 3) (hs : s < 3) : KX0_emission l D ca ad [.ref 10, .int (Int32.ofNat i), .int (Int32.ofNat k), .int (Int32.ofNat s)] (XW n vs be de sz ro co mi T B hd df) (some (.long (emX (B 6 i) k s))) (XW n vs be de sz ro co mi T B hd df) := by
  match i, hi with
  | 0, _ => exact c_emission_6_0 k s hk hs
  | 1, _ => exact c_emission_6_1 k s hk hs
  | 2, _ => exact c_emission_6_2 k s hk hs
  | 3, _ => exact c_emission_6_3 k s hk hs
set_option maxRecDepth 20000 in
theorem c_mon_n {n vs : Nat} {be de : Int64} {sz : Int32} {ro co mi : Nat → Int64} {T : Nat → Nat → Int64} {B : Nat → Nat → Nat → Int32} {hd : Nat → Nat → Int32} {df : Nat → Int32} : KX2_isMakingOrNone l D ca ad [.ref 0, .int (-1)] (XW (Int32.ofNat n) (Int32.ofNat vs) be de sz ro co mi T B hd df) (some (.int 1)) (XW (Int32.ofNat n) (Int32.ofNat vs) be de sz ro co mi T B hd df) := by
  refine PX2_isMakingOrNone (Nat.le_of_ble_eq_true rfl) (Or.inr rfl) ?_
  intro G hT hC hR
  refine mB hT 5 rfl ?_
  exact hR _ (by decide) _ _ _ rfl rfl
set_option maxRecDepth 20000 in
theorem c_mon_t {n vs : Nat} {be de : Int64} {sz : Int32} {ro co mi : Nat → Int64} {T : Nat → Nat → Int64} {B : Nat → Nat → Nat → Int32} {hd : Nat → Nat → Int32} {df : Nat → Int32} {i : Nat} (hi : i < n) (hn : n ≤ 4) : KX2_isMakingOrNone l D ca ad [.ref 0, .int (Int32.ofNat i)] (XW (Int32.ofNat n) (Int32.ofNat vs) be de sz ro co mi T B hd df) (some (.int 1)) (XW (Int32.ofNat n) (Int32.ofNat vs) be de sz ro co mi T B hd df) := by
  refine PX2_isMakingOrNone (Nat.le_of_ble_eq_true rfl) (Or.inr rfl) ?_
  intro G hT hC hR
  refine mB hT 3 rfl ?_
  refine mIf (fun hp => absurd hp (ofNat_ne_m1 (by omega))) (fun _ => ?_)
  refine mB hT 2 rfl ?_
  refine hC _ 0 [_] _ _ _ _ _ (c_isMaking_t hi hn) rfl rfl (Nat.le_of_ble_eq_true rfl) rfl ?_
  refine mB hT 3 rfl ?_
  exact hR _ (by decide) _ _ _ rfl rfl
set_option maxRecDepth 20000 in
theorem c_mon_f {n vs : Nat} {be de : Int64} {sz : Int32} {ro co mi : Nat → Int64} {T : Nat → Nat → Int64} {B : Nat → Nat → Nat → Int32} {hd : Nat → Nat → Int32} {df : Nat → Int32} {i : Int32} (hm : ¬ i = -1) (hfi : ¬ (0 ≤ i ∧ i < Int32.ofNat n)) : KX2_isMakingOrNone l D ca ad [.ref 0, .int i] (XW (Int32.ofNat n) (Int32.ofNat vs) be de sz ro co mi T B hd df) (some (.int 0)) (XW (Int32.ofNat n) (Int32.ofNat vs) be de sz ro co mi T B hd df) := by
  refine PX2_isMakingOrNone (Nat.le_of_ble_eq_true rfl) (Or.inl rfl) ?_
  intro G hT hC hR
  refine mB hT 3 rfl ?_
  refine mIf (fun hp => absurd hp hm) (fun _ => ?_)
  refine mB hT 2 rfl ?_
  refine hC _ 0 [_] _ _ _ _ _ (c_isMaking_f hfi) rfl rfl (Nat.le_of_ble_eq_true rfl) rfl ?_
  refine mB hT 2 rfl ?_
  exact hR _ (by decide) _ _ _ rfl rfl
set_option maxRecDepth 20000 in
theorem c_sb_n {n vs : Int32} {be de : Int64} {sz : Int32} {ro co mi : Nat → Int64} {T : Nat → Nat → Int64} {B : Nat → Nat → Nat → Int32} {hd : Nat → Nat → Int32} {df : Nat → Int32} : KX2_stepBelow l D ca ad [.ref 0, .int (-1)] (XW n vs be de sz ro co mi T B hd df) (some (.long 1)) (XW n vs be de sz ro co mi T B hd df) := by
  refine PX2_stepBelow (Nat.le_of_ble_eq_true rfl) ?_
  intro G hT hC hR
  refine mB hT 5 rfl ?_
  exact hR _ (by decide) _ _ _ rfl rfl
set_option maxRecDepth 20000 in
theorem c_sb {n vs : Int32} {be de : Int64} {sz : Int32} {ro co mi : Nat → Int64} {T : Nat → Nat → Int64} {B : Nat → Nat → Nat → Int32} {hd : Nat → Nat → Int32} {df : Nat → Int32} {i : Nat} (hi : i < 4) : KX2_stepBelow l D ca ad [.ref 0, .int (Int32.ofNat i)] (XW n vs be de sz ro co mi T B hd df) (some (.long ((cellX (B 6 i) i i).toInt64))) (XW n vs be de sz ro co mi T B hd df) := by
  refine PX2_stepBelow (Nat.le_of_ble_eq_true rfl) ?_
  intro G hT hC hR
  refine mB hT 3 rfl ?_
  refine mIf (fun hp => absurd hp (ofNat_ne_m1 (by omega))) (fun _ => ?_)
  refine mB hT 4 rfl ?_
  refine hC _ 10 [_, _] _ _ _ _ _ (c_cell_6 hi hi) rfl rfl (Nat.le_of_ble_eq_true rfl) rfl ?_
  refine mB hT 1 rfl ?_
  exact hR _ (by decide) _ _ _ rfl rfl
set_option maxRecDepth 20000 in
theorem c_sa_a {n vs : Int32} {be de : Int64} {sz : Int32} {ro co mi : Nat → Int64} {T : Nat → Nat → Int64} {B : Nat → Nat → Nat → Int32} {hd : Nat → Nat → Int32} {df : Nat → Int32} {i : Nat} (hi : i < 4) : KX2_stepAbove l D ca ad [.ref 0, .int (Int32.ofNat i), .int (-1)] (XW n vs be de sz ro co mi T B hd df) (some (.long 1)) (XW n vs be de sz ro co mi T B hd df) := by
  refine PX2_stepAbove (Nat.le_of_ble_eq_true rfl) ?_
  intro G hT hC hR
  refine mB hT 3 rfl ?_
  refine mIf (fun hp => absurd hp (ofNat_ne_m1 (by omega))) (fun _ => ?_)
  refine mB hT 5 rfl ?_
  exact hR _ (by decide) _ _ _ rfl rfl
set_option maxRecDepth 20000 in
theorem c_sa_b {n vs : Int32} {be de : Int64} {sz : Int32} {ro co mi : Nat → Int64} {T : Nat → Nat → Int64} {B : Nat → Nat → Nat → Int32} {hd : Nat → Nat → Int32} {df : Nat → Int32} : KX2_stepAbove l D ca ad [.ref 0, .int (-1), .int (-1)] (XW n vs be de sz ro co mi T B hd df) (some (.long 1)) (XW n vs be de sz ro co mi T B hd df) := by
  refine PX2_stepAbove (Nat.le_of_ble_eq_true rfl) ?_
  intro G hT hC hR
  refine mB hT 5 rfl ?_
  exact hR _ (by decide) _ _ _ rfl rfl
set_option maxRecDepth 20000 in
theorem c_sa {n vs : Int32} {be de : Int64} {sz : Int32} {ro co mi : Nat → Int64} {T : Nat → Nat → Int64} {B : Nat → Nat → Nat → Int32} {hd : Nat → Nat → Int32} {df : Nat → Int32} {i j : Nat} (hi : i < 4) (hj : j < 4) : KX2_stepAbove l D ca ad [.ref 0, .int (Int32.ofNat i), .int (Int32.ofNat j)] (XW n vs be de sz ro co mi T B hd df) (some (.long ((-(cellX (B 6 i) i j)).toInt64))) (XW n vs be de sz ro co mi T B hd df) := by
  refine PX2_stepAbove (Nat.le_of_ble_eq_true rfl) ?_
  intro G hT hC hR
  refine mB hT 3 rfl ?_
  refine mIf (fun hp => absurd hp (ofNat_ne_m1 (by omega))) (fun _ => ?_)
  refine mB hT 3 rfl ?_
  refine mIf (fun hp => absurd hp (ofNat_ne_m1 (by omega))) (fun _ => ?_)
  refine mB hT 4 rfl ?_
  refine hC _ 10 [_, _] _ _ _ _ _ (c_cell_6 hj hi) rfl rfl (Nat.le_of_ble_eq_true rfl) rfl ?_
  refine mB hT 2 rfl ?_
  exact hR _ (by decide) _ _ _ rfl rfl
set_option maxRecDepth 20000 in
theorem x_way_U1 {n vs : Nat} {be de : Int64} {sz : Int32} {ro co mi : Nat → Int64} {T : Nat → Nat → Int64} {B : Nat → Nat → Nat → Int32} {hd : Nat → Nat → Int32} {df : Nat → Int32} {b k a p c : Int32} (hfb : ¬ (0 ≤ b ∧ b < 4)) : KX2_way l D ca ad [.ref 0, .int b, .int k, .int a, .int p, .int c] (XW (Int32.ofNat n) (Int32.ofNat vs) be de sz ro co mi T B hd df) (some (.long (-9000000000000000001))) (XW (Int32.ofNat n) (Int32.ofNat vs) be de sz ro co mi T B hd df) := by
  refine PX2_way (Nat.le_of_ble_eq_true rfl) ?_
  intro G hT hC hR
  refine mB hT 1 rfl ?_
  refine hC.1 _ [_] _ _ _ _ (c_isBasket_f hfb) rfl (Nat.le_of_ble_eq_true rfl) rfl ?_
  refine mB hT 2 rfl ?_
  exact hR _ (by decide) _ _ _ rfl rfl
set_option maxRecDepth 20000 in
theorem x_way_U2 {n vs : Nat} {be de : Int64} {sz : Int32} {ro co mi : Nat → Int64} {T : Nat → Nat → Int64} {B : Nat → Nat → Nat → Int32} {hd : Nat → Nat → Int32} {df : Nat → Int32} {b : Nat} (hb : b < 4) {k a p c : Int32} (hfk : ¬ (0 ≤ k ∧ k < 3)) : KX2_way l D ca ad [.ref 0, .int (Int32.ofNat b), .int k, .int a, .int p, .int c] (XW (Int32.ofNat n) (Int32.ofNat vs) be de sz ro co mi T B hd df) (some (.long (-9000000000000000001))) (XW (Int32.ofNat n) (Int32.ofNat vs) be de sz ro co mi T B hd df) := by
  refine PX2_way (Nat.le_of_ble_eq_true rfl) ?_
  intro G hT hC hR
  refine mB hT 1 rfl ?_
  refine hC.1 _ [_] _ _ _ _ (c_isBasket_t hb) rfl (Nat.le_of_ble_eq_true rfl) rfl ?_
  refine mB hT 2 rfl ?_
  refine hC.2.1 _ [_] _ _ _ _ (c_isStuff_f hfk) rfl (Nat.le_of_ble_eq_true rfl) rfl ?_
  refine mB hT 2 rfl ?_
  exact hR _ (by decide) _ _ _ rfl rfl
set_option maxRecDepth 20000 in
theorem x_way_U3 {n vs : Nat} {be de : Int64} {sz : Int32} {ro co mi : Nat → Int64} {T : Nat → Nat → Int64} {B : Nat → Nat → Nat → Int32} {hd : Nat → Nat → Int32} {df : Nat → Int32} {b : Nat} (hb : b < 4) {k : Nat} (hk : k < 3) {a p c : Int32} (hfa : ¬ (0 ≤ a ∧ a < Int32.ofNat n)) : KX2_way l D ca ad [.ref 0, .int (Int32.ofNat b), .int (Int32.ofNat k), .int a, .int p, .int c] (XW (Int32.ofNat n) (Int32.ofNat vs) be de sz ro co mi T B hd df) (some (.long (-9000000000000000001))) (XW (Int32.ofNat n) (Int32.ofNat vs) be de sz ro co mi T B hd df) := by
  refine PX2_way (Nat.le_of_ble_eq_true rfl) ?_
  intro G hT hC hR
  refine mB hT 1 rfl ?_
  refine hC.1 _ [_] _ _ _ _ (c_isBasket_t hb) rfl (Nat.le_of_ble_eq_true rfl) rfl ?_
  refine mB hT 2 rfl ?_
  refine hC.2.1 _ [_] _ _ _ _ (c_isStuff_t hk) rfl (Nat.le_of_ble_eq_true rfl) rfl ?_
  refine mB hT 3 rfl ?_
  refine hC.2.2.1 _ 0 [_] _ _ _ _ _ (c_isMaking_f hfa) rfl rfl (Nat.le_of_ble_eq_true rfl) rfl ?_
  refine mB hT 2 rfl ?_
  exact hR _ (by decide) _ _ _ rfl rfl
set_option maxRecDepth 20000 in
theorem x_way_U4 {n vs : Nat} {be de : Int64} {sz : Int32} {ro co mi : Nat → Int64} {T : Nat → Nat → Int64} {B : Nat → Nat → Nat → Int32} {hd : Nat → Nat → Int32} {df : Nat → Int32} {b : Nat} (hb : b < 4) {k : Nat} (hk : k < 3) {a : Nat} (ha : a < n) (hn : n ≤ 4) {p c : Int32} (hm : ¬ p = -1) (hfp : ¬ (0 ≤ p ∧ p < Int32.ofNat n)) : KX2_way l D ca ad [.ref 0, .int (Int32.ofNat b), .int (Int32.ofNat k), .int (Int32.ofNat a), .int p, .int c] (XW (Int32.ofNat n) (Int32.ofNat vs) be de sz ro co mi T B hd df) (some (.long (-9000000000000000001))) (XW (Int32.ofNat n) (Int32.ofNat vs) be de sz ro co mi T B hd df) := by
  refine PX2_way (Nat.le_of_ble_eq_true rfl) ?_
  intro G hT hC hR
  refine mB hT 1 rfl ?_
  refine hC.1 _ [_] _ _ _ _ (c_isBasket_t hb) rfl (Nat.le_of_ble_eq_true rfl) rfl ?_
  refine mB hT 2 rfl ?_
  refine hC.2.1 _ [_] _ _ _ _ (c_isStuff_t hk) rfl (Nat.le_of_ble_eq_true rfl) rfl ?_
  refine mB hT 3 rfl ?_
  refine hC.2.2.1 _ 0 [_] _ _ _ _ _ (c_isMaking_t ha hn) rfl rfl (Nat.le_of_ble_eq_true rfl) rfl ?_
  refine mB hT 3 rfl ?_
  refine hC.2.2.2.1 _ 0 [_] _ _ _ _ _ (c_mon_f hm hfp) rfl rfl (Nat.le_of_ble_eq_true rfl) rfl ?_
  refine mB hT 2 rfl ?_
  exact hR _ (by decide) _ _ _ rfl rfl
set_option maxRecDepth 20000 in
theorem x_way_U5n {n vs : Nat} {be de : Int64} {sz : Int32} {ro co mi : Nat → Int64} {T : Nat → Nat → Int64} {B : Nat → Nat → Nat → Int32} {hd : Nat → Nat → Int32} {df : Nat → Int32} {b : Nat} (hb : b < 4) {k : Nat} (hk : k < 3) {a : Nat} (ha : a < n) (hn : n ≤ 4) {c : Int32} (hm : ¬ c = -1) (hfc : ¬ (0 ≤ c ∧ c < Int32.ofNat n)) : KX2_way l D ca ad [.ref 0, .int (Int32.ofNat b), .int (Int32.ofNat k), .int (Int32.ofNat a), .int (-1), .int c] (XW (Int32.ofNat n) (Int32.ofNat vs) be de sz ro co mi T B hd df) (some (.long (-9000000000000000001))) (XW (Int32.ofNat n) (Int32.ofNat vs) be de sz ro co mi T B hd df) := by
  refine PX2_way (Nat.le_of_ble_eq_true rfl) ?_
  intro G hT hC hR
  refine mB hT 1 rfl ?_
  refine hC.1 _ [_] _ _ _ _ (c_isBasket_t hb) rfl (Nat.le_of_ble_eq_true rfl) rfl ?_
  refine mB hT 2 rfl ?_
  refine hC.2.1 _ [_] _ _ _ _ (c_isStuff_t hk) rfl (Nat.le_of_ble_eq_true rfl) rfl ?_
  refine mB hT 3 rfl ?_
  refine hC.2.2.1 _ 0 [_] _ _ _ _ _ (c_isMaking_t ha hn) rfl rfl (Nat.le_of_ble_eq_true rfl) rfl ?_
  refine mB hT 3 rfl ?_
  refine hC.2.2.2.1 _ 0 [_] _ _ _ _ _ (c_mon_n) rfl rfl (Nat.le_of_ble_eq_true rfl) rfl ?_
  refine mB hT 3 rfl ?_
  refine hC.2.2.2.2.1 _ 0 [_] _ _ _ _ _ (c_mon_f hm hfc) rfl rfl (Nat.le_of_ble_eq_true rfl) rfl ?_
  refine mB hT 2 rfl ?_
  exact hR _ (by decide) _ _ _ rfl rfl
set_option maxRecDepth 20000 in
theorem x_way_U5 {n vs : Nat} {be de : Int64} {sz : Int32} {ro co mi : Nat → Int64} {T : Nat → Nat → Int64} {B : Nat → Nat → Nat → Int32} {hd : Nat → Nat → Int32} {df : Nat → Int32} {b : Nat} (hb : b < 4) {k : Nat} (hk : k < 3) {a : Nat} (ha : a < n) (hn : n ≤ 4) {p : Nat} (hp : p < n) {c : Int32} (hm : ¬ c = -1) (hfc : ¬ (0 ≤ c ∧ c < Int32.ofNat n)) : KX2_way l D ca ad [.ref 0, .int (Int32.ofNat b), .int (Int32.ofNat k), .int (Int32.ofNat a), .int (Int32.ofNat p), .int c] (XW (Int32.ofNat n) (Int32.ofNat vs) be de sz ro co mi T B hd df) (some (.long (-9000000000000000001))) (XW (Int32.ofNat n) (Int32.ofNat vs) be de sz ro co mi T B hd df) := by
  refine PX2_way (Nat.le_of_ble_eq_true rfl) ?_
  intro G hT hC hR
  refine mB hT 1 rfl ?_
  refine hC.1 _ [_] _ _ _ _ (c_isBasket_t hb) rfl (Nat.le_of_ble_eq_true rfl) rfl ?_
  refine mB hT 2 rfl ?_
  refine hC.2.1 _ [_] _ _ _ _ (c_isStuff_t hk) rfl (Nat.le_of_ble_eq_true rfl) rfl ?_
  refine mB hT 3 rfl ?_
  refine hC.2.2.1 _ 0 [_] _ _ _ _ _ (c_isMaking_t ha hn) rfl rfl (Nat.le_of_ble_eq_true rfl) rfl ?_
  refine mB hT 3 rfl ?_
  refine hC.2.2.2.1 _ 0 [_] _ _ _ _ _ (c_mon_t hp hn) rfl rfl (Nat.le_of_ble_eq_true rfl) rfl ?_
  refine mB hT 3 rfl ?_
  refine hC.2.2.2.2.1 _ 0 [_] _ _ _ _ _ (c_mon_f hm hfc) rfl rfl (Nat.le_of_ble_eq_true rfl) rfl ?_
  refine mB hT 2 rfl ?_
  exact hR _ (by decide) _ _ _ rfl rfl
set_option maxRecDepth 20000 in
theorem x_way_O1 {n vs : Nat} {be de : Int64} {sz : Int32} {ro co mi : Nat → Int64} {T : Nat → Nat → Int64} {B : Nat → Nat → Nat → Int32} {hd : Nat → Nat → Int32} {df : Nat → Int32} {b : Nat} (hb : b < 4) {k : Nat} (hk : k < 3) {a : Nat} (ha : a < n) (hn : n ≤ 4) {c : Nat} (hc : c < n) : KX2_way l D ca ad [.ref 0, .int (Int32.ofNat b), .int (Int32.ofNat k), .int (Int32.ofNat a), .int (-1), .int (Int32.ofNat c)] (XW (Int32.ofNat n) (Int32.ofNat vs) be de sz ro co mi T B hd df) (some (.long (-9000000000000000002))) (XW (Int32.ofNat n) (Int32.ofNat vs) be de sz ro co mi T B hd df) := by
  refine PX2_way (Nat.le_of_ble_eq_true rfl) ?_
  intro G hT hC hR
  refine mB hT 1 rfl ?_
  refine hC.1 _ [_] _ _ _ _ (c_isBasket_t hb) rfl (Nat.le_of_ble_eq_true rfl) rfl ?_
  refine mB hT 2 rfl ?_
  refine hC.2.1 _ [_] _ _ _ _ (c_isStuff_t hk) rfl (Nat.le_of_ble_eq_true rfl) rfl ?_
  refine mB hT 3 rfl ?_
  refine hC.2.2.1 _ 0 [_] _ _ _ _ _ (c_isMaking_t ha hn) rfl rfl (Nat.le_of_ble_eq_true rfl) rfl ?_
  refine mB hT 3 rfl ?_
  refine hC.2.2.2.1 _ 0 [_] _ _ _ _ _ (c_mon_n) rfl rfl (Nat.le_of_ble_eq_true rfl) rfl ?_
  refine mB hT 3 rfl ?_
  refine hC.2.2.2.2.1 _ 0 [_] _ _ _ _ _ (c_mon_t hc hn) rfl rfl (Nat.le_of_ble_eq_true rfl) rfl ?_
  refine mB hT 7 rfl ?_
  refine mIf (fun hp => absurd hp (ofNat_ne_m1 (by omega))) (fun _ => ?_)
  refine mB hT 1 rfl ?_
  exact hR _ (by decide) _ _ _ rfl rfl
set_option maxRecDepth 20000 in
theorem x_way_O2n {n vs : Nat} {be de : Int64} {sz : Int32} {ro co mi : Nat → Int64} {T : Nat → Nat → Int64} {B : Nat → Nat → Nat → Int32} {hd : Nat → Nat → Int32} {df : Nat → Int32} {b : Nat} (hb : b < 4) {k : Nat} (hk : k < 3) {a : Nat} (ha : a < n) (hn : n ≤ 4) : KX2_way l D ca ad [.ref 0, .int (Int32.ofNat b), .int (Int32.ofNat k), .int (Int32.ofNat a), .int (Int32.ofNat a), .int (-1)] (XW (Int32.ofNat n) (Int32.ofNat vs) be de sz ro co mi T B hd df) (some (.long (-9000000000000000002))) (XW (Int32.ofNat n) (Int32.ofNat vs) be de sz ro co mi T B hd df) := by
  refine PX2_way (Nat.le_of_ble_eq_true rfl) ?_
  intro G hT hC hR
  refine mB hT 1 rfl ?_
  refine hC.1 _ [_] _ _ _ _ (c_isBasket_t hb) rfl (Nat.le_of_ble_eq_true rfl) rfl ?_
  refine mB hT 2 rfl ?_
  refine hC.2.1 _ [_] _ _ _ _ (c_isStuff_t hk) rfl (Nat.le_of_ble_eq_true rfl) rfl ?_
  refine mB hT 3 rfl ?_
  refine hC.2.2.1 _ 0 [_] _ _ _ _ _ (c_isMaking_t ha hn) rfl rfl (Nat.le_of_ble_eq_true rfl) rfl ?_
  refine mB hT 3 rfl ?_
  refine hC.2.2.2.1 _ 0 [_] _ _ _ _ _ (c_mon_t ha hn) rfl rfl (Nat.le_of_ble_eq_true rfl) rfl ?_
  refine mB hT 3 rfl ?_
  refine hC.2.2.2.2.1 _ 0 [_] _ _ _ _ _ (c_mon_n) rfl rfl (Nat.le_of_ble_eq_true rfl) rfl ?_
  refine mB hT 4 rfl ?_
  refine mIf (fun hp => absurd hp (ofNat_ne_m1 (by omega))) (fun _ => ?_)
  refine mB hT 3 rfl ?_
  refine mIf (fun _ => ?_) (fun hn => absurd rfl hn)
  refine mB hT 1 rfl ?_
  exact hR _ (by decide) _ _ _ rfl rfl
set_option maxRecDepth 20000 in
theorem x_way_O2 {n vs : Nat} {be de : Int64} {sz : Int32} {ro co mi : Nat → Int64} {T : Nat → Nat → Int64} {B : Nat → Nat → Nat → Int32} {hd : Nat → Nat → Int32} {df : Nat → Int32} {b : Nat} (hb : b < 4) {k : Nat} (hk : k < 3) {a : Nat} (ha : a < n) (hn : n ≤ 4) {c : Nat} (hc : c < n) : KX2_way l D ca ad [.ref 0, .int (Int32.ofNat b), .int (Int32.ofNat k), .int (Int32.ofNat a), .int (Int32.ofNat a), .int (Int32.ofNat c)] (XW (Int32.ofNat n) (Int32.ofNat vs) be de sz ro co mi T B hd df) (some (.long (-9000000000000000002))) (XW (Int32.ofNat n) (Int32.ofNat vs) be de sz ro co mi T B hd df) := by
  refine PX2_way (Nat.le_of_ble_eq_true rfl) ?_
  intro G hT hC hR
  refine mB hT 1 rfl ?_
  refine hC.1 _ [_] _ _ _ _ (c_isBasket_t hb) rfl (Nat.le_of_ble_eq_true rfl) rfl ?_
  refine mB hT 2 rfl ?_
  refine hC.2.1 _ [_] _ _ _ _ (c_isStuff_t hk) rfl (Nat.le_of_ble_eq_true rfl) rfl ?_
  refine mB hT 3 rfl ?_
  refine hC.2.2.1 _ 0 [_] _ _ _ _ _ (c_isMaking_t ha hn) rfl rfl (Nat.le_of_ble_eq_true rfl) rfl ?_
  refine mB hT 3 rfl ?_
  refine hC.2.2.2.1 _ 0 [_] _ _ _ _ _ (c_mon_t ha hn) rfl rfl (Nat.le_of_ble_eq_true rfl) rfl ?_
  refine mB hT 3 rfl ?_
  refine hC.2.2.2.2.1 _ 0 [_] _ _ _ _ _ (c_mon_t hc hn) rfl rfl (Nat.le_of_ble_eq_true rfl) rfl ?_
  refine mB hT 4 rfl ?_
  refine mIf (fun hp => absurd hp (ofNat_ne_m1 (by omega))) (fun _ => ?_)
  refine mB hT 3 rfl ?_
  refine mIf (fun _ => ?_) (fun hn => absurd rfl hn)
  refine mB hT 1 rfl ?_
  exact hR _ (by decide) _ _ _ rfl rfl
set_option maxRecDepth 20000 in
theorem x_way_O3 {n vs : Nat} {be de : Int64} {sz : Int32} {ro co mi : Nat → Int64} {T : Nat → Nat → Int64} {B : Nat → Nat → Nat → Int32} {hd : Nat → Nat → Int32} {df : Nat → Int32} {b : Nat} (hb : b < 4) {k : Nat} (hk : k < 3) {a : Nat} (ha : a < n) (hn : n ≤ 4) {p : Nat} (hp : p < n) (hap : a ≠ p) : KX2_way l D ca ad [.ref 0, .int (Int32.ofNat b), .int (Int32.ofNat k), .int (Int32.ofNat a), .int (Int32.ofNat p), .int (Int32.ofNat p)] (XW (Int32.ofNat n) (Int32.ofNat vs) be de sz ro co mi T B hd df) (some (.long (-9000000000000000002))) (XW (Int32.ofNat n) (Int32.ofNat vs) be de sz ro co mi T B hd df) := by
  refine PX2_way (Nat.le_of_ble_eq_true rfl) ?_
  intro G hT hC hR
  refine mB hT 1 rfl ?_
  refine hC.1 _ [_] _ _ _ _ (c_isBasket_t hb) rfl (Nat.le_of_ble_eq_true rfl) rfl ?_
  refine mB hT 2 rfl ?_
  refine hC.2.1 _ [_] _ _ _ _ (c_isStuff_t hk) rfl (Nat.le_of_ble_eq_true rfl) rfl ?_
  refine mB hT 3 rfl ?_
  refine hC.2.2.1 _ 0 [_] _ _ _ _ _ (c_isMaking_t ha hn) rfl rfl (Nat.le_of_ble_eq_true rfl) rfl ?_
  refine mB hT 3 rfl ?_
  refine hC.2.2.2.1 _ 0 [_] _ _ _ _ _ (c_mon_t hp hn) rfl rfl (Nat.le_of_ble_eq_true rfl) rfl ?_
  refine mB hT 3 rfl ?_
  refine hC.2.2.2.2.1 _ 0 [_] _ _ _ _ _ (c_mon_t hp hn) rfl rfl (Nat.le_of_ble_eq_true rfl) rfl ?_
  refine mB hT 4 rfl ?_
  refine mIf (fun hp => absurd hp (ofNat_ne_m1 (by omega))) (fun _ => ?_)
  refine mB hT 3 rfl ?_
  refine mIf (fun hp => absurd hp (ofNat_ne (by omega) (by omega) hap)) (fun _ => ?_)
  refine mB hT 3 rfl ?_
  refine mIf (fun hp => absurd hp (ofNat_ne_m1 (by omega))) (fun _ => ?_)
  refine mB hT 3 rfl ?_
  refine mIf (fun _ => ?_) (fun hn => absurd rfl hn)
  refine mB hT 1 rfl ?_
  exact hR _ (by decide) _ _ _ rfl rfl
set_option maxRecDepth 20000 in
theorem x_way_Ba {n vs : Nat} {be de : Int64} {sz : Int32} {ro co mi : Nat → Int64} {T : Nat → Nat → Int64} {B : Nat → Nat → Nat → Int32} {hd : Nat → Nat → Int32} {df : Nat → Int32} {b : Nat} (hb : b < 4) {k : Nat} (hk : k < 3) {a : Nat} (ha : a < n) (hn : n ≤ 4) (h0 : ((((cellX (B 6 a) a a).toInt64) * 1) * 1) = 0) : KX2_way l D ca ad [.ref 0, .int (Int32.ofNat b), .int (Int32.ofNat k), .int (Int32.ofNat a), .int (-1), .int (-1)] (XW (Int32.ofNat n) (Int32.ofNat vs) be de sz ro co mi T B hd df) (some (.long (-9000000000000000004))) (XW (Int32.ofNat n) (Int32.ofNat vs) be de sz ro co mi T B hd df) := by
  refine PX2_way (Nat.le_of_ble_eq_true rfl) ?_
  intro G hT hC hR
  refine mB hT 1 rfl ?_
  refine hC.1 _ [_] _ _ _ _ (c_isBasket_t hb) rfl (Nat.le_of_ble_eq_true rfl) rfl ?_
  refine mB hT 2 rfl ?_
  refine hC.2.1 _ [_] _ _ _ _ (c_isStuff_t hk) rfl (Nat.le_of_ble_eq_true rfl) rfl ?_
  refine mB hT 3 rfl ?_
  refine hC.2.2.1 _ 0 [_] _ _ _ _ _ (c_isMaking_t ha hn) rfl rfl (Nat.le_of_ble_eq_true rfl) rfl ?_
  refine mB hT 3 rfl ?_
  refine hC.2.2.2.1 _ 0 [_] _ _ _ _ _ (c_mon_n) rfl rfl (Nat.le_of_ble_eq_true rfl) rfl ?_
  refine mB hT 3 rfl ?_
  refine hC.2.2.2.2.1 _ 0 [_] _ _ _ _ _ (c_mon_n) rfl rfl (Nat.le_of_ble_eq_true rfl) rfl ?_
  refine mB hT 10 rfl ?_
  refine mIf (fun hp => absurd hp (ofNat_ne_m1 (by omega))) (fun _ => ?_)
  refine mB hT 7 rfl ?_
  refine hC.2.2.2.2.2.1 _ 10 [_, _] _ _ _ _ _ (c_cell_6 (j := a) (i := a) (by omega) (by omega)) rfl rfl (Nat.le_of_ble_eq_true rfl) rfl ?_
  refine mB hT 3 rfl ?_
  refine hC.2.2.2.2.2.2.1 _ 0 [_] _ _ _ _ _ (c_sb_n) rfl rfl (Nat.le_of_ble_eq_true rfl) rfl ?_
  refine mB hT 3 rfl ?_
  refine hC.2.2.2.2.2.2.2.1 _ 0 [_] _ _ _ _ _ (c_sb_n) rfl rfl (Nat.le_of_ble_eq_true rfl) rfl ?_
  refine mB hT 6 rfl ?_
  refine mIf (fun _ => ?_) (fun hn => absurd (lc_eq.mpr h0) hn)
  refine mB hT 1 rfl ?_
  exact hR _ (by decide) _ _ _ rfl rfl
set_option maxRecDepth 20000 in
theorem x_way_a {n vs : Nat} {be de : Int64} {sz : Int32} {ro co mi : Nat → Int64} {T : Nat → Nat → Int64} {B : Nat → Nat → Nat → Int32} {hd : Nat → Nat → Int32} {df : Nat → Int32} {b : Nat} (hb : b < 4) {k : Nat} (hk : k < 3) {a : Nat} (ha : a < n) (hn : n ≤ 4) (h0 : ¬ ((((cellX (B 6 a) a a).toInt64) * 1) * 1) = 0) : KX2_way l D ca ad [.ref 0, .int (Int32.ofNat b), .int (Int32.ofNat k), .int (Int32.ofNat a), .int (-1), .int (-1)] (XW (Int32.ofNat n) (Int32.ofNat vs) be de sz ro co mi T B hd df) (some (.long (thX (((((hd b a).toInt64) * 1) * 1) * (emX (B 6 a) k 1)) ((((cellX (B 6 a) a a).toInt64) * 1) * 1)))) (XW (Int32.ofNat n) (Int32.ofNat vs) be de sz ro co mi T B hd df) := by
  refine PX2_way (Nat.le_of_ble_eq_true rfl) ?_
  intro G hT hC hR
  refine mB hT 1 rfl ?_
  refine hC.1 _ [_] _ _ _ _ (c_isBasket_t hb) rfl (Nat.le_of_ble_eq_true rfl) rfl ?_
  refine mB hT 2 rfl ?_
  refine hC.2.1 _ [_] _ _ _ _ (c_isStuff_t hk) rfl (Nat.le_of_ble_eq_true rfl) rfl ?_
  refine mB hT 3 rfl ?_
  refine hC.2.2.1 _ 0 [_] _ _ _ _ _ (c_isMaking_t ha hn) rfl rfl (Nat.le_of_ble_eq_true rfl) rfl ?_
  refine mB hT 3 rfl ?_
  refine hC.2.2.2.1 _ 0 [_] _ _ _ _ _ (c_mon_n) rfl rfl (Nat.le_of_ble_eq_true rfl) rfl ?_
  refine mB hT 3 rfl ?_
  refine hC.2.2.2.2.1 _ 0 [_] _ _ _ _ _ (c_mon_n) rfl rfl (Nat.le_of_ble_eq_true rfl) rfl ?_
  refine mB hT 10 rfl ?_
  refine mIf (fun hp => absurd hp (ofNat_ne_m1 (by omega))) (fun _ => ?_)
  refine mB hT 7 rfl ?_
  refine hC.2.2.2.2.2.1 _ 10 [_, _] _ _ _ _ _ (c_cell_6 (j := a) (i := a) (by omega) (by omega)) rfl rfl (Nat.le_of_ble_eq_true rfl) rfl ?_
  refine mB hT 3 rfl ?_
  refine hC.2.2.2.2.2.2.1 _ 0 [_] _ _ _ _ _ (c_sb_n) rfl rfl (Nat.le_of_ble_eq_true rfl) rfl ?_
  refine mB hT 3 rfl ?_
  refine hC.2.2.2.2.2.2.2.1 _ 0 [_] _ _ _ _ _ (c_sb_n) rfl rfl (Nat.le_of_ble_eq_true rfl) rfl ?_
  refine mB hT 6 rfl ?_
  refine mIf (fun hp => absurd hp (fun q => h0 (lc_eq.mp q))) (fun _ => ?_)
  refine mB hT 11 rfl ?_
  refine mAaldH hT (List.mem_of_getElem? (i := 63) rfl) hb ?_
  refine mB hT 1 rfl ?_
  refine mIaldH hT (List.mem_of_getElem? (i := 65) rfl) hb (by omega) ?_
  refine mB hT 4 rfl ?_
  refine mNf (lv2 := [(8, .int (Int32.ofNat a)), (6, .long ((((cellX (B 6 a) a a).toInt64) * 1) * 1)), (0, .ref 0), (1, .int (Int32.ofNat b)), (2, .int (Int32.ofNat k)), (3, .int (Int32.ofNat a)), (4, .int (-1)), (5, .int (-1))]) (st2 := [.int (-1), .int (Int32.ofNat a), .ref 0, .long ((hd b a).toInt64)]) rfl rfl ?_
  refine hC.2.2.2.2.2.2.2.2.1 _ 0 [_, _] _ _ _ _ _ (c_sa_a (i := a) (by omega)) rfl rfl (Nat.le_of_ble_eq_true rfl) rfl ?_
  refine mB hT 4 rfl ?_
  refine hC.2.2.2.2.2.2.2.2.2.1 _ 0 [_, _] _ _ _ _ _ (c_sa_b) rfl rfl (Nat.le_of_ble_eq_true rfl) rfl ?_
  refine mB hT 8 rfl ?_
  refine hC.2.2.2.2.2.2.2.2.2.2.1 _ 10 [_, _, _] _ _ _ _ _ (c_em_6 (i := a) (by omega) k 1 hk (by decide)) rfl rfl (Nat.le_of_ble_eq_true rfl) rfl ?_
  refine mB hT 2 rfl ?_
  refine hC.2.2.2.2.2.2.2.2.2.2.2 _ [_, _] _ _ _ _ (c_th h0) rfl (Nat.le_of_ble_eq_true rfl) rfl ?_
  exact hR _ (by decide) _ _ _ rfl rfl
set_option maxRecDepth 20000 in
theorem x_way_Bb {n vs : Nat} {be de : Int64} {sz : Int32} {ro co mi : Nat → Int64} {T : Nat → Nat → Int64} {B : Nat → Nat → Nat → Int32} {hd : Nat → Nat → Int32} {df : Nat → Int32} {b : Nat} (hb : b < 4) {k : Nat} (hk : k < 3) {a : Nat} (ha : a < n) (hn : n ≤ 4) {p : Nat} (hp : p < n) (hap : a ≠ p) (h0 : ((((cellX (B 6 a) a a).toInt64) * ((cellX (B 6 p) p p).toInt64)) * 1) = 0) : KX2_way l D ca ad [.ref 0, .int (Int32.ofNat b), .int (Int32.ofNat k), .int (Int32.ofNat a), .int (Int32.ofNat p), .int (-1)] (XW (Int32.ofNat n) (Int32.ofNat vs) be de sz ro co mi T B hd df) (some (.long (-9000000000000000004))) (XW (Int32.ofNat n) (Int32.ofNat vs) be de sz ro co mi T B hd df) := by
  refine PX2_way (Nat.le_of_ble_eq_true rfl) ?_
  intro G hT hC hR
  refine mB hT 1 rfl ?_
  refine hC.1 _ [_] _ _ _ _ (c_isBasket_t hb) rfl (Nat.le_of_ble_eq_true rfl) rfl ?_
  refine mB hT 2 rfl ?_
  refine hC.2.1 _ [_] _ _ _ _ (c_isStuff_t hk) rfl (Nat.le_of_ble_eq_true rfl) rfl ?_
  refine mB hT 3 rfl ?_
  refine hC.2.2.1 _ 0 [_] _ _ _ _ _ (c_isMaking_t ha hn) rfl rfl (Nat.le_of_ble_eq_true rfl) rfl ?_
  refine mB hT 3 rfl ?_
  refine hC.2.2.2.1 _ 0 [_] _ _ _ _ _ (c_mon_t hp hn) rfl rfl (Nat.le_of_ble_eq_true rfl) rfl ?_
  refine mB hT 3 rfl ?_
  refine hC.2.2.2.2.1 _ 0 [_] _ _ _ _ _ (c_mon_n) rfl rfl (Nat.le_of_ble_eq_true rfl) rfl ?_
  refine mB hT 4 rfl ?_
  refine mIf (fun hp => absurd hp (ofNat_ne_m1 (by omega))) (fun _ => ?_)
  refine mB hT 3 rfl ?_
  refine mIf (fun hp => absurd hp (ofNat_ne (by omega) (by omega) hap)) (fun _ => ?_)
  refine mB hT 7 rfl ?_
  refine hC.2.2.2.2.2.1 _ 10 [_, _] _ _ _ _ _ (c_cell_6 (j := a) (i := a) (by omega) (by omega)) rfl rfl (Nat.le_of_ble_eq_true rfl) rfl ?_
  refine mB hT 3 rfl ?_
  refine hC.2.2.2.2.2.2.1 _ 0 [_] _ _ _ _ _ (c_sb (i := p) (by omega)) rfl rfl (Nat.le_of_ble_eq_true rfl) rfl ?_
  refine mB hT 3 rfl ?_
  refine hC.2.2.2.2.2.2.2.1 _ 0 [_] _ _ _ _ _ (c_sb_n) rfl rfl (Nat.le_of_ble_eq_true rfl) rfl ?_
  refine mB hT 6 rfl ?_
  refine mIf (fun _ => ?_) (fun hn => absurd (lc_eq.mpr h0) hn)
  refine mB hT 1 rfl ?_
  exact hR _ (by decide) _ _ _ rfl rfl
set_option maxRecDepth 20000 in
theorem x_way_b {n vs : Nat} {be de : Int64} {sz : Int32} {ro co mi : Nat → Int64} {T : Nat → Nat → Int64} {B : Nat → Nat → Nat → Int32} {hd : Nat → Nat → Int32} {df : Nat → Int32} {b : Nat} (hb : b < 4) {k : Nat} (hk : k < 3) {a : Nat} (ha : a < n) (hn : n ≤ 4) {p : Nat} (hp : p < n) (hap : a ≠ p) (h0 : ¬ ((((cellX (B 6 a) a a).toInt64) * ((cellX (B 6 p) p p).toInt64)) * 1) = 0) : KX2_way l D ca ad [.ref 0, .int (Int32.ofNat b), .int (Int32.ofNat k), .int (Int32.ofNat a), .int (Int32.ofNat p), .int (-1)] (XW (Int32.ofNat n) (Int32.ofNat vs) be de sz ro co mi T B hd df) (some (.long (thX (((((hd b a).toInt64) * ((-(cellX (B 6 a) a p)).toInt64)) * 1) * (emX (B 6 p) k 1)) ((((cellX (B 6 a) a a).toInt64) * ((cellX (B 6 p) p p).toInt64)) * 1)))) (XW (Int32.ofNat n) (Int32.ofNat vs) be de sz ro co mi T B hd df) := by
  refine PX2_way (Nat.le_of_ble_eq_true rfl) ?_
  intro G hT hC hR
  refine mB hT 1 rfl ?_
  refine hC.1 _ [_] _ _ _ _ (c_isBasket_t hb) rfl (Nat.le_of_ble_eq_true rfl) rfl ?_
  refine mB hT 2 rfl ?_
  refine hC.2.1 _ [_] _ _ _ _ (c_isStuff_t hk) rfl (Nat.le_of_ble_eq_true rfl) rfl ?_
  refine mB hT 3 rfl ?_
  refine hC.2.2.1 _ 0 [_] _ _ _ _ _ (c_isMaking_t ha hn) rfl rfl (Nat.le_of_ble_eq_true rfl) rfl ?_
  refine mB hT 3 rfl ?_
  refine hC.2.2.2.1 _ 0 [_] _ _ _ _ _ (c_mon_t hp hn) rfl rfl (Nat.le_of_ble_eq_true rfl) rfl ?_
  refine mB hT 3 rfl ?_
  refine hC.2.2.2.2.1 _ 0 [_] _ _ _ _ _ (c_mon_n) rfl rfl (Nat.le_of_ble_eq_true rfl) rfl ?_
  refine mB hT 4 rfl ?_
  refine mIf (fun hp => absurd hp (ofNat_ne_m1 (by omega))) (fun _ => ?_)
  refine mB hT 3 rfl ?_
  refine mIf (fun hp => absurd hp (ofNat_ne (by omega) (by omega) hap)) (fun _ => ?_)
  refine mB hT 7 rfl ?_
  refine hC.2.2.2.2.2.1 _ 10 [_, _] _ _ _ _ _ (c_cell_6 (j := a) (i := a) (by omega) (by omega)) rfl rfl (Nat.le_of_ble_eq_true rfl) rfl ?_
  refine mB hT 3 rfl ?_
  refine hC.2.2.2.2.2.2.1 _ 0 [_] _ _ _ _ _ (c_sb (i := p) (by omega)) rfl rfl (Nat.le_of_ble_eq_true rfl) rfl ?_
  refine mB hT 3 rfl ?_
  refine hC.2.2.2.2.2.2.2.1 _ 0 [_] _ _ _ _ _ (c_sb_n) rfl rfl (Nat.le_of_ble_eq_true rfl) rfl ?_
  refine mB hT 6 rfl ?_
  refine mIf (fun hp => absurd hp (fun q => h0 (lc_eq.mp q))) (fun _ => ?_)
  refine mB hT 6 rfl ?_
  refine mIf (fun hp => absurd hp (ofNat_ne_m1 (by omega))) (fun _ => ?_)
  refine mB hT 6 rfl ?_
  refine mAaldH hT (List.mem_of_getElem? (i := 63) rfl) hb ?_
  refine mB hT 1 rfl ?_
  refine mIaldH hT (List.mem_of_getElem? (i := 65) rfl) hb (by omega) ?_
  refine mB hT 4 rfl ?_
  refine mNf (lv2 := [(8, .int (Int32.ofNat p)), (6, .long ((((cellX (B 6 a) a a).toInt64) * ((cellX (B 6 p) p p).toInt64)) * 1)), (0, .ref 0), (1, .int (Int32.ofNat b)), (2, .int (Int32.ofNat k)), (3, .int (Int32.ofNat a)), (4, .int (Int32.ofNat p)), (5, .int (-1))]) (st2 := [.int (Int32.ofNat p), .int (Int32.ofNat a), .ref 0, .long ((hd b a).toInt64)]) rfl rfl ?_
  refine hC.2.2.2.2.2.2.2.2.1 _ 0 [_, _] _ _ _ _ _ (c_sa (i := a) (j := p) (by omega) (by omega)) rfl rfl (Nat.le_of_ble_eq_true rfl) rfl ?_
  refine mB hT 4 rfl ?_
  refine hC.2.2.2.2.2.2.2.2.2.1 _ 0 [_, _] _ _ _ _ _ (c_sa_a (i := p) (by omega)) rfl rfl (Nat.le_of_ble_eq_true rfl) rfl ?_
  refine mB hT 8 rfl ?_
  refine hC.2.2.2.2.2.2.2.2.2.2.1 _ 10 [_, _, _] _ _ _ _ _ (c_em_6 (i := p) (by omega) k 1 hk (by decide)) rfl rfl (Nat.le_of_ble_eq_true rfl) rfl ?_
  refine mB hT 2 rfl ?_
  refine hC.2.2.2.2.2.2.2.2.2.2.2 _ [_, _] _ _ _ _ (c_th h0) rfl (Nat.le_of_ble_eq_true rfl) rfl ?_
  exact hR _ (by decide) _ _ _ rfl rfl
set_option maxRecDepth 20000 in
theorem x_way_Bc {n vs : Nat} {be de : Int64} {sz : Int32} {ro co mi : Nat → Int64} {T : Nat → Nat → Int64} {B : Nat → Nat → Nat → Int32} {hd : Nat → Nat → Int32} {df : Nat → Int32} {b : Nat} (hb : b < 4) {k : Nat} (hk : k < 3) {a : Nat} (ha : a < n) (hn : n ≤ 4) {p : Nat} (hp : p < n) (hap : a ≠ p) {c : Nat} (hc : c < n) (hpc : p ≠ c) (h0 : ((((cellX (B 6 a) a a).toInt64) * ((cellX (B 6 p) p p).toInt64)) * ((cellX (B 6 c) c c).toInt64)) = 0) : KX2_way l D ca ad [.ref 0, .int (Int32.ofNat b), .int (Int32.ofNat k), .int (Int32.ofNat a), .int (Int32.ofNat p), .int (Int32.ofNat c)] (XW (Int32.ofNat n) (Int32.ofNat vs) be de sz ro co mi T B hd df) (some (.long (-9000000000000000004))) (XW (Int32.ofNat n) (Int32.ofNat vs) be de sz ro co mi T B hd df) := by
  refine PX2_way (Nat.le_of_ble_eq_true rfl) ?_
  intro G hT hC hR
  refine mB hT 1 rfl ?_
  refine hC.1 _ [_] _ _ _ _ (c_isBasket_t hb) rfl (Nat.le_of_ble_eq_true rfl) rfl ?_
  refine mB hT 2 rfl ?_
  refine hC.2.1 _ [_] _ _ _ _ (c_isStuff_t hk) rfl (Nat.le_of_ble_eq_true rfl) rfl ?_
  refine mB hT 3 rfl ?_
  refine hC.2.2.1 _ 0 [_] _ _ _ _ _ (c_isMaking_t ha hn) rfl rfl (Nat.le_of_ble_eq_true rfl) rfl ?_
  refine mB hT 3 rfl ?_
  refine hC.2.2.2.1 _ 0 [_] _ _ _ _ _ (c_mon_t hp hn) rfl rfl (Nat.le_of_ble_eq_true rfl) rfl ?_
  refine mB hT 3 rfl ?_
  refine hC.2.2.2.2.1 _ 0 [_] _ _ _ _ _ (c_mon_t hc hn) rfl rfl (Nat.le_of_ble_eq_true rfl) rfl ?_
  refine mB hT 4 rfl ?_
  refine mIf (fun hp => absurd hp (ofNat_ne_m1 (by omega))) (fun _ => ?_)
  refine mB hT 3 rfl ?_
  refine mIf (fun hp => absurd hp (ofNat_ne (by omega) (by omega) hap)) (fun _ => ?_)
  refine mB hT 3 rfl ?_
  refine mIf (fun hp => absurd hp (ofNat_ne_m1 (by omega))) (fun _ => ?_)
  refine mB hT 3 rfl ?_
  refine mIf (fun hp => absurd hp (ofNat_ne (by omega) (by omega) hpc)) (fun _ => ?_)
  refine mB hT 4 rfl ?_
  refine hC.2.2.2.2.2.1 _ 10 [_, _] _ _ _ _ _ (c_cell_6 (j := a) (i := a) (by omega) (by omega)) rfl rfl (Nat.le_of_ble_eq_true rfl) rfl ?_
  refine mB hT 3 rfl ?_
  refine hC.2.2.2.2.2.2.1 _ 0 [_] _ _ _ _ _ (c_sb (i := p) (by omega)) rfl rfl (Nat.le_of_ble_eq_true rfl) rfl ?_
  refine mB hT 3 rfl ?_
  refine hC.2.2.2.2.2.2.2.1 _ 0 [_] _ _ _ _ _ (c_sb (i := c) (by omega)) rfl rfl (Nat.le_of_ble_eq_true rfl) rfl ?_
  refine mB hT 6 rfl ?_
  refine mIf (fun _ => ?_) (fun hn => absurd (lc_eq.mpr h0) hn)
  refine mB hT 1 rfl ?_
  exact hR _ (by decide) _ _ _ rfl rfl
set_option maxRecDepth 20000 in
theorem x_way_c {n vs : Nat} {be de : Int64} {sz : Int32} {ro co mi : Nat → Int64} {T : Nat → Nat → Int64} {B : Nat → Nat → Nat → Int32} {hd : Nat → Nat → Int32} {df : Nat → Int32} {b : Nat} (hb : b < 4) {k : Nat} (hk : k < 3) {a : Nat} (ha : a < n) (hn : n ≤ 4) {p : Nat} (hp : p < n) (hap : a ≠ p) {c : Nat} (hc : c < n) (hpc : p ≠ c) (h0 : ¬ ((((cellX (B 6 a) a a).toInt64) * ((cellX (B 6 p) p p).toInt64)) * ((cellX (B 6 c) c c).toInt64)) = 0) : KX2_way l D ca ad [.ref 0, .int (Int32.ofNat b), .int (Int32.ofNat k), .int (Int32.ofNat a), .int (Int32.ofNat p), .int (Int32.ofNat c)] (XW (Int32.ofNat n) (Int32.ofNat vs) be de sz ro co mi T B hd df) (some (.long (thX (((((hd b a).toInt64) * ((-(cellX (B 6 a) a p)).toInt64)) * ((-(cellX (B 6 p) p c)).toInt64)) * (emX (B 6 c) k 1)) ((((cellX (B 6 a) a a).toInt64) * ((cellX (B 6 p) p p).toInt64)) * ((cellX (B 6 c) c c).toInt64))))) (XW (Int32.ofNat n) (Int32.ofNat vs) be de sz ro co mi T B hd df) := by
  refine PX2_way (Nat.le_of_ble_eq_true rfl) ?_
  intro G hT hC hR
  refine mB hT 1 rfl ?_
  refine hC.1 _ [_] _ _ _ _ (c_isBasket_t hb) rfl (Nat.le_of_ble_eq_true rfl) rfl ?_
  refine mB hT 2 rfl ?_
  refine hC.2.1 _ [_] _ _ _ _ (c_isStuff_t hk) rfl (Nat.le_of_ble_eq_true rfl) rfl ?_
  refine mB hT 3 rfl ?_
  refine hC.2.2.1 _ 0 [_] _ _ _ _ _ (c_isMaking_t ha hn) rfl rfl (Nat.le_of_ble_eq_true rfl) rfl ?_
  refine mB hT 3 rfl ?_
  refine hC.2.2.2.1 _ 0 [_] _ _ _ _ _ (c_mon_t hp hn) rfl rfl (Nat.le_of_ble_eq_true rfl) rfl ?_
  refine mB hT 3 rfl ?_
  refine hC.2.2.2.2.1 _ 0 [_] _ _ _ _ _ (c_mon_t hc hn) rfl rfl (Nat.le_of_ble_eq_true rfl) rfl ?_
  refine mB hT 4 rfl ?_
  refine mIf (fun hp => absurd hp (ofNat_ne_m1 (by omega))) (fun _ => ?_)
  refine mB hT 3 rfl ?_
  refine mIf (fun hp => absurd hp (ofNat_ne (by omega) (by omega) hap)) (fun _ => ?_)
  refine mB hT 3 rfl ?_
  refine mIf (fun hp => absurd hp (ofNat_ne_m1 (by omega))) (fun _ => ?_)
  refine mB hT 3 rfl ?_
  refine mIf (fun hp => absurd hp (ofNat_ne (by omega) (by omega) hpc)) (fun _ => ?_)
  refine mB hT 4 rfl ?_
  refine hC.2.2.2.2.2.1 _ 10 [_, _] _ _ _ _ _ (c_cell_6 (j := a) (i := a) (by omega) (by omega)) rfl rfl (Nat.le_of_ble_eq_true rfl) rfl ?_
  refine mB hT 3 rfl ?_
  refine hC.2.2.2.2.2.2.1 _ 0 [_] _ _ _ _ _ (c_sb (i := p) (by omega)) rfl rfl (Nat.le_of_ble_eq_true rfl) rfl ?_
  refine mB hT 3 rfl ?_
  refine hC.2.2.2.2.2.2.2.1 _ 0 [_] _ _ _ _ _ (c_sb (i := c) (by omega)) rfl rfl (Nat.le_of_ble_eq_true rfl) rfl ?_
  refine mB hT 6 rfl ?_
  refine mIf (fun hp => absurd hp (fun q => h0 (lc_eq.mp q))) (fun _ => ?_)
  refine mB hT 3 rfl ?_
  refine mIf (fun hp => absurd hp (ofNat_ne_m1 (by omega))) (fun _ => ?_)
  refine mB hT 6 rfl ?_
  refine mAaldH hT (List.mem_of_getElem? (i := 63) rfl) hb ?_
  refine mB hT 1 rfl ?_
  refine mIaldH hT (List.mem_of_getElem? (i := 65) rfl) hb (by omega) ?_
  refine mB hT 4 rfl ?_
  refine mNf (lv2 := [(8, .int (Int32.ofNat c)), (6, .long ((((cellX (B 6 a) a a).toInt64) * ((cellX (B 6 p) p p).toInt64)) * ((cellX (B 6 c) c c).toInt64))), (0, .ref 0), (1, .int (Int32.ofNat b)), (2, .int (Int32.ofNat k)), (3, .int (Int32.ofNat a)), (4, .int (Int32.ofNat p)), (5, .int (Int32.ofNat c))]) (st2 := [.int (Int32.ofNat p), .int (Int32.ofNat a), .ref 0, .long ((hd b a).toInt64)]) rfl rfl ?_
  refine hC.2.2.2.2.2.2.2.2.1 _ 0 [_, _] _ _ _ _ _ (c_sa (i := a) (j := p) (by omega) (by omega)) rfl rfl (Nat.le_of_ble_eq_true rfl) rfl ?_
  refine mB hT 4 rfl ?_
  refine hC.2.2.2.2.2.2.2.2.2.1 _ 0 [_, _] _ _ _ _ _ (c_sa (i := p) (j := c) (by omega) (by omega)) rfl rfl (Nat.le_of_ble_eq_true rfl) rfl ?_
  refine mB hT 8 rfl ?_
  refine hC.2.2.2.2.2.2.2.2.2.2.1 _ 10 [_, _, _] _ _ _ _ _ (c_em_6 (i := c) (by omega) k 1 hk (by decide)) rfl rfl (Nat.le_of_ble_eq_true rfl) rfl ?_
  refine mB hT 2 rfl ?_
  refine hC.2.2.2.2.2.2.2.2.2.2.2 _ [_, _] _ _ _ _ (c_th h0) rfl (Nat.le_of_ble_eq_true rfl) rfl ?_
  exact hR _ (by decide) _ _ _ rfl rfl
set_option maxRecDepth 20000 in
theorem c_mwb_0 {vs : Nat} {be de : Int64} {sz : Int32} {ro co mi : Nat → Int64} {T : Nat → Nat → Int64} {B : Nat → Nat → Nat → Int32} {hd : Nat → Nat → Int32} {df : Nat → Int32} : KX2_makingsWithByProducts l D ca ad [.ref 0] (XW 0 (Int32.ofNat vs) be de sz ro co mi T B hd df) (some (.int (cbX 0 (B 6)))) (XW 0 (Int32.ofNat vs) be de sz ro co mi T B hd df) := by
  refine PX2_makingsWithByProducts (Nat.le_of_ble_eq_true rfl) ?_
  intro G hT hC hR
  refine mB hT 9 rfl ?_
  exact hR _ (by decide) _ _ _ (by simp only [cbX]; rfl) rfl
set_option maxRecDepth 20000 in
theorem x_count2_0 {vs : Nat} {be de : Int64} {sz : Int32} {ro co mi : Nat → Int64} {T : Nat → Nat → Int64} {B : Nat → Nat → Nat → Int32} {hd : Nat → Nat → Int32} {df : Nat → Int32} : KX2_count l D ca ad [.ref 0, .int 2] (XW 0 (Int32.ofNat vs) be de sz ro co mi T B hd df) (some (.int (cbX 0 (B 6)))) (XW 0 (Int32.ofNat vs) be de sz ro co mi T B hd df) := by
  refine PX2_count (Nat.le_of_ble_eq_true rfl) ?_
  intro G hT hC hR
  refine mB hT 3 rfl ?_
  refine hC.1 _ 0 [] _ _ _ _ _ (c_mwb_0) rfl rfl (Nat.le_of_ble_eq_true rfl) rfl ?_
  exact hR _ (by decide) _ _ _ rfl rfl
set_option maxRecDepth 20000 in
theorem c_enzc_0 {vs : Nat} {be de : Int64} {sz : Int32} {ro co mi : Nat → Int64} {T : Nat → Nat → Int64} {B : Nat → Nat → Nat → Int32} {hd : Nat → Nat → Int32} {df : Nat → Int32} {c : Nat → Int32} (hc : ∀ q : Nat, c q = [].getD q 0) : KX2_entriesNotZero l D ca ad [.ref 0] (XW 0 (Int32.ofNat vs) be de sz ro co mi T B hd df) (some (.int (ceX [] 0))) (XW 0 (Int32.ofNat vs) be de sz ro co mi T B hd df) := by
  refine PX2_entriesNotZero (Nat.le_of_ble_eq_true rfl) ?_
  intro G hT hC hR
  refine mB hT 9 rfl ?_
  exact hR _ (by decide) _ _ _ (by rfl) rfl
theorem x_count3_0 {vs : Nat} {be de : Int64} {sz : Int32} {ro co mi : Nat → Int64} {T : Nat → Nat → Int64} {B : Nat → Nat → Nat → Int32} {hd : Nat → Nat → Int32} {df : Nat → Int32} : KX2_count l D ca ad [.ref 0, .int 3] (XW 0 (Int32.ofNat vs) be de sz ro co mi T B hd df) (some (.int (ceX [] 0))) (XW 0 (Int32.ofNat vs) be de sz ro co mi T B hd df) := by
  refine PX2_count (Nat.le_of_ble_eq_true rfl) ?_
  intro G hT hC hR
  refine mB hT 3 rfl ?_
  refine hC.2 _ 0 [] _ _ _ _ _ (c_enzc_0 (c := fun q => [].getD q 0) (fun _ => rfl)) rfl rfl (Nat.le_of_ble_eq_true rfl) rfl ?_
  exact hR _ (by decide) _ _ _ rfl rfl
set_option maxRecDepth 20000 in
theorem c_mwb_1 {vs : Nat} {be de : Int64} {sz : Int32} {ro co mi : Nat → Int64} {T : Nat → Nat → Int64} {B : Nat → Nat → Nat → Int32} {hd : Nat → Nat → Int32} {df : Nat → Int32} : KX2_makingsWithByProducts l D ca ad [.ref 0] (XW 1 (Int32.ofNat vs) be de sz ro co mi T B hd df) (some (.int (cbX 1 (B 6)))) (XW 1 (Int32.ofNat vs) be de sz ro co mi T B hd df) := by
  refine PX2_makingsWithByProducts (Nat.le_of_ble_eq_true rfl) ?_
  intro G hT hC hR
  refine mB hT 11 rfl ?_
  refine mNf (lv2 := [(2, .int 0), (1, .int 0), (0, .ref 0)]) (st2 := [.int 0, .ref 10]) rfl rfl ?_
  refine hC _ 10 [_] _ _ _ _ _ (c_hasBy_0) rfl rfl (Nat.le_of_ble_eq_true rfl) rfl ?_
  refine mB hT 1 rfl ?_
  refine mIf (fun h1 => ?_) (fun h1 => ?_)
  · refine mB hT 7 rfl ?_
    exact hR _ (by decide) _ _ _ (by simp only [cbX, if_pos h1]; rfl) rfl
  · refine mB hT 8 rfl ?_
    exact hR _ (by decide) _ _ _ (by simp only [cbX, if_neg h1]; rfl) rfl
set_option maxRecDepth 20000 in
theorem x_count2_1 {vs : Nat} {be de : Int64} {sz : Int32} {ro co mi : Nat → Int64} {T : Nat → Nat → Int64} {B : Nat → Nat → Nat → Int32} {hd : Nat → Nat → Int32} {df : Nat → Int32} : KX2_count l D ca ad [.ref 0, .int 2] (XW 1 (Int32.ofNat vs) be de sz ro co mi T B hd df) (some (.int (cbX 1 (B 6)))) (XW 1 (Int32.ofNat vs) be de sz ro co mi T B hd df) := by
  refine PX2_count (Nat.le_of_ble_eq_true rfl) ?_
  intro G hT hC hR
  refine mB hT 3 rfl ?_
  refine hC.1 _ 0 [] _ _ _ _ _ (c_mwb_1) rfl rfl (Nat.le_of_ble_eq_true rfl) rfl ?_
  exact hR _ (by decide) _ _ _ rfl rfl
set_option maxRecDepth 20000 in
theorem c_enzc_1 {vs : Nat} {be de : Int64} {sz : Int32} {ro co mi : Nat → Int64} {T : Nat → Nat → Int64} {B : Nat → Nat → Nat → Int32} {hd : Nat → Nat → Int32} {df : Nat → Int32} {c : Nat → Int32} (hc : ∀ q : Nat, c q = [cellX (B 6 0) 0 0].getD q 0) : KX2_entriesNotZero l D ca ad [.ref 0] (XW 1 (Int32.ofNat vs) be de sz ro co mi T B hd df) (some (.int (ceX [c 0] 0))) (XW 1 (Int32.ofNat vs) be de sz ro co mi T B hd df) := by
  refine PX2_entriesNotZero (Nat.le_of_ble_eq_true rfl) ?_
  intro G hT hC hR
  refine mB hT 18 rfl ?_
  refine mNf (lv2 := [(3, .int 0), (2, .int 0), (1, .int 0), (0, .ref 0)]) (st2 := [.int 0, .int 0, .ref 10]) rfl rfl ?_
  refine hC _ 10 [_, _] _ _ _ _ _ (show KX0_tableCell l D ca ad _ _ (some (.int (c 0))) _ from (by rw [hc 0]; exact c_tableCell_6_0_0)) rfl rfl (Nat.le_of_ble_eq_true rfl) rfl ?_
  refine mB hT 1 rfl ?_
  have J0 : ∀ f1 : Int32, f1 = (if c 0 = 0 then 0 else 0 + 1) → G (37, [(1, .int f1), (3, .int 0), (2, .int 0), (0, .ref 0)], [], (XW 1 (Int32.ofNat vs) be de sz ro co mi T B hd df)) := by
    intro f1 ef1
    refine mB hT 13 rfl ?_
    exact hR _ (by decide) _ _ _ (by subst ef1; rfl) rfl
  refine mIf (fun h => ?_) (fun h => ?_)
  · refine mPk hT [2, 0, 1, 3] rfl ?_
    exact J0 _ (if_pos h).symm
  · refine mB hT 1 rfl ?_
    refine mPk hT [0, 1, 2, 3] rfl ?_
    exact J0 _ (if_neg h).symm
theorem x_count3_1 {vs : Nat} {be de : Int64} {sz : Int32} {ro co mi : Nat → Int64} {T : Nat → Nat → Int64} {B : Nat → Nat → Nat → Int32} {hd : Nat → Nat → Int32} {df : Nat → Int32} : KX2_count l D ca ad [.ref 0, .int 3] (XW 1 (Int32.ofNat vs) be de sz ro co mi T B hd df) (some (.int (ceX [cellX (B 6 0) 0 0] 0))) (XW 1 (Int32.ofNat vs) be de sz ro co mi T B hd df) := by
  refine PX2_count (Nat.le_of_ble_eq_true rfl) ?_
  intro G hT hC hR
  refine mB hT 3 rfl ?_
  refine hC.2 _ 0 [] _ _ _ _ _ (c_enzc_1 (c := fun q => [cellX (B 6 0) 0 0].getD q 0) (fun _ => rfl)) rfl rfl (Nat.le_of_ble_eq_true rfl) rfl ?_
  exact hR _ (by decide) _ _ _ rfl rfl
set_option maxRecDepth 20000 in
theorem c_mwb_2 {vs : Nat} {be de : Int64} {sz : Int32} {ro co mi : Nat → Int64} {T : Nat → Nat → Int64} {B : Nat → Nat → Nat → Int32} {hd : Nat → Nat → Int32} {df : Nat → Int32} : KX2_makingsWithByProducts l D ca ad [.ref 0] (XW 2 (Int32.ofNat vs) be de sz ro co mi T B hd df) (some (.int (cbX 2 (B 6)))) (XW 2 (Int32.ofNat vs) be de sz ro co mi T B hd df) := by
  refine PX2_makingsWithByProducts (Nat.le_of_ble_eq_true rfl) ?_
  intro G hT hC hR
  refine mB hT 11 rfl ?_
  refine mNf (lv2 := [(2, .int 0), (1, .int 0), (0, .ref 0)]) (st2 := [.int 0, .ref 10]) rfl rfl ?_
  refine hC _ 10 [_] _ _ _ _ _ (c_hasBy_0) rfl rfl (Nat.le_of_ble_eq_true rfl) rfl ?_
  refine mB hT 1 rfl ?_
  refine mIf (fun h1 => ?_) (fun h1 => ?_)
  · refine mB hT 9 rfl ?_
    refine hC _ 10 [_] _ _ _ _ _ (c_hasBy_1) rfl rfl (Nat.le_of_ble_eq_true rfl) rfl ?_
    refine mB hT 1 rfl ?_
    refine mIf (fun h2 => ?_) (fun h2 => ?_)
    · refine mB hT 7 rfl ?_
      exact hR _ (by decide) _ _ _ (by simp only [cbX, if_pos h1, if_pos h2]; rfl) rfl
    · refine mB hT 8 rfl ?_
      exact hR _ (by decide) _ _ _ (by simp only [cbX, if_pos h1, if_neg h2]; rfl) rfl
  · refine mB hT 10 rfl ?_
    refine mNf (lv2 := [(2, .int 1), (1, .int 1), (0, .ref 0)]) (st2 := [.int 1, .ref 10]) rfl rfl ?_
    refine hC _ 10 [_] _ _ _ _ _ (c_hasBy_1) rfl rfl (Nat.le_of_ble_eq_true rfl) rfl ?_
    refine mB hT 1 rfl ?_
    refine mIf (fun h3 => ?_) (fun h3 => ?_)
    · refine mB hT 7 rfl ?_
      exact hR _ (by decide) _ _ _ (by simp only [cbX, if_neg h1, if_pos h3]; rfl) rfl
    · refine mB hT 8 rfl ?_
      exact hR _ (by decide) _ _ _ (by simp only [cbX, if_neg h1, if_neg h3]; rfl) rfl
set_option maxRecDepth 20000 in
theorem x_count2_2 {vs : Nat} {be de : Int64} {sz : Int32} {ro co mi : Nat → Int64} {T : Nat → Nat → Int64} {B : Nat → Nat → Nat → Int32} {hd : Nat → Nat → Int32} {df : Nat → Int32} : KX2_count l D ca ad [.ref 0, .int 2] (XW 2 (Int32.ofNat vs) be de sz ro co mi T B hd df) (some (.int (cbX 2 (B 6)))) (XW 2 (Int32.ofNat vs) be de sz ro co mi T B hd df) := by
  refine PX2_count (Nat.le_of_ble_eq_true rfl) ?_
  intro G hT hC hR
  refine mB hT 3 rfl ?_
  refine hC.1 _ 0 [] _ _ _ _ _ (c_mwb_2) rfl rfl (Nat.le_of_ble_eq_true rfl) rfl ?_
  exact hR _ (by decide) _ _ _ rfl rfl
set_option maxRecDepth 20000 in
theorem c_enzc_2 {vs : Nat} {be de : Int64} {sz : Int32} {ro co mi : Nat → Int64} {T : Nat → Nat → Int64} {B : Nat → Nat → Nat → Int32} {hd : Nat → Nat → Int32} {df : Nat → Int32} {c : Nat → Int32} (hc : ∀ q : Nat, c q = [cellX (B 6 0) 0 0, cellX (B 6 1) 1 0, cellX (B 6 0) 0 1, cellX (B 6 1) 1 1].getD q 0) : KX2_entriesNotZero l D ca ad [.ref 0] (XW 2 (Int32.ofNat vs) be de sz ro co mi T B hd df) (some (.int (ceX [c 0, c 1, c 2, c 3] 0))) (XW 2 (Int32.ofNat vs) be de sz ro co mi T B hd df) := by
  refine PX2_entriesNotZero (Nat.le_of_ble_eq_true rfl) ?_
  intro G hT hC hR
  refine mB hT 18 rfl ?_
  refine mNf (lv2 := [(3, .int 0), (2, .int 0), (1, .int 0), (0, .ref 0)]) (st2 := [.int 0, .int 0, .ref 10]) rfl rfl ?_
  refine hC _ 10 [_, _] _ _ _ _ _ (show KX0_tableCell l D ca ad _ _ (some (.int (c 0))) _ from (by rw [hc 0]; exact c_tableCell_6_0_0)) rfl rfl (Nat.le_of_ble_eq_true rfl) rfl ?_
  refine mB hT 1 rfl ?_
  have J0 : ∀ f1 : Int32, f1 = (if c 0 = 0 then 0 else 0 + 1) → G (37, [(1, .int f1), (3, .int 0), (2, .int 0), (0, .ref 0)], [], (XW 2 (Int32.ofNat vs) be de sz ro co mi T B hd df)) := by
    intro f1 ef1
    refine mB hT 10 rfl ?_
    refine hC _ 10 [_, _] _ _ _ _ _ (show KX0_tableCell l D ca ad _ _ (some (.int (c 1))) _ from (by rw [hc 1]; exact c_tableCell_6_0_1)) rfl rfl (Nat.le_of_ble_eq_true rfl) rfl ?_
    refine mB hT 1 rfl ?_
    have J1 : ∀ f2 : Int32, f2 = (if c 1 = 0 then f1 else f1 + 1) → G (37, [(1, .int f2), (3, .int 1), (2, .int 0), (0, .ref 0)], [], (XW 2 (Int32.ofNat vs) be de sz ro co mi T B hd df)) := by
      intro f2 ef2
      refine mB hT 22 rfl ?_
      refine mNf (lv2 := [(3, .int 0), (2, .int 1), (1, .int f2), (0, .ref 0)]) (st2 := [.int 0, .int 1, .ref 10]) rfl rfl ?_
      refine hC _ 10 [_, _] _ _ _ _ _ (show KX0_tableCell l D ca ad _ _ (some (.int (c 2))) _ from (by rw [hc 2]; exact c_tableCell_6_1_0)) rfl rfl (Nat.le_of_ble_eq_true rfl) rfl ?_
      refine mB hT 1 rfl ?_
      have J2 : ∀ f3 : Int32, f3 = (if c 2 = 0 then f2 else f2 + 1) → G (37, [(1, .int f3), (3, .int 0), (2, .int 1), (0, .ref 0)], [], (XW 2 (Int32.ofNat vs) be de sz ro co mi T B hd df)) := by
        intro f3 ef3
        refine mB hT 10 rfl ?_
        refine hC _ 10 [_, _] _ _ _ _ _ (show KX0_tableCell l D ca ad _ _ (some (.int (c 3))) _ from (by rw [hc 3]; exact c_tableCell_6_1_1)) rfl rfl (Nat.le_of_ble_eq_true rfl) rfl ?_
        refine mB hT 1 rfl ?_
        have J3 : ∀ f4 : Int32, f4 = (if c 3 = 0 then f3 else f3 + 1) → G (37, [(1, .int f4), (3, .int 1), (2, .int 1), (0, .ref 0)], [], (XW 2 (Int32.ofNat vs) be de sz ro co mi T B hd df)) := by
          intro f4 ef4
          refine mB hT 13 rfl ?_
          exact hR _ (by decide) _ _ _ (by subst ef1 ef2 ef3 ef4; rfl) rfl
        refine mIf (fun h => ?_) (fun h => ?_)
        · refine mPk hT [1, 0, 2, 3] rfl ?_
          exact J3 _ (if_pos h).symm
        · refine mB hT 1 rfl ?_
          refine mPk hT [0, 1, 2, 3] rfl ?_
          exact J3 _ (if_neg h).symm
      refine mIf (fun h => ?_) (fun h => ?_)
      · refine mPk hT [2, 0, 1, 3] rfl ?_
        exact J2 _ (if_pos h).symm
      · refine mB hT 1 rfl ?_
        refine mPk hT [0, 1, 2, 3] rfl ?_
        exact J2 _ (if_neg h).symm
    refine mIf (fun h => ?_) (fun h => ?_)
    · refine mPk hT [1, 0, 2, 3] rfl ?_
      exact J1 _ (if_pos h).symm
    · refine mB hT 1 rfl ?_
      refine mPk hT [0, 1, 2, 3] rfl ?_
      exact J1 _ (if_neg h).symm
  refine mIf (fun h => ?_) (fun h => ?_)
  · refine mPk hT [2, 0, 1, 3] rfl ?_
    exact J0 _ (if_pos h).symm
  · refine mB hT 1 rfl ?_
    refine mPk hT [0, 1, 2, 3] rfl ?_
    exact J0 _ (if_neg h).symm
theorem x_count3_2 {vs : Nat} {be de : Int64} {sz : Int32} {ro co mi : Nat → Int64} {T : Nat → Nat → Int64} {B : Nat → Nat → Nat → Int32} {hd : Nat → Nat → Int32} {df : Nat → Int32} : KX2_count l D ca ad [.ref 0, .int 3] (XW 2 (Int32.ofNat vs) be de sz ro co mi T B hd df) (some (.int (ceX [cellX (B 6 0) 0 0, cellX (B 6 1) 1 0, cellX (B 6 0) 0 1, cellX (B 6 1) 1 1] 0))) (XW 2 (Int32.ofNat vs) be de sz ro co mi T B hd df) := by
  refine PX2_count (Nat.le_of_ble_eq_true rfl) ?_
  intro G hT hC hR
  refine mB hT 3 rfl ?_
  refine hC.2 _ 0 [] _ _ _ _ _ (c_enzc_2 (c := fun q => [cellX (B 6 0) 0 0, cellX (B 6 1) 1 0, cellX (B 6 0) 0 1, cellX (B 6 1) 1 1].getD q 0) (fun _ => rfl)) rfl rfl (Nat.le_of_ble_eq_true rfl) rfl ?_
  exact hR _ (by decide) _ _ _ rfl rfl
set_option maxRecDepth 20000 in
theorem c_mwb_3 {vs : Nat} {be de : Int64} {sz : Int32} {ro co mi : Nat → Int64} {T : Nat → Nat → Int64} {B : Nat → Nat → Nat → Int32} {hd : Nat → Nat → Int32} {df : Nat → Int32} : KX2_makingsWithByProducts l D ca ad [.ref 0] (XW 3 (Int32.ofNat vs) be de sz ro co mi T B hd df) (some (.int (cbX 3 (B 6)))) (XW 3 (Int32.ofNat vs) be de sz ro co mi T B hd df) := by
  refine PX2_makingsWithByProducts (Nat.le_of_ble_eq_true rfl) ?_
  intro G hT hC hR
  refine mB hT 11 rfl ?_
  refine mNf (lv2 := [(2, .int 0), (1, .int 0), (0, .ref 0)]) (st2 := [.int 0, .ref 10]) rfl rfl ?_
  refine hC _ 10 [_] _ _ _ _ _ (c_hasBy_0) rfl rfl (Nat.le_of_ble_eq_true rfl) rfl ?_
  refine mB hT 1 rfl ?_
  refine mIf (fun h1 => ?_) (fun h1 => ?_)
  · refine mB hT 9 rfl ?_
    refine hC _ 10 [_] _ _ _ _ _ (c_hasBy_1) rfl rfl (Nat.le_of_ble_eq_true rfl) rfl ?_
    refine mB hT 1 rfl ?_
    refine mIf (fun h2 => ?_) (fun h2 => ?_)
    · refine mB hT 9 rfl ?_
      refine mNf (lv2 := [(2, .int 2), (1, .int 0), (0, .ref 0)]) (st2 := [.int 2, .ref 10]) rfl rfl ?_
      refine hC _ 10 [_] _ _ _ _ _ (c_hasBy_2) rfl rfl (Nat.le_of_ble_eq_true rfl) rfl ?_
      refine mB hT 1 rfl ?_
      refine mIf (fun h3 => ?_) (fun h3 => ?_)
      · refine mB hT 7 rfl ?_
        exact hR _ (by decide) _ _ _ (by simp only [cbX, if_pos h1, if_pos h2, if_pos h3]; rfl) rfl
      · refine mB hT 8 rfl ?_
        exact hR _ (by decide) _ _ _ (by simp only [cbX, if_pos h1, if_pos h2, if_neg h3]; rfl) rfl
    · refine mB hT 10 rfl ?_
      refine mNf (lv2 := [(2, .int 2), (1, .int 1), (0, .ref 0)]) (st2 := [.int 2, .ref 10]) rfl rfl ?_
      refine hC _ 10 [_] _ _ _ _ _ (c_hasBy_2) rfl rfl (Nat.le_of_ble_eq_true rfl) rfl ?_
      refine mB hT 1 rfl ?_
      refine mIf (fun h4 => ?_) (fun h4 => ?_)
      · refine mB hT 7 rfl ?_
        exact hR _ (by decide) _ _ _ (by simp only [cbX, if_pos h1, if_neg h2, if_pos h4]; rfl) rfl
      · refine mB hT 8 rfl ?_
        exact hR _ (by decide) _ _ _ (by simp only [cbX, if_pos h1, if_neg h2, if_neg h4]; rfl) rfl
  · refine mB hT 10 rfl ?_
    refine mNf (lv2 := [(2, .int 1), (1, .int 1), (0, .ref 0)]) (st2 := [.int 1, .ref 10]) rfl rfl ?_
    refine hC _ 10 [_] _ _ _ _ _ (c_hasBy_1) rfl rfl (Nat.le_of_ble_eq_true rfl) rfl ?_
    refine mB hT 1 rfl ?_
    refine mIf (fun h5 => ?_) (fun h5 => ?_)
    · refine mB hT 9 rfl ?_
      refine hC _ 10 [_] _ _ _ _ _ (c_hasBy_2) rfl rfl (Nat.le_of_ble_eq_true rfl) rfl ?_
      refine mB hT 1 rfl ?_
      refine mIf (fun h6 => ?_) (fun h6 => ?_)
      · refine mB hT 7 rfl ?_
        exact hR _ (by decide) _ _ _ (by simp only [cbX, if_neg h1, if_pos h5, if_pos h6]; rfl) rfl
      · refine mB hT 8 rfl ?_
        exact hR _ (by decide) _ _ _ (by simp only [cbX, if_neg h1, if_pos h5, if_neg h6]; rfl) rfl
    · refine mB hT 10 rfl ?_
      refine mNf (lv2 := [(2, .int 2), (1, .int 2), (0, .ref 0)]) (st2 := [.int 2, .ref 10]) rfl rfl ?_
      refine hC _ 10 [_] _ _ _ _ _ (c_hasBy_2) rfl rfl (Nat.le_of_ble_eq_true rfl) rfl ?_
      refine mB hT 1 rfl ?_
      refine mIf (fun h7 => ?_) (fun h7 => ?_)
      · refine mB hT 7 rfl ?_
        exact hR _ (by decide) _ _ _ (by simp only [cbX, if_neg h1, if_neg h5, if_pos h7]; rfl) rfl
      · refine mB hT 8 rfl ?_
        exact hR _ (by decide) _ _ _ (by simp only [cbX, if_neg h1, if_neg h5, if_neg h7]; rfl) rfl
set_option maxRecDepth 20000 in
theorem x_count2_3 {vs : Nat} {be de : Int64} {sz : Int32} {ro co mi : Nat → Int64} {T : Nat → Nat → Int64} {B : Nat → Nat → Nat → Int32} {hd : Nat → Nat → Int32} {df : Nat → Int32} : KX2_count l D ca ad [.ref 0, .int 2] (XW 3 (Int32.ofNat vs) be de sz ro co mi T B hd df) (some (.int (cbX 3 (B 6)))) (XW 3 (Int32.ofNat vs) be de sz ro co mi T B hd df) := by
  refine PX2_count (Nat.le_of_ble_eq_true rfl) ?_
  intro G hT hC hR
  refine mB hT 3 rfl ?_
  refine hC.1 _ 0 [] _ _ _ _ _ (c_mwb_3) rfl rfl (Nat.le_of_ble_eq_true rfl) rfl ?_
  exact hR _ (by decide) _ _ _ rfl rfl
set_option maxRecDepth 20000 in
theorem c_enzc_3 {vs : Nat} {be de : Int64} {sz : Int32} {ro co mi : Nat → Int64} {T : Nat → Nat → Int64} {B : Nat → Nat → Nat → Int32} {hd : Nat → Nat → Int32} {df : Nat → Int32} {c : Nat → Int32} (hc : ∀ q : Nat, c q = [cellX (B 6 0) 0 0, cellX (B 6 1) 1 0, cellX (B 6 2) 2 0, cellX (B 6 0) 0 1, cellX (B 6 1) 1 1, cellX (B 6 2) 2 1, cellX (B 6 0) 0 2, cellX (B 6 1) 1 2, cellX (B 6 2) 2 2].getD q 0) : KX2_entriesNotZero l D ca ad [.ref 0] (XW 3 (Int32.ofNat vs) be de sz ro co mi T B hd df) (some (.int (ceX [c 0, c 1, c 2, c 3, c 4, c 5, c 6, c 7, c 8] 0))) (XW 3 (Int32.ofNat vs) be de sz ro co mi T B hd df) := by
  refine PX2_entriesNotZero (Nat.le_of_ble_eq_true rfl) ?_
  intro G hT hC hR
  refine mB hT 18 rfl ?_
  refine mNf (lv2 := [(3, .int 0), (2, .int 0), (1, .int 0), (0, .ref 0)]) (st2 := [.int 0, .int 0, .ref 10]) rfl rfl ?_
  refine hC _ 10 [_, _] _ _ _ _ _ (show KX0_tableCell l D ca ad _ _ (some (.int (c 0))) _ from (by rw [hc 0]; exact c_tableCell_6_0_0)) rfl rfl (Nat.le_of_ble_eq_true rfl) rfl ?_
  refine mB hT 1 rfl ?_
  have J0 : ∀ f1 : Int32, f1 = (if c 0 = 0 then 0 else 0 + 1) → G (37, [(1, .int f1), (3, .int 0), (2, .int 0), (0, .ref 0)], [], (XW 3 (Int32.ofNat vs) be de sz ro co mi T B hd df)) := by
    intro f1 ef1
    refine mB hT 10 rfl ?_
    refine hC _ 10 [_, _] _ _ _ _ _ (show KX0_tableCell l D ca ad _ _ (some (.int (c 1))) _ from (by rw [hc 1]; exact c_tableCell_6_0_1)) rfl rfl (Nat.le_of_ble_eq_true rfl) rfl ?_
    refine mB hT 1 rfl ?_
    have J1 : ∀ f2 : Int32, f2 = (if c 1 = 0 then f1 else f1 + 1) → G (37, [(1, .int f2), (3, .int 1), (2, .int 0), (0, .ref 0)], [], (XW 3 (Int32.ofNat vs) be de sz ro co mi T B hd df)) := by
      intro f2 ef2
      refine mB hT 10 rfl ?_
      refine hC _ 10 [_, _] _ _ _ _ _ (show KX0_tableCell l D ca ad _ _ (some (.int (c 2))) _ from (by rw [hc 2]; exact c_tableCell_6_0_2)) rfl rfl (Nat.le_of_ble_eq_true rfl) rfl ?_
      refine mB hT 1 rfl ?_
      have J2 : ∀ f3 : Int32, f3 = (if c 2 = 0 then f2 else f2 + 1) → G (37, [(1, .int f3), (3, .int 2), (2, .int 0), (0, .ref 0)], [], (XW 3 (Int32.ofNat vs) be de sz ro co mi T B hd df)) := by
        intro f3 ef3
        refine mB hT 22 rfl ?_
        refine mNf (lv2 := [(3, .int 0), (2, .int 1), (1, .int f3), (0, .ref 0)]) (st2 := [.int 0, .int 1, .ref 10]) rfl rfl ?_
        refine hC _ 10 [_, _] _ _ _ _ _ (show KX0_tableCell l D ca ad _ _ (some (.int (c 3))) _ from (by rw [hc 3]; exact c_tableCell_6_1_0)) rfl rfl (Nat.le_of_ble_eq_true rfl) rfl ?_
        refine mB hT 1 rfl ?_
        have J3 : ∀ f4 : Int32, f4 = (if c 3 = 0 then f3 else f3 + 1) → G (37, [(1, .int f4), (3, .int 0), (2, .int 1), (0, .ref 0)], [], (XW 3 (Int32.ofNat vs) be de sz ro co mi T B hd df)) := by
          intro f4 ef4
          refine mB hT 10 rfl ?_
          refine hC _ 10 [_, _] _ _ _ _ _ (show KX0_tableCell l D ca ad _ _ (some (.int (c 4))) _ from (by rw [hc 4]; exact c_tableCell_6_1_1)) rfl rfl (Nat.le_of_ble_eq_true rfl) rfl ?_
          refine mB hT 1 rfl ?_
          have J4 : ∀ f5 : Int32, f5 = (if c 4 = 0 then f4 else f4 + 1) → G (37, [(1, .int f5), (3, .int 1), (2, .int 1), (0, .ref 0)], [], (XW 3 (Int32.ofNat vs) be de sz ro co mi T B hd df)) := by
            intro f5 ef5
            refine mB hT 10 rfl ?_
            refine hC _ 10 [_, _] _ _ _ _ _ (show KX0_tableCell l D ca ad _ _ (some (.int (c 5))) _ from (by rw [hc 5]; exact c_tableCell_6_1_2)) rfl rfl (Nat.le_of_ble_eq_true rfl) rfl ?_
            refine mB hT 1 rfl ?_
            have J5 : ∀ f6 : Int32, f6 = (if c 5 = 0 then f5 else f5 + 1) → G (37, [(1, .int f6), (3, .int 2), (2, .int 1), (0, .ref 0)], [], (XW 3 (Int32.ofNat vs) be de sz ro co mi T B hd df)) := by
              intro f6 ef6
              refine mB hT 22 rfl ?_
              refine mNf (lv2 := [(3, .int 0), (2, .int 2), (1, .int f6), (0, .ref 0)]) (st2 := [.int 0, .int 2, .ref 10]) rfl rfl ?_
              refine hC _ 10 [_, _] _ _ _ _ _ (show KX0_tableCell l D ca ad _ _ (some (.int (c 6))) _ from (by rw [hc 6]; exact c_tableCell_6_2_0)) rfl rfl (Nat.le_of_ble_eq_true rfl) rfl ?_
              refine mB hT 1 rfl ?_
              have J6 : ∀ f7 : Int32, f7 = (if c 6 = 0 then f6 else f6 + 1) → G (37, [(1, .int f7), (3, .int 0), (2, .int 2), (0, .ref 0)], [], (XW 3 (Int32.ofNat vs) be de sz ro co mi T B hd df)) := by
                intro f7 ef7
                refine mB hT 10 rfl ?_
                refine hC _ 10 [_, _] _ _ _ _ _ (show KX0_tableCell l D ca ad _ _ (some (.int (c 7))) _ from (by rw [hc 7]; exact c_tableCell_6_2_1)) rfl rfl (Nat.le_of_ble_eq_true rfl) rfl ?_
                refine mB hT 1 rfl ?_
                have J7 : ∀ f8 : Int32, f8 = (if c 7 = 0 then f7 else f7 + 1) → G (37, [(1, .int f8), (3, .int 1), (2, .int 2), (0, .ref 0)], [], (XW 3 (Int32.ofNat vs) be de sz ro co mi T B hd df)) := by
                  intro f8 ef8
                  refine mB hT 10 rfl ?_
                  refine hC _ 10 [_, _] _ _ _ _ _ (show KX0_tableCell l D ca ad _ _ (some (.int (c 8))) _ from (by rw [hc 8]; exact c_tableCell_6_2_2)) rfl rfl (Nat.le_of_ble_eq_true rfl) rfl ?_
                  refine mB hT 1 rfl ?_
                  have J8 : ∀ f9 : Int32, f9 = (if c 8 = 0 then f8 else f8 + 1) → G (37, [(1, .int f9), (3, .int 2), (2, .int 2), (0, .ref 0)], [], (XW 3 (Int32.ofNat vs) be de sz ro co mi T B hd df)) := by
                    intro f9 ef9
                    refine mB hT 13 rfl ?_
                    exact hR _ (by decide) _ _ _ (by subst ef1 ef2 ef3 ef4 ef5 ef6 ef7 ef8 ef9; rfl) rfl
                  refine mIf (fun h => ?_) (fun h => ?_)
                  · refine mPk hT [1, 0, 2, 3] rfl ?_
                    exact J8 _ (if_pos h).symm
                  · refine mB hT 1 rfl ?_
                    refine mPk hT [0, 1, 2, 3] rfl ?_
                    exact J8 _ (if_neg h).symm
                refine mIf (fun h => ?_) (fun h => ?_)
                · refine mPk hT [1, 0, 2, 3] rfl ?_
                  exact J7 _ (if_pos h).symm
                · refine mB hT 1 rfl ?_
                  refine mPk hT [0, 1, 2, 3] rfl ?_
                  exact J7 _ (if_neg h).symm
              refine mIf (fun h => ?_) (fun h => ?_)
              · refine mPk hT [2, 0, 1, 3] rfl ?_
                exact J6 _ (if_pos h).symm
              · refine mB hT 1 rfl ?_
                refine mPk hT [0, 1, 2, 3] rfl ?_
                exact J6 _ (if_neg h).symm
            refine mIf (fun h => ?_) (fun h => ?_)
            · refine mPk hT [1, 0, 2, 3] rfl ?_
              exact J5 _ (if_pos h).symm
            · refine mB hT 1 rfl ?_
              refine mPk hT [0, 1, 2, 3] rfl ?_
              exact J5 _ (if_neg h).symm
          refine mIf (fun h => ?_) (fun h => ?_)
          · refine mPk hT [1, 0, 2, 3] rfl ?_
            exact J4 _ (if_pos h).symm
          · refine mB hT 1 rfl ?_
            refine mPk hT [0, 1, 2, 3] rfl ?_
            exact J4 _ (if_neg h).symm
        refine mIf (fun h => ?_) (fun h => ?_)
        · refine mPk hT [2, 0, 1, 3] rfl ?_
          exact J3 _ (if_pos h).symm
        · refine mB hT 1 rfl ?_
          refine mPk hT [0, 1, 2, 3] rfl ?_
          exact J3 _ (if_neg h).symm
      refine mIf (fun h => ?_) (fun h => ?_)
      · refine mPk hT [1, 0, 2, 3] rfl ?_
        exact J2 _ (if_pos h).symm
      · refine mB hT 1 rfl ?_
        refine mPk hT [0, 1, 2, 3] rfl ?_
        exact J2 _ (if_neg h).symm
    refine mIf (fun h => ?_) (fun h => ?_)
    · refine mPk hT [1, 0, 2, 3] rfl ?_
      exact J1 _ (if_pos h).symm
    · refine mB hT 1 rfl ?_
      refine mPk hT [0, 1, 2, 3] rfl ?_
      exact J1 _ (if_neg h).symm
  refine mIf (fun h => ?_) (fun h => ?_)
  · refine mPk hT [2, 0, 1, 3] rfl ?_
    exact J0 _ (if_pos h).symm
  · refine mB hT 1 rfl ?_
    refine mPk hT [0, 1, 2, 3] rfl ?_
    exact J0 _ (if_neg h).symm
theorem x_count3_3 {vs : Nat} {be de : Int64} {sz : Int32} {ro co mi : Nat → Int64} {T : Nat → Nat → Int64} {B : Nat → Nat → Nat → Int32} {hd : Nat → Nat → Int32} {df : Nat → Int32} : KX2_count l D ca ad [.ref 0, .int 3] (XW 3 (Int32.ofNat vs) be de sz ro co mi T B hd df) (some (.int (ceX [cellX (B 6 0) 0 0, cellX (B 6 1) 1 0, cellX (B 6 2) 2 0, cellX (B 6 0) 0 1, cellX (B 6 1) 1 1, cellX (B 6 2) 2 1, cellX (B 6 0) 0 2, cellX (B 6 1) 1 2, cellX (B 6 2) 2 2] 0))) (XW 3 (Int32.ofNat vs) be de sz ro co mi T B hd df) := by
  refine PX2_count (Nat.le_of_ble_eq_true rfl) ?_
  intro G hT hC hR
  refine mB hT 3 rfl ?_
  refine hC.2 _ 0 [] _ _ _ _ _ (c_enzc_3 (c := fun q => [cellX (B 6 0) 0 0, cellX (B 6 1) 1 0, cellX (B 6 2) 2 0, cellX (B 6 0) 0 1, cellX (B 6 1) 1 1, cellX (B 6 2) 2 1, cellX (B 6 0) 0 2, cellX (B 6 1) 1 2, cellX (B 6 2) 2 2].getD q 0) (fun _ => rfl)) rfl rfl (Nat.le_of_ble_eq_true rfl) rfl ?_
  exact hR _ (by decide) _ _ _ rfl rfl
set_option maxRecDepth 20000 in
theorem c_mwb_4 {vs : Nat} {be de : Int64} {sz : Int32} {ro co mi : Nat → Int64} {T : Nat → Nat → Int64} {B : Nat → Nat → Nat → Int32} {hd : Nat → Nat → Int32} {df : Nat → Int32} : KX2_makingsWithByProducts l D ca ad [.ref 0] (XW 4 (Int32.ofNat vs) be de sz ro co mi T B hd df) (some (.int (cbX 4 (B 6)))) (XW 4 (Int32.ofNat vs) be de sz ro co mi T B hd df) := by
  refine PX2_makingsWithByProducts (Nat.le_of_ble_eq_true rfl) ?_
  intro G hT hC hR
  refine mB hT 11 rfl ?_
  refine mNf (lv2 := [(2, .int 0), (1, .int 0), (0, .ref 0)]) (st2 := [.int 0, .ref 10]) rfl rfl ?_
  refine hC _ 10 [_] _ _ _ _ _ (c_hasBy_0) rfl rfl (Nat.le_of_ble_eq_true rfl) rfl ?_
  refine mB hT 1 rfl ?_
  refine mIf (fun h1 => ?_) (fun h1 => ?_)
  · refine mB hT 9 rfl ?_
    refine hC _ 10 [_] _ _ _ _ _ (c_hasBy_1) rfl rfl (Nat.le_of_ble_eq_true rfl) rfl ?_
    refine mB hT 1 rfl ?_
    refine mIf (fun h2 => ?_) (fun h2 => ?_)
    · refine mB hT 9 rfl ?_
      refine mNf (lv2 := [(2, .int 2), (1, .int 0), (0, .ref 0)]) (st2 := [.int 2, .ref 10]) rfl rfl ?_
      refine hC _ 10 [_] _ _ _ _ _ (c_hasBy_2) rfl rfl (Nat.le_of_ble_eq_true rfl) rfl ?_
      refine mB hT 1 rfl ?_
      refine mIf (fun h3 => ?_) (fun h3 => ?_)
      · refine mB hT 9 rfl ?_
        refine hC _ 10 [_] _ _ _ _ _ (c_hasBy_3) rfl rfl (Nat.le_of_ble_eq_true rfl) rfl ?_
        refine mB hT 1 rfl ?_
        refine mIf (fun h4 => ?_) (fun h4 => ?_)
        · refine mB hT 7 rfl ?_
          exact hR _ (by decide) _ _ _ (by simp only [cbX, if_pos h1, if_pos h2, if_pos h3, if_pos h4]; rfl) rfl
        · refine mB hT 8 rfl ?_
          exact hR _ (by decide) _ _ _ (by simp only [cbX, if_pos h1, if_pos h2, if_pos h3, if_neg h4]; rfl) rfl
      · refine mB hT 10 rfl ?_
        refine mNf (lv2 := [(2, .int 3), (1, .int 1), (0, .ref 0)]) (st2 := [.int 3, .ref 10]) rfl rfl ?_
        refine hC _ 10 [_] _ _ _ _ _ (c_hasBy_3) rfl rfl (Nat.le_of_ble_eq_true rfl) rfl ?_
        refine mB hT 1 rfl ?_
        refine mIf (fun h5 => ?_) (fun h5 => ?_)
        · refine mB hT 7 rfl ?_
          exact hR _ (by decide) _ _ _ (by simp only [cbX, if_pos h1, if_pos h2, if_neg h3, if_pos h5]; rfl) rfl
        · refine mB hT 8 rfl ?_
          exact hR _ (by decide) _ _ _ (by simp only [cbX, if_pos h1, if_pos h2, if_neg h3, if_neg h5]; rfl) rfl
    · refine mB hT 10 rfl ?_
      refine mNf (lv2 := [(2, .int 2), (1, .int 1), (0, .ref 0)]) (st2 := [.int 2, .ref 10]) rfl rfl ?_
      refine hC _ 10 [_] _ _ _ _ _ (c_hasBy_2) rfl rfl (Nat.le_of_ble_eq_true rfl) rfl ?_
      refine mB hT 1 rfl ?_
      refine mIf (fun h6 => ?_) (fun h6 => ?_)
      · refine mB hT 9 rfl ?_
        refine hC _ 10 [_] _ _ _ _ _ (c_hasBy_3) rfl rfl (Nat.le_of_ble_eq_true rfl) rfl ?_
        refine mB hT 1 rfl ?_
        refine mIf (fun h7 => ?_) (fun h7 => ?_)
        · refine mB hT 7 rfl ?_
          exact hR _ (by decide) _ _ _ (by simp only [cbX, if_pos h1, if_neg h2, if_pos h6, if_pos h7]; rfl) rfl
        · refine mB hT 8 rfl ?_
          exact hR _ (by decide) _ _ _ (by simp only [cbX, if_pos h1, if_neg h2, if_pos h6, if_neg h7]; rfl) rfl
      · refine mB hT 10 rfl ?_
        refine mNf (lv2 := [(2, .int 3), (1, .int 2), (0, .ref 0)]) (st2 := [.int 3, .ref 10]) rfl rfl ?_
        refine hC _ 10 [_] _ _ _ _ _ (c_hasBy_3) rfl rfl (Nat.le_of_ble_eq_true rfl) rfl ?_
        refine mB hT 1 rfl ?_
        refine mIf (fun h8 => ?_) (fun h8 => ?_)
        · refine mB hT 7 rfl ?_
          exact hR _ (by decide) _ _ _ (by simp only [cbX, if_pos h1, if_neg h2, if_neg h6, if_pos h8]; rfl) rfl
        · refine mB hT 8 rfl ?_
          exact hR _ (by decide) _ _ _ (by simp only [cbX, if_pos h1, if_neg h2, if_neg h6, if_neg h8]; rfl) rfl
  · refine mB hT 10 rfl ?_
    refine mNf (lv2 := [(2, .int 1), (1, .int 1), (0, .ref 0)]) (st2 := [.int 1, .ref 10]) rfl rfl ?_
    refine hC _ 10 [_] _ _ _ _ _ (c_hasBy_1) rfl rfl (Nat.le_of_ble_eq_true rfl) rfl ?_
    refine mB hT 1 rfl ?_
    refine mIf (fun h9 => ?_) (fun h9 => ?_)
    · refine mB hT 9 rfl ?_
      refine hC _ 10 [_] _ _ _ _ _ (c_hasBy_2) rfl rfl (Nat.le_of_ble_eq_true rfl) rfl ?_
      refine mB hT 1 rfl ?_
      refine mIf (fun h10 => ?_) (fun h10 => ?_)
      · refine mB hT 9 rfl ?_
        refine mNf (lv2 := [(2, .int 3), (1, .int 1), (0, .ref 0)]) (st2 := [.int 3, .ref 10]) rfl rfl ?_
        refine hC _ 10 [_] _ _ _ _ _ (c_hasBy_3) rfl rfl (Nat.le_of_ble_eq_true rfl) rfl ?_
        refine mB hT 1 rfl ?_
        refine mIf (fun h11 => ?_) (fun h11 => ?_)
        · refine mB hT 7 rfl ?_
          exact hR _ (by decide) _ _ _ (by simp only [cbX, if_neg h1, if_pos h9, if_pos h10, if_pos h11]; rfl) rfl
        · refine mB hT 8 rfl ?_
          exact hR _ (by decide) _ _ _ (by simp only [cbX, if_neg h1, if_pos h9, if_pos h10, if_neg h11]; rfl) rfl
      · refine mB hT 10 rfl ?_
        refine mNf (lv2 := [(2, .int 3), (1, .int 2), (0, .ref 0)]) (st2 := [.int 3, .ref 10]) rfl rfl ?_
        refine hC _ 10 [_] _ _ _ _ _ (c_hasBy_3) rfl rfl (Nat.le_of_ble_eq_true rfl) rfl ?_
        refine mB hT 1 rfl ?_
        refine mIf (fun h12 => ?_) (fun h12 => ?_)
        · refine mB hT 7 rfl ?_
          exact hR _ (by decide) _ _ _ (by simp only [cbX, if_neg h1, if_pos h9, if_neg h10, if_pos h12]; rfl) rfl
        · refine mB hT 8 rfl ?_
          exact hR _ (by decide) _ _ _ (by simp only [cbX, if_neg h1, if_pos h9, if_neg h10, if_neg h12]; rfl) rfl
    · refine mB hT 10 rfl ?_
      refine mNf (lv2 := [(2, .int 2), (1, .int 2), (0, .ref 0)]) (st2 := [.int 2, .ref 10]) rfl rfl ?_
      refine hC _ 10 [_] _ _ _ _ _ (c_hasBy_2) rfl rfl (Nat.le_of_ble_eq_true rfl) rfl ?_
      refine mB hT 1 rfl ?_
      refine mIf (fun h13 => ?_) (fun h13 => ?_)
      · refine mB hT 9 rfl ?_
        refine hC _ 10 [_] _ _ _ _ _ (c_hasBy_3) rfl rfl (Nat.le_of_ble_eq_true rfl) rfl ?_
        refine mB hT 1 rfl ?_
        refine mIf (fun h14 => ?_) (fun h14 => ?_)
        · refine mB hT 7 rfl ?_
          exact hR _ (by decide) _ _ _ (by simp only [cbX, if_neg h1, if_neg h9, if_pos h13, if_pos h14]; rfl) rfl
        · refine mB hT 8 rfl ?_
          exact hR _ (by decide) _ _ _ (by simp only [cbX, if_neg h1, if_neg h9, if_pos h13, if_neg h14]; rfl) rfl
      · refine mB hT 10 rfl ?_
        refine mNf (lv2 := [(2, .int 3), (1, .int 3), (0, .ref 0)]) (st2 := [.int 3, .ref 10]) rfl rfl ?_
        refine hC _ 10 [_] _ _ _ _ _ (c_hasBy_3) rfl rfl (Nat.le_of_ble_eq_true rfl) rfl ?_
        refine mB hT 1 rfl ?_
        refine mIf (fun h15 => ?_) (fun h15 => ?_)
        · refine mB hT 7 rfl ?_
          exact hR _ (by decide) _ _ _ (by simp only [cbX, if_neg h1, if_neg h9, if_neg h13, if_pos h15]; rfl) rfl
        · refine mB hT 8 rfl ?_
          exact hR _ (by decide) _ _ _ (by simp only [cbX, if_neg h1, if_neg h9, if_neg h13, if_neg h15]; rfl) rfl
set_option maxRecDepth 20000 in
theorem x_count2_4 {vs : Nat} {be de : Int64} {sz : Int32} {ro co mi : Nat → Int64} {T : Nat → Nat → Int64} {B : Nat → Nat → Nat → Int32} {hd : Nat → Nat → Int32} {df : Nat → Int32} : KX2_count l D ca ad [.ref 0, .int 2] (XW 4 (Int32.ofNat vs) be de sz ro co mi T B hd df) (some (.int (cbX 4 (B 6)))) (XW 4 (Int32.ofNat vs) be de sz ro co mi T B hd df) := by
  refine PX2_count (Nat.le_of_ble_eq_true rfl) ?_
  intro G hT hC hR
  refine mB hT 3 rfl ?_
  refine hC.1 _ 0 [] _ _ _ _ _ (c_mwb_4) rfl rfl (Nat.le_of_ble_eq_true rfl) rfl ?_
  exact hR _ (by decide) _ _ _ rfl rfl
set_option maxRecDepth 20000 in
theorem c_enzc_4 {vs : Nat} {be de : Int64} {sz : Int32} {ro co mi : Nat → Int64} {T : Nat → Nat → Int64} {B : Nat → Nat → Nat → Int32} {hd : Nat → Nat → Int32} {df : Nat → Int32} {c : Nat → Int32} (hc : ∀ q : Nat, c q = [cellX (B 6 0) 0 0, cellX (B 6 1) 1 0, cellX (B 6 2) 2 0, cellX (B 6 3) 3 0, cellX (B 6 0) 0 1, cellX (B 6 1) 1 1, cellX (B 6 2) 2 1, cellX (B 6 3) 3 1, cellX (B 6 0) 0 2, cellX (B 6 1) 1 2, cellX (B 6 2) 2 2, cellX (B 6 3) 3 2, cellX (B 6 0) 0 3, cellX (B 6 1) 1 3, cellX (B 6 2) 2 3, cellX (B 6 3) 3 3].getD q 0) : KX2_entriesNotZero l D ca ad [.ref 0] (XW 4 (Int32.ofNat vs) be de sz ro co mi T B hd df) (some (.int (ceX [c 0, c 1, c 2, c 3, c 4, c 5, c 6, c 7, c 8, c 9, c 10, c 11, c 12, c 13, c 14, c 15] 0))) (XW 4 (Int32.ofNat vs) be de sz ro co mi T B hd df) := by
  refine PX2_entriesNotZero (Nat.le_of_ble_eq_true rfl) ?_
  intro G hT hC hR
  refine mB hT 18 rfl ?_
  refine mNf (lv2 := [(3, .int 0), (2, .int 0), (1, .int 0), (0, .ref 0)]) (st2 := [.int 0, .int 0, .ref 10]) rfl rfl ?_
  refine hC _ 10 [_, _] _ _ _ _ _ (show KX0_tableCell l D ca ad _ _ (some (.int (c 0))) _ from (by rw [hc 0]; exact c_tableCell_6_0_0)) rfl rfl (Nat.le_of_ble_eq_true rfl) rfl ?_
  refine mB hT 1 rfl ?_
  have J0 : ∀ f1 : Int32, f1 = (if c 0 = 0 then 0 else 0 + 1) → G (37, [(1, .int f1), (3, .int 0), (2, .int 0), (0, .ref 0)], [], (XW 4 (Int32.ofNat vs) be de sz ro co mi T B hd df)) := by
    intro f1 ef1
    refine mB hT 10 rfl ?_
    refine hC _ 10 [_, _] _ _ _ _ _ (show KX0_tableCell l D ca ad _ _ (some (.int (c 1))) _ from (by rw [hc 1]; exact c_tableCell_6_0_1)) rfl rfl (Nat.le_of_ble_eq_true rfl) rfl ?_
    refine mB hT 1 rfl ?_
    have J1 : ∀ f2 : Int32, f2 = (if c 1 = 0 then f1 else f1 + 1) → G (37, [(1, .int f2), (3, .int 1), (2, .int 0), (0, .ref 0)], [], (XW 4 (Int32.ofNat vs) be de sz ro co mi T B hd df)) := by
      intro f2 ef2
      refine mB hT 10 rfl ?_
      refine hC _ 10 [_, _] _ _ _ _ _ (show KX0_tableCell l D ca ad _ _ (some (.int (c 2))) _ from (by rw [hc 2]; exact c_tableCell_6_0_2)) rfl rfl (Nat.le_of_ble_eq_true rfl) rfl ?_
      refine mB hT 1 rfl ?_
      have J2 : ∀ f3 : Int32, f3 = (if c 2 = 0 then f2 else f2 + 1) → G (37, [(1, .int f3), (3, .int 2), (2, .int 0), (0, .ref 0)], [], (XW 4 (Int32.ofNat vs) be de sz ro co mi T B hd df)) := by
        intro f3 ef3
        refine mB hT 10 rfl ?_
        refine hC _ 10 [_, _] _ _ _ _ _ (show KX0_tableCell l D ca ad _ _ (some (.int (c 3))) _ from (by rw [hc 3]; exact c_tableCell_6_0_3)) rfl rfl (Nat.le_of_ble_eq_true rfl) rfl ?_
        refine mB hT 1 rfl ?_
        have J3 : ∀ f4 : Int32, f4 = (if c 3 = 0 then f3 else f3 + 1) → G (37, [(1, .int f4), (3, .int 3), (2, .int 0), (0, .ref 0)], [], (XW 4 (Int32.ofNat vs) be de sz ro co mi T B hd df)) := by
          intro f4 ef4
          refine mB hT 22 rfl ?_
          refine mNf (lv2 := [(3, .int 0), (2, .int 1), (1, .int f4), (0, .ref 0)]) (st2 := [.int 0, .int 1, .ref 10]) rfl rfl ?_
          refine hC _ 10 [_, _] _ _ _ _ _ (show KX0_tableCell l D ca ad _ _ (some (.int (c 4))) _ from (by rw [hc 4]; exact c_tableCell_6_1_0)) rfl rfl (Nat.le_of_ble_eq_true rfl) rfl ?_
          refine mB hT 1 rfl ?_
          have J4 : ∀ f5 : Int32, f5 = (if c 4 = 0 then f4 else f4 + 1) → G (37, [(1, .int f5), (3, .int 0), (2, .int 1), (0, .ref 0)], [], (XW 4 (Int32.ofNat vs) be de sz ro co mi T B hd df)) := by
            intro f5 ef5
            refine mB hT 10 rfl ?_
            refine hC _ 10 [_, _] _ _ _ _ _ (show KX0_tableCell l D ca ad _ _ (some (.int (c 5))) _ from (by rw [hc 5]; exact c_tableCell_6_1_1)) rfl rfl (Nat.le_of_ble_eq_true rfl) rfl ?_
            refine mB hT 1 rfl ?_
            have J5 : ∀ f6 : Int32, f6 = (if c 5 = 0 then f5 else f5 + 1) → G (37, [(1, .int f6), (3, .int 1), (2, .int 1), (0, .ref 0)], [], (XW 4 (Int32.ofNat vs) be de sz ro co mi T B hd df)) := by
              intro f6 ef6
              refine mB hT 10 rfl ?_
              refine hC _ 10 [_, _] _ _ _ _ _ (show KX0_tableCell l D ca ad _ _ (some (.int (c 6))) _ from (by rw [hc 6]; exact c_tableCell_6_1_2)) rfl rfl (Nat.le_of_ble_eq_true rfl) rfl ?_
              refine mB hT 1 rfl ?_
              have J6 : ∀ f7 : Int32, f7 = (if c 6 = 0 then f6 else f6 + 1) → G (37, [(1, .int f7), (3, .int 2), (2, .int 1), (0, .ref 0)], [], (XW 4 (Int32.ofNat vs) be de sz ro co mi T B hd df)) := by
                intro f7 ef7
                refine mB hT 10 rfl ?_
                refine hC _ 10 [_, _] _ _ _ _ _ (show KX0_tableCell l D ca ad _ _ (some (.int (c 7))) _ from (by rw [hc 7]; exact c_tableCell_6_1_3)) rfl rfl (Nat.le_of_ble_eq_true rfl) rfl ?_
                refine mB hT 1 rfl ?_
                have J7 : ∀ f8 : Int32, f8 = (if c 7 = 0 then f7 else f7 + 1) → G (37, [(1, .int f8), (3, .int 3), (2, .int 1), (0, .ref 0)], [], (XW 4 (Int32.ofNat vs) be de sz ro co mi T B hd df)) := by
                  intro f8 ef8
                  refine mB hT 22 rfl ?_
                  refine mNf (lv2 := [(3, .int 0), (2, .int 2), (1, .int f8), (0, .ref 0)]) (st2 := [.int 0, .int 2, .ref 10]) rfl rfl ?_
                  refine hC _ 10 [_, _] _ _ _ _ _ (show KX0_tableCell l D ca ad _ _ (some (.int (c 8))) _ from (by rw [hc 8]; exact c_tableCell_6_2_0)) rfl rfl (Nat.le_of_ble_eq_true rfl) rfl ?_
                  refine mB hT 1 rfl ?_
                  have J8 : ∀ f9 : Int32, f9 = (if c 8 = 0 then f8 else f8 + 1) → G (37, [(1, .int f9), (3, .int 0), (2, .int 2), (0, .ref 0)], [], (XW 4 (Int32.ofNat vs) be de sz ro co mi T B hd df)) := by
                    intro f9 ef9
                    refine mB hT 10 rfl ?_
                    refine hC _ 10 [_, _] _ _ _ _ _ (show KX0_tableCell l D ca ad _ _ (some (.int (c 9))) _ from (by rw [hc 9]; exact c_tableCell_6_2_1)) rfl rfl (Nat.le_of_ble_eq_true rfl) rfl ?_
                    refine mB hT 1 rfl ?_
                    have J9 : ∀ f10 : Int32, f10 = (if c 9 = 0 then f9 else f9 + 1) → G (37, [(1, .int f10), (3, .int 1), (2, .int 2), (0, .ref 0)], [], (XW 4 (Int32.ofNat vs) be de sz ro co mi T B hd df)) := by
                      intro f10 ef10
                      refine mB hT 10 rfl ?_
                      refine hC _ 10 [_, _] _ _ _ _ _ (show KX0_tableCell l D ca ad _ _ (some (.int (c 10))) _ from (by rw [hc 10]; exact c_tableCell_6_2_2)) rfl rfl (Nat.le_of_ble_eq_true rfl) rfl ?_
                      refine mB hT 1 rfl ?_
                      have J10 : ∀ f11 : Int32, f11 = (if c 10 = 0 then f10 else f10 + 1) → G (37, [(1, .int f11), (3, .int 2), (2, .int 2), (0, .ref 0)], [], (XW 4 (Int32.ofNat vs) be de sz ro co mi T B hd df)) := by
                        intro f11 ef11
                        refine mB hT 10 rfl ?_
                        refine hC _ 10 [_, _] _ _ _ _ _ (show KX0_tableCell l D ca ad _ _ (some (.int (c 11))) _ from (by rw [hc 11]; exact c_tableCell_6_2_3)) rfl rfl (Nat.le_of_ble_eq_true rfl) rfl ?_
                        refine mB hT 1 rfl ?_
                        have J11 : ∀ f12 : Int32, f12 = (if c 11 = 0 then f11 else f11 + 1) → G (37, [(1, .int f12), (3, .int 3), (2, .int 2), (0, .ref 0)], [], (XW 4 (Int32.ofNat vs) be de sz ro co mi T B hd df)) := by
                          intro f12 ef12
                          refine mB hT 22 rfl ?_
                          refine mNf (lv2 := [(3, .int 0), (2, .int 3), (1, .int f12), (0, .ref 0)]) (st2 := [.int 0, .int 3, .ref 10]) rfl rfl ?_
                          refine hC _ 10 [_, _] _ _ _ _ _ (show KX0_tableCell l D ca ad _ _ (some (.int (c 12))) _ from (by rw [hc 12]; exact c_tableCell_6_3_0)) rfl rfl (Nat.le_of_ble_eq_true rfl) rfl ?_
                          refine mB hT 1 rfl ?_
                          have J12 : ∀ f13 : Int32, f13 = (if c 12 = 0 then f12 else f12 + 1) → G (37, [(1, .int f13), (3, .int 0), (2, .int 3), (0, .ref 0)], [], (XW 4 (Int32.ofNat vs) be de sz ro co mi T B hd df)) := by
                            intro f13 ef13
                            refine mB hT 10 rfl ?_
                            refine hC _ 10 [_, _] _ _ _ _ _ (show KX0_tableCell l D ca ad _ _ (some (.int (c 13))) _ from (by rw [hc 13]; exact c_tableCell_6_3_1)) rfl rfl (Nat.le_of_ble_eq_true rfl) rfl ?_
                            refine mB hT 1 rfl ?_
                            have J13 : ∀ f14 : Int32, f14 = (if c 13 = 0 then f13 else f13 + 1) → G (37, [(1, .int f14), (3, .int 1), (2, .int 3), (0, .ref 0)], [], (XW 4 (Int32.ofNat vs) be de sz ro co mi T B hd df)) := by
                              intro f14 ef14
                              refine mB hT 10 rfl ?_
                              refine hC _ 10 [_, _] _ _ _ _ _ (show KX0_tableCell l D ca ad _ _ (some (.int (c 14))) _ from (by rw [hc 14]; exact c_tableCell_6_3_2)) rfl rfl (Nat.le_of_ble_eq_true rfl) rfl ?_
                              refine mB hT 1 rfl ?_
                              have J14 : ∀ f15 : Int32, f15 = (if c 14 = 0 then f14 else f14 + 1) → G (37, [(1, .int f15), (3, .int 2), (2, .int 3), (0, .ref 0)], [], (XW 4 (Int32.ofNat vs) be de sz ro co mi T B hd df)) := by
                                intro f15 ef15
                                refine mB hT 10 rfl ?_
                                refine hC _ 10 [_, _] _ _ _ _ _ (show KX0_tableCell l D ca ad _ _ (some (.int (c 15))) _ from (by rw [hc 15]; exact c_tableCell_6_3_3)) rfl rfl (Nat.le_of_ble_eq_true rfl) rfl ?_
                                refine mB hT 1 rfl ?_
                                have J15 : ∀ f16 : Int32, f16 = (if c 15 = 0 then f15 else f15 + 1) → G (37, [(1, .int f16), (3, .int 3), (2, .int 3), (0, .ref 0)], [], (XW 4 (Int32.ofNat vs) be de sz ro co mi T B hd df)) := by
                                  intro f16 ef16
                                  refine mB hT 13 rfl ?_
                                  exact hR _ (by decide) _ _ _ (by subst ef1 ef2 ef3 ef4 ef5 ef6 ef7 ef8 ef9 ef10 ef11 ef12 ef13 ef14 ef15 ef16; rfl) rfl
                                refine mIf (fun h => ?_) (fun h => ?_)
                                · refine mPk hT [1, 0, 2, 3] rfl ?_
                                  exact J15 _ (if_pos h).symm
                                · refine mB hT 1 rfl ?_
                                  refine mPk hT [0, 1, 2, 3] rfl ?_
                                  exact J15 _ (if_neg h).symm
                              refine mIf (fun h => ?_) (fun h => ?_)
                              · refine mPk hT [1, 0, 2, 3] rfl ?_
                                exact J14 _ (if_pos h).symm
                              · refine mB hT 1 rfl ?_
                                refine mPk hT [0, 1, 2, 3] rfl ?_
                                exact J14 _ (if_neg h).symm
                            refine mIf (fun h => ?_) (fun h => ?_)
                            · refine mPk hT [1, 0, 2, 3] rfl ?_
                              exact J13 _ (if_pos h).symm
                            · refine mB hT 1 rfl ?_
                              refine mPk hT [0, 1, 2, 3] rfl ?_
                              exact J13 _ (if_neg h).symm
                          refine mIf (fun h => ?_) (fun h => ?_)
                          · refine mPk hT [2, 0, 1, 3] rfl ?_
                            exact J12 _ (if_pos h).symm
                          · refine mB hT 1 rfl ?_
                            refine mPk hT [0, 1, 2, 3] rfl ?_
                            exact J12 _ (if_neg h).symm
                        refine mIf (fun h => ?_) (fun h => ?_)
                        · refine mPk hT [1, 0, 2, 3] rfl ?_
                          exact J11 _ (if_pos h).symm
                        · refine mB hT 1 rfl ?_
                          refine mPk hT [0, 1, 2, 3] rfl ?_
                          exact J11 _ (if_neg h).symm
                      refine mIf (fun h => ?_) (fun h => ?_)
                      · refine mPk hT [1, 0, 2, 3] rfl ?_
                        exact J10 _ (if_pos h).symm
                      · refine mB hT 1 rfl ?_
                        refine mPk hT [0, 1, 2, 3] rfl ?_
                        exact J10 _ (if_neg h).symm
                    refine mIf (fun h => ?_) (fun h => ?_)
                    · refine mPk hT [1, 0, 2, 3] rfl ?_
                      exact J9 _ (if_pos h).symm
                    · refine mB hT 1 rfl ?_
                      refine mPk hT [0, 1, 2, 3] rfl ?_
                      exact J9 _ (if_neg h).symm
                  refine mIf (fun h => ?_) (fun h => ?_)
                  · refine mPk hT [2, 0, 1, 3] rfl ?_
                    exact J8 _ (if_pos h).symm
                  · refine mB hT 1 rfl ?_
                    refine mPk hT [0, 1, 2, 3] rfl ?_
                    exact J8 _ (if_neg h).symm
                refine mIf (fun h => ?_) (fun h => ?_)
                · refine mPk hT [1, 0, 2, 3] rfl ?_
                  exact J7 _ (if_pos h).symm
                · refine mB hT 1 rfl ?_
                  refine mPk hT [0, 1, 2, 3] rfl ?_
                  exact J7 _ (if_neg h).symm
              refine mIf (fun h => ?_) (fun h => ?_)
              · refine mPk hT [1, 0, 2, 3] rfl ?_
                exact J6 _ (if_pos h).symm
              · refine mB hT 1 rfl ?_
                refine mPk hT [0, 1, 2, 3] rfl ?_
                exact J6 _ (if_neg h).symm
            refine mIf (fun h => ?_) (fun h => ?_)
            · refine mPk hT [1, 0, 2, 3] rfl ?_
              exact J5 _ (if_pos h).symm
            · refine mB hT 1 rfl ?_
              refine mPk hT [0, 1, 2, 3] rfl ?_
              exact J5 _ (if_neg h).symm
          refine mIf (fun h => ?_) (fun h => ?_)
          · refine mPk hT [2, 0, 1, 3] rfl ?_
            exact J4 _ (if_pos h).symm
          · refine mB hT 1 rfl ?_
            refine mPk hT [0, 1, 2, 3] rfl ?_
            exact J4 _ (if_neg h).symm
        refine mIf (fun h => ?_) (fun h => ?_)
        · refine mPk hT [1, 0, 2, 3] rfl ?_
          exact J3 _ (if_pos h).symm
        · refine mB hT 1 rfl ?_
          refine mPk hT [0, 1, 2, 3] rfl ?_
          exact J3 _ (if_neg h).symm
      refine mIf (fun h => ?_) (fun h => ?_)
      · refine mPk hT [1, 0, 2, 3] rfl ?_
        exact J2 _ (if_pos h).symm
      · refine mB hT 1 rfl ?_
        refine mPk hT [0, 1, 2, 3] rfl ?_
        exact J2 _ (if_neg h).symm
    refine mIf (fun h => ?_) (fun h => ?_)
    · refine mPk hT [1, 0, 2, 3] rfl ?_
      exact J1 _ (if_pos h).symm
    · refine mB hT 1 rfl ?_
      refine mPk hT [0, 1, 2, 3] rfl ?_
      exact J1 _ (if_neg h).symm
  refine mIf (fun h => ?_) (fun h => ?_)
  · refine mPk hT [2, 0, 1, 3] rfl ?_
    exact J0 _ (if_pos h).symm
  · refine mB hT 1 rfl ?_
    refine mPk hT [0, 1, 2, 3] rfl ?_
    exact J0 _ (if_neg h).symm
theorem x_count3_4 {vs : Nat} {be de : Int64} {sz : Int32} {ro co mi : Nat → Int64} {T : Nat → Nat → Int64} {B : Nat → Nat → Nat → Int32} {hd : Nat → Nat → Int32} {df : Nat → Int32} : KX2_count l D ca ad [.ref 0, .int 3] (XW 4 (Int32.ofNat vs) be de sz ro co mi T B hd df) (some (.int (ceX [cellX (B 6 0) 0 0, cellX (B 6 1) 1 0, cellX (B 6 2) 2 0, cellX (B 6 3) 3 0, cellX (B 6 0) 0 1, cellX (B 6 1) 1 1, cellX (B 6 2) 2 1, cellX (B 6 3) 3 1, cellX (B 6 0) 0 2, cellX (B 6 1) 1 2, cellX (B 6 2) 2 2, cellX (B 6 3) 3 2, cellX (B 6 0) 0 3, cellX (B 6 1) 1 3, cellX (B 6 2) 2 3, cellX (B 6 3) 3 3] 0))) (XW 4 (Int32.ofNat vs) be de sz ro co mi T B hd df) := by
  refine PX2_count (Nat.le_of_ble_eq_true rfl) ?_
  intro G hT hC hR
  refine mB hT 3 rfl ?_
  refine hC.2 _ 0 [] _ _ _ _ _ (c_enzc_4 (c := fun q => [cellX (B 6 0) 0 0, cellX (B 6 1) 1 0, cellX (B 6 2) 2 0, cellX (B 6 3) 3 0, cellX (B 6 0) 0 1, cellX (B 6 1) 1 1, cellX (B 6 2) 2 1, cellX (B 6 3) 3 1, cellX (B 6 0) 0 2, cellX (B 6 1) 1 2, cellX (B 6 2) 2 2, cellX (B 6 3) 3 2, cellX (B 6 0) 0 3, cellX (B 6 1) 1 3, cellX (B 6 2) 2 3, cellX (B 6 3) 3 3].getD q 0) (fun _ => rfl)) rfl rfl (Nat.le_of_ble_eq_true rfl) rfl ?_
  exact hR _ (by decide) _ _ _ rfl rfl
end
