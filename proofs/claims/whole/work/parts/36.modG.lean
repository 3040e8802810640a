def tdM (n : Nat) (rows : Nat → Nat → Int32) (i q : Nat) : Int32 := if q = 2 then mnM (rows i) else if q = 3 then alM n rows i else rows i q
section
variable {l : Launch} {D : va_G} {ca : Nat → ClassId} {ad : Nat → Nat}

set_option maxRecDepth 20000 in
theorem m_making_0 {wo un h : Int64} {bo : Nat → Int32} {ta tr ro ot : Nat → Int64} {Bm : Nat → Nat → Nat → Int32} {bk : Nat → Nat → Int32} : KX3_making l D ca ad [.ref 0] (MW 0 0 wo un h bo ta tr ro ot Bm bk) (some (.int 0)) (MW 1 0 wo un h bo ta tr ro ot (up Bm 6 (up (Bm 6) 0 (up (up (up (up (Bm 6 0) 0 1) 1 0) 21 1) 22 1))) bk) := by
  refine PX3_making (Nat.le_of_ble_eq_true rfl) ?_
  intro G hT hC hR
  refine mB hT 27 rfl ?_
  refine mWd (w2 := (MW 0 0 wo un h bo ta tr ro ot (up Bm 6 (up (Bm 6) 0 (up (up (up (Bm 6 0) 0 1) 1 0) 21 1))) bk)) rfl ?_
  refine mB hT 15 rfl ?_
  exact hR _ (by decide) _ _ _ rfl rfl
set_option maxRecDepth 20000 in
theorem m_making_1 {wo un h : Int64} {bo : Nat → Int32} {ta tr ro ot : Nat → Int64} {Bm : Nat → Nat → Nat → Int32} {bk : Nat → Nat → Int32} : KX3_making l D ca ad [.ref 0] (MW 1 0 wo un h bo ta tr ro ot Bm bk) (some (.int 1)) (MW 2 0 wo un h bo ta tr ro ot (up Bm 6 (up (Bm 6) 1 (up (up (up (up (Bm 6 1) 0 1) 1 0) 21 1) 22 1))) bk) := by
  refine PX3_making (Nat.le_of_ble_eq_true rfl) ?_
  intro G hT hC hR
  refine mB hT 27 rfl ?_
  refine mWd (w2 := (MW 1 0 wo un h bo ta tr ro ot (up Bm 6 (up (Bm 6) 1 (up (up (up (Bm 6 1) 0 1) 1 0) 21 1))) bk)) rfl ?_
  refine mB hT 15 rfl ?_
  exact hR _ (by decide) _ _ _ rfl rfl
set_option maxRecDepth 20000 in
theorem m_making_2 {wo un h : Int64} {bo : Nat → Int32} {ta tr ro ot : Nat → Int64} {Bm : Nat → Nat → Nat → Int32} {bk : Nat → Nat → Int32} : KX3_making l D ca ad [.ref 0] (MW 2 0 wo un h bo ta tr ro ot Bm bk) (some (.int 2)) (MW 3 0 wo un h bo ta tr ro ot (up Bm 6 (up (Bm 6) 2 (up (up (up (up (Bm 6 2) 0 1) 1 0) 21 1) 22 1))) bk) := by
  refine PX3_making (Nat.le_of_ble_eq_true rfl) ?_
  intro G hT hC hR
  refine mB hT 27 rfl ?_
  refine mWd (w2 := (MW 2 0 wo un h bo ta tr ro ot (up Bm 6 (up (Bm 6) 2 (up (up (up (Bm 6 2) 0 1) 1 0) 21 1))) bk)) rfl ?_
  refine mB hT 15 rfl ?_
  exact hR _ (by decide) _ _ _ rfl rfl
set_option maxRecDepth 20000 in
theorem m_making_3 {wo un h : Int64} {bo : Nat → Int32} {ta tr ro ot : Nat → Int64} {Bm : Nat → Nat → Nat → Int32} {bk : Nat → Nat → Int32} : KX3_making l D ca ad [.ref 0] (MW 3 0 wo un h bo ta tr ro ot Bm bk) (some (.int 3)) (MW 4 0 wo un h bo ta tr ro ot (up Bm 6 (up (Bm 6) 3 (up (up (up (up (Bm 6 3) 0 1) 1 0) 21 1) 22 1))) bk) := by
  refine PX3_making (Nat.le_of_ble_eq_true rfl) ?_
  intro G hT hC hR
  refine mB hT 27 rfl ?_
  refine mWd (w2 := (MW 3 0 wo un h bo ta tr ro ot (up Bm 6 (up (Bm 6) 3 (up (up (up (Bm 6 3) 0 1) 1 0) 21 1))) bk)) rfl ?_
  refine mB hT 15 rfl ?_
  exact hR _ (by decide) _ _ _ rfl rfl
set_option maxRecDepth 20000 in
theorem m_making_full {wo un h : Int64} {bo : Nat → Int32} {ta tr ro ot : Nat → Int64} {Bm : Nat → Nat → Nat → Int32} {bk : Nat → Nat → Int32} : KX3_making l D ca ad [.ref 0] (MW 4 0 wo un h bo ta tr ro ot Bm bk) (some (.int (-105))) (MW 4 0 wo un h bo ta tr ro ot Bm bk) := by
  refine PX3_making (Nat.le_of_ble_eq_true rfl) ?_
  intro G hT hC hR
  refine mB hT 8 rfl ?_
  exact hR _ (by decide) _ _ _ rfl rfl
set_option maxRecDepth 20000 in
theorem m_making_state {n vs : Nat} {wo un h : Int64} {bo : Nat → Int32} {ta tr ro ot : Nat → Int64} {Bm : Nat → Nat → Nat → Int32} {bk : Nat → Nat → Int32} (hv : 0 < vs) (hv6 : vs ≤ 6) : KX3_making l D ca ad [.ref 0] (MW (Int32.ofNat n) (Int32.ofNat vs) wo un h bo ta tr ro ot Bm bk) (some (.int (-103))) (MW (Int32.ofNat n) (Int32.ofNat vs) wo un h bo ta tr ro ot Bm bk) := by
  refine PX3_making (Nat.le_of_ble_eq_true rfl) ?_
  intro G hT hC hR
  refine mB hT 3 rfl ?_
  refine mIf (fun hp => absurd hp (nI_nle hv (by omega))) (fun _ => ?_)
  refine mB hT 1 rfl ?_
  exact hR _ (by decide) _ _ _ rfl rfl
set_option maxRecDepth 20000 in
theorem m_out_U {n vs : Nat} {wo un h : Int64} {bo : Nat → Int32} {ta tr ro ot : Nat → Int64} {Bm : Nat → Nat → Nat → Int32} {bk : Nat → Nat → Int32} {i v : Int32} (hn : n ≤ 4) (hfi : ¬ (0 ≤ i ∧ i < Int32.ofNat n)) : KX3_out l D ca ad [.ref 0, .int i, .int v] (MW (Int32.ofNat n) (Int32.ofNat vs) wo un h bo ta tr ro ot Bm bk) (some (.int (-101))) (MW (Int32.ofNat n) (Int32.ofNat vs) wo un h bo ta tr ro ot Bm bk) := by
  refine PX3_out (Nat.le_of_ble_eq_true rfl) ?_
  intro G hT hC hR
  refine mB hT 2 rfl ?_
  refine hC.1 _ 0 [_] _ _ _ _ _ (m_isMaking_f hn hfi) rfl rfl (Nat.le_of_ble_eq_true rfl) rfl ?_
  refine mB hT 2 rfl ?_
  exact hR _ (by decide) _ _ _ rfl rfl
set_option maxRecDepth 20000 in
theorem m_out_O {n vs : Nat} {wo un h : Int64} {bo : Nat → Int32} {ta tr ro ot : Nat → Int64} {Bm : Nat → Nat → Nat → Int32} {bk : Nat → Nat → Int32} {i : Nat} (hi : i < n) (hn : n ≤ 4) {v : Int32} (hf : ¬ (1 ≤ v ∧ v ≤ 6)) : KX3_out l D ca ad [.ref 0, .int (Int32.ofNat i), .int v] (MW (Int32.ofNat n) (Int32.ofNat vs) wo un h bo ta tr ro ot Bm bk) (some (.int (-102))) (MW (Int32.ofNat n) (Int32.ofNat vs) wo un h bo ta tr ro ot Bm bk) := by
  refine PX3_out (Nat.le_of_ble_eq_true rfl) ?_
  intro G hT hC hR
  refine mB hT 2 rfl ?_
  refine hC.1 _ 0 [_] _ _ _ _ _ (m_isMaking_t hi hn) rfl rfl (Nat.le_of_ble_eq_true rfl) rfl ?_
  refine mB hT 4 rfl ?_
  refine hC.2 _ [_, _, _] _ _ _ _ (m_in_f hf) rfl (Nat.le_of_ble_eq_true rfl) rfl ?_
  refine mB hT 2 rfl ?_
  exact hR _ (by decide) _ _ _ rfl rfl
set_option maxRecDepth 20000 in
theorem m_rule_U {n vs : Nat} {wo un h : Int64} {bo : Nat → Int32} {ta tr ro ot : Nat → Int64} {Bm : Nat → Nat → Nat → Int32} {bk : Nat → Nat → Int32} {i v : Int32} (hn : n ≤ 4) (hfi : ¬ (0 ≤ i ∧ i < Int32.ofNat n)) : KX3_rule l D ca ad [.ref 0, .int i, .int v] (MW (Int32.ofNat n) (Int32.ofNat vs) wo un h bo ta tr ro ot Bm bk) (some (.int (-101))) (MW (Int32.ofNat n) (Int32.ofNat vs) wo un h bo ta tr ro ot Bm bk) := by
  refine PX3_rule (Nat.le_of_ble_eq_true rfl) ?_
  intro G hT hC hR
  refine mB hT 2 rfl ?_
  refine hC.1 _ 0 [_] _ _ _ _ _ (m_isMaking_f hn hfi) rfl rfl (Nat.le_of_ble_eq_true rfl) rfl ?_
  refine mB hT 2 rfl ?_
  exact hR _ (by decide) _ _ _ rfl rfl
set_option maxRecDepth 20000 in
theorem m_rule_O {n vs : Nat} {wo un h : Int64} {bo : Nat → Int32} {ta tr ro ot : Nat → Int64} {Bm : Nat → Nat → Nat → Int32} {bk : Nat → Nat → Int32} {i : Nat} (hi : i < n) (hn : n ≤ 4) {v : Int32} (hf : ¬ (0 ≤ v ∧ v ≤ 2)) : KX3_rule l D ca ad [.ref 0, .int (Int32.ofNat i), .int v] (MW (Int32.ofNat n) (Int32.ofNat vs) wo un h bo ta tr ro ot Bm bk) (some (.int (-102))) (MW (Int32.ofNat n) (Int32.ofNat vs) wo un h bo ta tr ro ot Bm bk) := by
  refine PX3_rule (Nat.le_of_ble_eq_true rfl) ?_
  intro G hT hC hR
  refine mB hT 2 rfl ?_
  refine hC.1 _ 0 [_] _ _ _ _ _ (m_isMaking_t hi hn) rfl rfl (Nat.le_of_ble_eq_true rfl) rfl ?_
  refine mB hT 4 rfl ?_
  refine hC.2 _ [_, _, _] _ _ _ _ (m_in_f hf) rfl (Nat.le_of_ble_eq_true rfl) rfl ?_
  refine mB hT 2 rfl ?_
  exact hR _ (by decide) _ _ _ rfl rfl
set_option maxRecDepth 20000 in
theorem m_needs_U1 {n vs : Nat} {wo un h : Int64} {bo : Nat → Int32} {ta tr ro ot : Nat → Int64} {Bm : Nat → Nat → Nat → Int32} {bk : Nat → Nat → Int32} {i j v : Int32} (hn : n ≤ 4) (hfi : ¬ (0 ≤ i ∧ i < Int32.ofNat n)) : KX3_needs l D ca ad [.ref 0, .int i, .int j, .int v] (MW (Int32.ofNat n) (Int32.ofNat vs) wo un h bo ta tr ro ot Bm bk) (some (.int (-101))) (MW (Int32.ofNat n) (Int32.ofNat vs) wo un h bo ta tr ro ot Bm bk) := by
  refine PX3_needs (Nat.le_of_ble_eq_true rfl) ?_
  intro G hT hC hR
  refine mB hT 2 rfl ?_
  refine hC.1 _ 0 [_] _ _ _ _ _ (m_isMaking_f hn hfi) rfl rfl (Nat.le_of_ble_eq_true rfl) rfl ?_
  refine mB hT 2 rfl ?_
  exact hR _ (by decide) _ _ _ rfl rfl
set_option maxRecDepth 20000 in
theorem m_needs_U2 {n vs : Nat} {wo un h : Int64} {bo : Nat → Int32} {ta tr ro ot : Nat → Int64} {Bm : Nat → Nat → Nat → Int32} {bk : Nat → Nat → Int32} {i : Nat} (hi : i < n) (hn : n ≤ 4) {j v : Int32} (hfj : ¬ (0 ≤ j ∧ j < Int32.ofNat n)) : KX3_needs l D ca ad [.ref 0, .int (Int32.ofNat i), .int j, .int v] (MW (Int32.ofNat n) (Int32.ofNat vs) wo un h bo ta tr ro ot Bm bk) (some (.int (-101))) (MW (Int32.ofNat n) (Int32.ofNat vs) wo un h bo ta tr ro ot Bm bk) := by
  refine PX3_needs (Nat.le_of_ble_eq_true rfl) ?_
  intro G hT hC hR
  refine mB hT 2 rfl ?_
  refine hC.1 _ 0 [_] _ _ _ _ _ (m_isMaking_t hi hn) rfl rfl (Nat.le_of_ble_eq_true rfl) rfl ?_
  refine mB hT 3 rfl ?_
  refine hC.2.1 _ 0 [_] _ _ _ _ _ (m_isMaking_f hn hfj) rfl rfl (Nat.le_of_ble_eq_true rfl) rfl ?_
  refine mB hT 2 rfl ?_
  exact hR _ (by decide) _ _ _ rfl rfl
set_option maxRecDepth 20000 in
theorem m_needs_O {n vs : Nat} {wo un h : Int64} {bo : Nat → Int32} {ta tr ro ot : Nat → Int64} {Bm : Nat → Nat → Nat → Int32} {bk : Nat → Nat → Int32} {i : Nat} (hi : i < n) (hn : n ≤ 4) {j : Nat} (hj : j < n) {v : Int32} (hf : ¬ (0 ≤ v ∧ v ≤ 6)) : KX3_needs l D ca ad [.ref 0, .int (Int32.ofNat i), .int (Int32.ofNat j), .int v] (MW (Int32.ofNat n) (Int32.ofNat vs) wo un h bo ta tr ro ot Bm bk) (some (.int (-102))) (MW (Int32.ofNat n) (Int32.ofNat vs) wo un h bo ta tr ro ot Bm bk) := by
  refine PX3_needs (Nat.le_of_ble_eq_true rfl) ?_
  intro G hT hC hR
  refine mB hT 2 rfl ?_
  refine hC.1 _ 0 [_] _ _ _ _ _ (m_isMaking_t hi hn) rfl rfl (Nat.le_of_ble_eq_true rfl) rfl ?_
  refine mB hT 3 rfl ?_
  refine hC.2.1 _ 0 [_] _ _ _ _ _ (m_isMaking_t hj hn) rfl rfl (Nat.le_of_ble_eq_true rfl) rfl ?_
  refine mB hT 4 rfl ?_
  refine hC.2.2 _ [_, _, _] _ _ _ _ (m_in_f hf) rfl (Nat.le_of_ble_eq_true rfl) rfl ?_
  refine mB hT 2 rfl ?_
  exact hR _ (by decide) _ _ _ rfl rfl
set_option maxRecDepth 20000 in
theorem m_by_U1 {n vs : Nat} {wo un h : Int64} {bo : Nat → Int32} {ta tr ro ot : Nat → Int64} {Bm : Nat → Nat → Nat → Int32} {bk : Nat → Nat → Int32} {i j v : Int32} (hn : n ≤ 4) (hfi : ¬ (0 ≤ i ∧ i < Int32.ofNat n)) : KX3_by l D ca ad [.ref 0, .int i, .int j, .int v] (MW (Int32.ofNat n) (Int32.ofNat vs) wo un h bo ta tr ro ot Bm bk) (some (.int (-101))) (MW (Int32.ofNat n) (Int32.ofNat vs) wo un h bo ta tr ro ot Bm bk) := by
  refine PX3_by (Nat.le_of_ble_eq_true rfl) ?_
  intro G hT hC hR
  refine mB hT 2 rfl ?_
  refine hC.1 _ 0 [_] _ _ _ _ _ (m_isMaking_f hn hfi) rfl rfl (Nat.le_of_ble_eq_true rfl) rfl ?_
  refine mB hT 2 rfl ?_
  exact hR _ (by decide) _ _ _ rfl rfl
set_option maxRecDepth 20000 in
theorem m_by_U2 {n vs : Nat} {wo un h : Int64} {bo : Nat → Int32} {ta tr ro ot : Nat → Int64} {Bm : Nat → Nat → Nat → Int32} {bk : Nat → Nat → Int32} {i : Nat} (hi : i < n) (hn : n ≤ 4) {j v : Int32} (hfj : ¬ (0 ≤ j ∧ j < Int32.ofNat n)) : KX3_by l D ca ad [.ref 0, .int (Int32.ofNat i), .int j, .int v] (MW (Int32.ofNat n) (Int32.ofNat vs) wo un h bo ta tr ro ot Bm bk) (some (.int (-101))) (MW (Int32.ofNat n) (Int32.ofNat vs) wo un h bo ta tr ro ot Bm bk) := by
  refine PX3_by (Nat.le_of_ble_eq_true rfl) ?_
  intro G hT hC hR
  refine mB hT 2 rfl ?_
  refine hC.1 _ 0 [_] _ _ _ _ _ (m_isMaking_t hi hn) rfl rfl (Nat.le_of_ble_eq_true rfl) rfl ?_
  refine mB hT 3 rfl ?_
  refine hC.2.1 _ 0 [_] _ _ _ _ _ (m_isMaking_f hn hfj) rfl rfl (Nat.le_of_ble_eq_true rfl) rfl ?_
  refine mB hT 2 rfl ?_
  exact hR _ (by decide) _ _ _ rfl rfl
set_option maxRecDepth 20000 in
theorem m_by_O {n vs : Nat} {wo un h : Int64} {bo : Nat → Int32} {ta tr ro ot : Nat → Int64} {Bm : Nat → Nat → Nat → Int32} {bk : Nat → Nat → Int32} {i : Nat} (hi : i < n) (hn : n ≤ 4) {j : Nat} (hj : j < n) {v : Int32} (hf : ¬ (0 ≤ v ∧ v ≤ 6)) : KX3_by l D ca ad [.ref 0, .int (Int32.ofNat i), .int (Int32.ofNat j), .int v] (MW (Int32.ofNat n) (Int32.ofNat vs) wo un h bo ta tr ro ot Bm bk) (some (.int (-102))) (MW (Int32.ofNat n) (Int32.ofNat vs) wo un h bo ta tr ro ot Bm bk) := by
  refine PX3_by (Nat.le_of_ble_eq_true rfl) ?_
  intro G hT hC hR
  refine mB hT 2 rfl ?_
  refine hC.1 _ 0 [_] _ _ _ _ _ (m_isMaking_t hi hn) rfl rfl (Nat.le_of_ble_eq_true rfl) rfl ?_
  refine mB hT 3 rfl ?_
  refine hC.2.1 _ 0 [_] _ _ _ _ _ (m_isMaking_t hj hn) rfl rfl (Nat.le_of_ble_eq_true rfl) rfl ?_
  refine mB hT 4 rfl ?_
  refine hC.2.2 _ [_, _, _] _ _ _ _ (m_in_f hf) rfl (Nat.le_of_ble_eq_true rfl) rfl ?_
  refine mB hT 2 rfl ?_
  exact hR _ (by decide) _ _ _ rfl rfl
set_option maxRecDepth 20000 in
theorem m_by_S {n vs : Nat} {wo un h : Int64} {bo : Nat → Int32} {ta tr ro ot : Nat → Int64} {Bm : Nat → Nat → Nat → Int32} {bk : Nat → Nat → Int32} {i : Nat} (hi : i < n) (hn : n ≤ 4) {v : Int32} (h1 : 0 ≤ v) (h2 : v ≤ 6) : KX3_by l D ca ad [.ref 0, .int (Int32.ofNat i), .int (Int32.ofNat i), .int v] (MW (Int32.ofNat n) (Int32.ofNat vs) wo un h bo ta tr ro ot Bm bk) (some (.int (-102))) (MW (Int32.ofNat n) (Int32.ofNat vs) wo un h bo ta tr ro ot Bm bk) := by
  refine PX3_by (Nat.le_of_ble_eq_true rfl) ?_
  intro G hT hC hR
  refine mB hT 2 rfl ?_
  refine hC.1 _ 0 [_] _ _ _ _ _ (m_isMaking_t hi hn) rfl rfl (Nat.le_of_ble_eq_true rfl) rfl ?_
  refine mB hT 3 rfl ?_
  refine hC.2.1 _ 0 [_] _ _ _ _ _ (m_isMaking_t hi hn) rfl rfl (Nat.le_of_ble_eq_true rfl) rfl ?_
  refine mB hT 4 rfl ?_
  refine hC.2.2 _ [_, _, _] _ _ _ _ (m_in_t h1 h2) rfl (Nat.le_of_ble_eq_true rfl) rfl ?_
  refine mB hT 4 rfl ?_
  refine mIf (fun _ => ?_) (fun hn => absurd rfl hn)
  refine mB hT 1 rfl ?_
  exact hR _ (by decide) _ _ _ rfl rfl
set_option maxRecDepth 20000 in
theorem m_emits_U1 {n vs : Nat} {wo un h : Int64} {bo : Nat → Int32} {ta tr ro ot : Nat → Int64} {Bm : Nat → Nat → Nat → Int32} {bk : Nat → Nat → Int32} {i k a t g : Int32} (hn : n ≤ 4) (hfi : ¬ (0 ≤ i ∧ i < Int32.ofNat n)) : KX3_emits l D ca ad [.ref 0, .int i, .int k, .int a, .int t, .int g] (MW (Int32.ofNat n) (Int32.ofNat vs) wo un h bo ta tr ro ot Bm bk) (some (.int (-101))) (MW (Int32.ofNat n) (Int32.ofNat vs) wo un h bo ta tr ro ot Bm bk) := by
  refine PX3_emits (Nat.le_of_ble_eq_true rfl) ?_
  intro G hT hC hR
  refine mB hT 2 rfl ?_
  refine hC.1 _ 0 [_] _ _ _ _ _ (m_isMaking_f hn hfi) rfl rfl (Nat.le_of_ble_eq_true rfl) rfl ?_
  refine mB hT 2 rfl ?_
  exact hR _ (by decide) _ _ _ rfl rfl
set_option maxRecDepth 20000 in
theorem m_emits_U2 {n vs : Nat} {wo un h : Int64} {bo : Nat → Int32} {ta tr ro ot : Nat → Int64} {Bm : Nat → Nat → Nat → Int32} {bk : Nat → Nat → Int32} {i : Nat} (hi : i < n) (hn : n ≤ 4) {k a t g : Int32} (hfk : ¬ (0 ≤ k ∧ k < 3)) : KX3_emits l D ca ad [.ref 0, .int (Int32.ofNat i), .int k, .int a, .int t, .int g] (MW (Int32.ofNat n) (Int32.ofNat vs) wo un h bo ta tr ro ot Bm bk) (some (.int (-101))) (MW (Int32.ofNat n) (Int32.ofNat vs) wo un h bo ta tr ro ot Bm bk) := by
  refine PX3_emits (Nat.le_of_ble_eq_true rfl) ?_
  intro G hT hC hR
  refine mB hT 2 rfl ?_
  refine hC.1 _ 0 [_] _ _ _ _ _ (m_isMaking_t hi hn) rfl rfl (Nat.le_of_ble_eq_true rfl) rfl ?_
  refine mB hT 2 rfl ?_
  refine hC.2 _ [_] _ _ _ _ (m_isStuff_f hfk) rfl (Nat.le_of_ble_eq_true rfl) rfl ?_
  refine mB hT 2 rfl ?_
  exact hR _ (by decide) _ _ _ rfl rfl
set_option maxRecDepth 20000 in
theorem m_emits_O1 {n vs : Nat} {wo un h : Int64} {bo : Nat → Int32} {ta tr ro ot : Nat → Int64} {Bm : Nat → Nat → Nat → Int32} {bk : Nat → Nat → Int32} {i : Nat} (hi : i < n) (hn : n ≤ 4) {k : Nat} (hk : k < 3) {a t g : Int32} (h1 : a < 0) : KX3_emits l D ca ad [.ref 0, .int (Int32.ofNat i), .int (Int32.ofNat k), .int a, .int t, .int g] (MW (Int32.ofNat n) (Int32.ofNat vs) wo un h bo ta tr ro ot Bm bk) (some (.int (-102))) (MW (Int32.ofNat n) (Int32.ofNat vs) wo un h bo ta tr ro ot Bm bk) := by
  refine PX3_emits (Nat.le_of_ble_eq_true rfl) ?_
  intro G hT hC hR
  refine mB hT 2 rfl ?_
  refine hC.1 _ 0 [_] _ _ _ _ _ (m_isMaking_t hi hn) rfl rfl (Nat.le_of_ble_eq_true rfl) rfl ?_
  refine mB hT 2 rfl ?_
  refine hC.2 _ [_] _ _ _ _ (m_isStuff_t hk) rfl (Nat.le_of_ble_eq_true rfl) rfl ?_
  refine mB hT 3 rfl ?_
  refine mIf (fun _ => ?_) (fun hn => absurd h1 hn)
  refine mB hT 1 rfl ?_
  exact hR _ (by decide) _ _ _ rfl rfl
set_option maxRecDepth 20000 in
theorem m_emits_O2 {n vs : Nat} {wo un h : Int64} {bo : Nat → Int32} {ta tr ro ot : Nat → Int64} {Bm : Nat → Nat → Nat → Int32} {bk : Nat → Nat → Int32} {i : Nat} (hi : i < n) (hn : n ≤ 4) {k : Nat} (hk : k < 3) {a t g : Int32} (h1 : ¬ a < 0) (h2 : t < a) : KX3_emits l D ca ad [.ref 0, .int (Int32.ofNat i), .int (Int32.ofNat k), .int a, .int t, .int g] (MW (Int32.ofNat n) (Int32.ofNat vs) wo un h bo ta tr ro ot Bm bk) (some (.int (-102))) (MW (Int32.ofNat n) (Int32.ofNat vs) wo un h bo ta tr ro ot Bm bk) := by
  refine PX3_emits (Nat.le_of_ble_eq_true rfl) ?_
  intro G hT hC hR
  refine mB hT 2 rfl ?_
  refine hC.1 _ 0 [_] _ _ _ _ _ (m_isMaking_t hi hn) rfl rfl (Nat.le_of_ble_eq_true rfl) rfl ?_
  refine mB hT 2 rfl ?_
  refine hC.2 _ [_] _ _ _ _ (m_isStuff_t hk) rfl (Nat.le_of_ble_eq_true rfl) rfl ?_
  refine mB hT 3 rfl ?_
  refine mIf (fun hp => absurd hp h1) (fun _ => ?_)
  refine mB hT 3 rfl ?_
  refine mIf (fun _ => ?_) (fun hn => absurd h2 hn)
  refine mB hT 1 rfl ?_
  exact hR _ (by decide) _ _ _ rfl rfl
set_option maxRecDepth 20000 in
theorem m_emits_O3 {n vs : Nat} {wo un h : Int64} {bo : Nat → Int32} {ta tr ro ot : Nat → Int64} {Bm : Nat → Nat → Nat → Int32} {bk : Nat → Nat → Int32} {i : Nat} (hi : i < n) (hn : n ≤ 4) {k : Nat} (hk : k < 3) {a t g : Int32} (h1 : ¬ a < 0) (h2 : ¬ t < a) (h3 : g < t) : KX3_emits l D ca ad [.ref 0, .int (Int32.ofNat i), .int (Int32.ofNat k), .int a, .int t, .int g] (MW (Int32.ofNat n) (Int32.ofNat vs) wo un h bo ta tr ro ot Bm bk) (some (.int (-102))) (MW (Int32.ofNat n) (Int32.ofNat vs) wo un h bo ta tr ro ot Bm bk) := by
  refine PX3_emits (Nat.le_of_ble_eq_true rfl) ?_
  intro G hT hC hR
  refine mB hT 2 rfl ?_
  refine hC.1 _ 0 [_] _ _ _ _ _ (m_isMaking_t hi hn) rfl rfl (Nat.le_of_ble_eq_true rfl) rfl ?_
  refine mB hT 2 rfl ?_
  refine hC.2 _ [_] _ _ _ _ (m_isStuff_t hk) rfl (Nat.le_of_ble_eq_true rfl) rfl ?_
  refine mB hT 3 rfl ?_
  refine mIf (fun hp => absurd hp h1) (fun _ => ?_)
  refine mB hT 3 rfl ?_
  refine mIf (fun hp => absurd hp h2) (fun _ => ?_)
  refine mB hT 3 rfl ?_
  refine mIf (fun _ => ?_) (fun hn => absurd h3 hn)
  refine mB hT 1 rfl ?_
  exact hR _ (by decide) _ _ _ rfl rfl
set_option maxRecDepth 20000 in
theorem m_emits_O4 {n vs : Nat} {wo un h : Int64} {bo : Nat → Int32} {ta tr ro ot : Nat → Int64} {Bm : Nat → Nat → Nat → Int32} {bk : Nat → Nat → Int32} {i : Nat} (hi : i < n) (hn : n ≤ 4) {k : Nat} (hk : k < 3) {a t g : Int32} (h1 : ¬ a < 0) (h2 : ¬ t < a) (h3 : ¬ g < t) (h4 : ¬ g ≤ 100) : KX3_emits l D ca ad [.ref 0, .int (Int32.ofNat i), .int (Int32.ofNat k), .int a, .int t, .int g] (MW (Int32.ofNat n) (Int32.ofNat vs) wo un h bo ta tr ro ot Bm bk) (some (.int (-102))) (MW (Int32.ofNat n) (Int32.ofNat vs) wo un h bo ta tr ro ot Bm bk) := by
  refine PX3_emits (Nat.le_of_ble_eq_true rfl) ?_
  intro G hT hC hR
  refine mB hT 2 rfl ?_
  refine hC.1 _ 0 [_] _ _ _ _ _ (m_isMaking_t hi hn) rfl rfl (Nat.le_of_ble_eq_true rfl) rfl ?_
  refine mB hT 2 rfl ?_
  refine hC.2 _ [_] _ _ _ _ (m_isStuff_t hk) rfl (Nat.le_of_ble_eq_true rfl) rfl ?_
  refine mB hT 3 rfl ?_
  refine mIf (fun hp => absurd hp h1) (fun _ => ?_)
  refine mB hT 3 rfl ?_
  refine mIf (fun hp => absurd hp h2) (fun _ => ?_)
  refine mB hT 3 rfl ?_
  refine mIf (fun hp => absurd hp h3) (fun _ => ?_)
  refine mB hT 3 rfl ?_
  refine mIf (fun hp => absurd hp h4) (fun _ => ?_)
  refine mB hT 1 rfl ?_
  exact hR _ (by decide) _ _ _ rfl rfl
set_option maxRecDepth 20000 in
theorem m_good_U {n vs : Nat} {wo un h : Int64} {bo : Nat → Int32} {ta tr ro ot : Nat → Int64} {Bm : Nat → Nat → Nat → Int32} {bk : Nat → Nat → Int32} {j a p : Int32} (hn : n ≤ 4) (hfj : ¬ (0 ≤ j ∧ j < Int32.ofNat n)) : KX3_good l D ca ad [.ref 0, .int j, .int a, .int p] (MW (Int32.ofNat n) (Int32.ofNat vs) wo un h bo ta tr ro ot Bm bk) (some (.int (-101))) (MW (Int32.ofNat n) (Int32.ofNat vs) wo un h bo ta tr ro ot Bm bk) := by
  refine PX3_good (Nat.le_of_ble_eq_true rfl) ?_
  intro G hT hC hR
  refine mB hT 2 rfl ?_
  refine hC.1 _ 0 [_] _ _ _ _ _ (m_isMaking_f hn hfj) rfl rfl (Nat.le_of_ble_eq_true rfl) rfl ?_
  refine mB hT 2 rfl ?_
  exact hR _ (by decide) _ _ _ rfl rfl
set_option maxRecDepth 20000 in
theorem m_good_O1 {n vs : Nat} {wo un h : Int64} {bo : Nat → Int32} {ta tr ro ot : Nat → Int64} {Bm : Nat → Nat → Nat → Int32} {bk : Nat → Nat → Int32} {j : Nat} (hj : j < n) (hn : n ≤ 4) {a p : Int32} (hf : ¬ (1 ≤ a ∧ a ≤ 5)) : KX3_good l D ca ad [.ref 0, .int (Int32.ofNat j), .int a, .int p] (MW (Int32.ofNat n) (Int32.ofNat vs) wo un h bo ta tr ro ot Bm bk) (some (.int (-102))) (MW (Int32.ofNat n) (Int32.ofNat vs) wo un h bo ta tr ro ot Bm bk) := by
  refine PX3_good (Nat.le_of_ble_eq_true rfl) ?_
  intro G hT hC hR
  refine mB hT 2 rfl ?_
  refine hC.1 _ 0 [_] _ _ _ _ _ (m_isMaking_t hj hn) rfl rfl (Nat.le_of_ble_eq_true rfl) rfl ?_
  refine mB hT 4 rfl ?_
  refine hC.2.1 _ [_, _, _] _ _ _ _ (m_in_f hf) rfl (Nat.le_of_ble_eq_true rfl) rfl ?_
  refine mB hT 2 rfl ?_
  exact hR _ (by decide) _ _ _ rfl rfl
set_option maxRecDepth 20000 in
theorem m_good_O2 {n vs : Nat} {wo un h : Int64} {bo : Nat → Int32} {ta tr ro ot : Nat → Int64} {Bm : Nat → Nat → Nat → Int32} {bk : Nat → Nat → Int32} {j : Nat} (hj : j < n) (hn : n ≤ 4) {a p : Int32} (h1 : 1 ≤ a) (h2 : a ≤ 5) (hf : ¬ (1 ≤ p ∧ p ≤ 5)) : KX3_good l D ca ad [.ref 0, .int (Int32.ofNat j), .int a, .int p] (MW (Int32.ofNat n) (Int32.ofNat vs) wo un h bo ta tr ro ot Bm bk) (some (.int (-102))) (MW (Int32.ofNat n) (Int32.ofNat vs) wo un h bo ta tr ro ot Bm bk) := by
  refine PX3_good (Nat.le_of_ble_eq_true rfl) ?_
  intro G hT hC hR
  refine mB hT 2 rfl ?_
  refine hC.1 _ 0 [_] _ _ _ _ _ (m_isMaking_t hj hn) rfl rfl (Nat.le_of_ble_eq_true rfl) rfl ?_
  refine mB hT 4 rfl ?_
  refine hC.2.1 _ [_, _, _] _ _ _ _ (m_in_t h1 h2) rfl (Nat.le_of_ble_eq_true rfl) rfl ?_
  refine mB hT 4 rfl ?_
  refine hC.2.2 _ [_, _, _] _ _ _ _ (m_in_f hf) rfl (Nat.le_of_ble_eq_true rfl) rfl ?_
  refine mB hT 2 rfl ?_
  exact hR _ (by decide) _ _ _ rfl rfl
set_option maxRecDepth 20000 in
theorem m_told_U {n vs : Nat} {wo un h : Int64} {bo : Nat → Int32} {ta tr ro ot : Nat → Int64} {Bm : Nat → Nat → Nat → Int32} {bk : Nat → Nat → Int32} {i q : Int32} (hn : n ≤ 4) (hfi : ¬ (0 ≤ i ∧ i < Int32.ofNat n)) : KX3_told l D ca ad [.ref 0, .int i, .int q] (MW (Int32.ofNat n) (Int32.ofNat vs) wo un h bo ta tr ro ot Bm bk) (some (.int (-101))) (MW (Int32.ofNat n) (Int32.ofNat vs) wo un h bo ta tr ro ot Bm bk) := by
  refine PX3_told (Nat.le_of_ble_eq_true rfl) ?_
  intro G hT hC hR
  refine mB hT 2 rfl ?_
  refine hC.1 _ 0 [_] _ _ _ _ _ (m_isMaking_f hn hfi) rfl rfl (Nat.le_of_ble_eq_true rfl) rfl ?_
  refine mB hT 2 rfl ?_
  exact hR _ (by decide) _ _ _ rfl rfl
set_option maxRecDepth 20000 in
theorem m_told_O {n vs : Nat} {wo un h : Int64} {bo : Nat → Int32} {ta tr ro ot : Nat → Int64} {Bm : Nat → Nat → Nat → Int32} {bk : Nat → Nat → Int32} {i : Nat} (hi : i < n) (hn : n ≤ 4) {q : Int32} (hf : ¬ (0 ≤ q ∧ q ≤ 22)) : KX3_told l D ca ad [.ref 0, .int (Int32.ofNat i), .int q] (MW (Int32.ofNat n) (Int32.ofNat vs) wo un h bo ta tr ro ot Bm bk) (some (.int (-102))) (MW (Int32.ofNat n) (Int32.ofNat vs) wo un h bo ta tr ro ot Bm bk) := by
  refine PX3_told (Nat.le_of_ble_eq_true rfl) ?_
  intro G hT hC hR
  refine mB hT 2 rfl ?_
  refine hC.1 _ 0 [_] _ _ _ _ _ (m_isMaking_t hi hn) rfl rfl (Nat.le_of_ble_eq_true rfl) rfl ?_
  refine mB hT 4 rfl ?_
  refine hC.2.1 _ [_, _, _] _ _ _ _ (m_in_f hf) rfl (Nat.le_of_ble_eq_true rfl) rfl ?_
  refine mB hT 2 rfl ?_
  exact hR _ (by decide) _ _ _ rfl rfl
set_option maxRecDepth 20000 in
theorem m_entry_U1 {n vs : Nat} {wo un h : Int64} {bo : Nat → Int32} {ta tr ro ot : Nat → Int64} {Bm : Nat → Nat → Nat → Int32} {bk : Nat → Nat → Int32} {i j : Int32} (hn : n ≤ 4) (hfj : ¬ (0 ≤ j ∧ j < Int32.ofNat n)) : KX3_entry l D ca ad [.ref 0, .int j, .int i] (MW (Int32.ofNat n) (Int32.ofNat vs) wo un h bo ta tr ro ot Bm bk) (some (.int (-1000000))) (MW (Int32.ofNat n) (Int32.ofNat vs) wo un h bo ta tr ro ot Bm bk) := by
  refine PX3_entry (Nat.le_of_ble_eq_true rfl) ?_
  intro G hT hC hR
  refine mB hT 2 rfl ?_
  refine hC.1 _ 0 [_] _ _ _ _ _ (m_isMaking_f hn hfj) rfl rfl (Nat.le_of_ble_eq_true rfl) rfl ?_
  refine mB hT 2 rfl ?_
  exact hR _ (by decide) _ _ _ rfl rfl
set_option maxRecDepth 20000 in
theorem m_entry_U2 {n vs : Nat} {wo un h : Int64} {bo : Nat → Int32} {ta tr ro ot : Nat → Int64} {Bm : Nat → Nat → Nat → Int32} {bk : Nat → Nat → Int32} {j : Nat} (hj : j < n) (hn : n ≤ 4) {i : Int32} (hfi : ¬ (0 ≤ i ∧ i < Int32.ofNat n)) : KX3_entry l D ca ad [.ref 0, .int (Int32.ofNat j), .int i] (MW (Int32.ofNat n) (Int32.ofNat vs) wo un h bo ta tr ro ot Bm bk) (some (.int (-1000000))) (MW (Int32.ofNat n) (Int32.ofNat vs) wo un h bo ta tr ro ot Bm bk) := by
  refine PX3_entry (Nat.le_of_ble_eq_true rfl) ?_
  intro G hT hC hR
  refine mB hT 2 rfl ?_
  refine hC.1 _ 0 [_] _ _ _ _ _ (m_isMaking_t hj hn) rfl rfl (Nat.le_of_ble_eq_true rfl) rfl ?_
  refine mB hT 3 rfl ?_
  refine hC.2.1 _ 0 [_] _ _ _ _ _ (m_isMaking_f hn hfi) rfl rfl (Nat.le_of_ble_eq_true rfl) rfl ?_
  refine mB hT 2 rfl ?_
  exact hR _ (by decide) _ _ _ rfl rfl
set_option maxRecDepth 20000 in
theorem m_put_U1 {n vs : Nat} {wo un h : Int64} {bo : Nat → Int32} {ta tr ro ot : Nat → Int64} {Bm : Nat → Nat → Nat → Int32} {bk : Nat → Nat → Int32} {b j v : Int32} (hfb : ¬ (0 ≤ b ∧ b < 4)) : KX3_put l D ca ad [.ref 0, .int b, .int j, .int v] (MW (Int32.ofNat n) (Int32.ofNat vs) wo un h bo ta tr ro ot Bm bk) (some (.int (-101))) (MW (Int32.ofNat n) (Int32.ofNat vs) wo un h bo ta tr ro ot Bm bk) := by
  refine PX3_put (Nat.le_of_ble_eq_true rfl) ?_
  intro G hT hC hR
  refine mB hT 1 rfl ?_
  refine hC.1 _ [_] _ _ _ _ (m_isBasket_f hfb) rfl (Nat.le_of_ble_eq_true rfl) rfl ?_
  refine mB hT 2 rfl ?_
  exact hR _ (by decide) _ _ _ rfl rfl
set_option maxRecDepth 20000 in
theorem m_put_U2 {n vs : Nat} {wo un h : Int64} {bo : Nat → Int32} {ta tr ro ot : Nat → Int64} {Bm : Nat → Nat → Nat → Int32} {bk : Nat → Nat → Int32} {b : Nat} (hb : b < 4) {j v : Int32} (hn : n ≤ 4) (hfj : ¬ (0 ≤ j ∧ j < Int32.ofNat n)) : KX3_put l D ca ad [.ref 0, .int (Int32.ofNat b), .int j, .int v] (MW (Int32.ofNat n) (Int32.ofNat vs) wo un h bo ta tr ro ot Bm bk) (some (.int (-101))) (MW (Int32.ofNat n) (Int32.ofNat vs) wo un h bo ta tr ro ot Bm bk) := by
  refine PX3_put (Nat.le_of_ble_eq_true rfl) ?_
  intro G hT hC hR
  refine mB hT 1 rfl ?_
  refine hC.1 _ [_] _ _ _ _ (m_isBasket_t hb) rfl (Nat.le_of_ble_eq_true rfl) rfl ?_
  refine mB hT 3 rfl ?_
  refine hC.2.1 _ 0 [_] _ _ _ _ _ (m_isMaking_f hn hfj) rfl rfl (Nat.le_of_ble_eq_true rfl) rfl ?_
  refine mB hT 2 rfl ?_
  exact hR _ (by decide) _ _ _ rfl rfl
set_option maxRecDepth 20000 in
theorem m_put_O {n vs : Nat} {wo un h : Int64} {bo : Nat → Int32} {ta tr ro ot : Nat → Int64} {Bm : Nat → Nat → Nat → Int32} {bk : Nat → Nat → Int32} {b : Nat} (hb : b < 4) {j : Nat} (hj : j < n) (hn : n ≤ 4) {v : Int32} (hf : ¬ (0 ≤ v ∧ v ≤ 20)) : KX3_put l D ca ad [.ref 0, .int (Int32.ofNat b), .int (Int32.ofNat j), .int v] (MW (Int32.ofNat n) (Int32.ofNat vs) wo un h bo ta tr ro ot Bm bk) (some (.int (-102))) (MW (Int32.ofNat n) (Int32.ofNat vs) wo un h bo ta tr ro ot Bm bk) := by
  refine PX3_put (Nat.le_of_ble_eq_true rfl) ?_
  intro G hT hC hR
  refine mB hT 1 rfl ?_
  refine hC.1 _ [_] _ _ _ _ (m_isBasket_t hb) rfl (Nat.le_of_ble_eq_true rfl) rfl ?_
  refine mB hT 3 rfl ?_
  refine hC.2.1 _ 0 [_] _ _ _ _ _ (m_isMaking_t hj hn) rfl rfl (Nat.le_of_ble_eq_true rfl) rfl ?_
  refine mB hT 4 rfl ?_
  refine hC.2.2 _ [_, _, _] _ _ _ _ (m_in_f hf) rfl (Nat.le_of_ble_eq_true rfl) rfl ?_
  refine mB hT 2 rfl ?_
  exact hR _ (by decide) _ _ _ rfl rfl
set_option maxRecDepth 20000 in
theorem m_runs_U1 {n vs : Nat} {wo un h : Int64} {bo : Nat → Int32} {ta tr ro ot : Nat → Int64} {Bm : Nat → Nat → Nat → Int32} {bk : Nat → Nat → Int32} {b i : Int32} (hfb : ¬ (0 ≤ b ∧ b < 4)) : KX3_runs l D ca ad [.ref 0, .int b, .int i] (MW (Int32.ofNat n) (Int32.ofNat vs) wo un h bo ta tr ro ot Bm bk) (some (.long (-9000000000000000001))) (MW (Int32.ofNat n) (Int32.ofNat vs) wo un h bo ta tr ro ot Bm bk) := by
  refine PX3_runs (Nat.le_of_ble_eq_true rfl) ?_
  intro G hT hC hR
  refine mB hT 1 rfl ?_
  refine hC.1 _ [_] _ _ _ _ (m_isBasket_f hfb) rfl (Nat.le_of_ble_eq_true rfl) rfl ?_
  refine mB hT 2 rfl ?_
  exact hR _ (by decide) _ _ _ rfl rfl
set_option maxRecDepth 20000 in
theorem m_runs_U2 {n vs : Nat} {wo un h : Int64} {bo : Nat → Int32} {ta tr ro ot : Nat → Int64} {Bm : Nat → Nat → Nat → Int32} {bk : Nat → Nat → Int32} {b : Nat} (hb : b < 4) {i : Int32} (hn : n ≤ 4) (hfi : ¬ (0 ≤ i ∧ i < Int32.ofNat n)) : KX3_runs l D ca ad [.ref 0, .int (Int32.ofNat b), .int i] (MW (Int32.ofNat n) (Int32.ofNat vs) wo un h bo ta tr ro ot Bm bk) (some (.long (-9000000000000000001))) (MW (Int32.ofNat n) (Int32.ofNat vs) wo un h bo ta tr ro ot Bm bk) := by
  refine PX3_runs (Nat.le_of_ble_eq_true rfl) ?_
  intro G hT hC hR
  refine mB hT 1 rfl ?_
  refine hC.1 _ [_] _ _ _ _ (m_isBasket_t hb) rfl (Nat.le_of_ble_eq_true rfl) rfl ?_
  refine mB hT 3 rfl ?_
  refine hC.2.1 _ 0 [_] _ _ _ _ _ (m_isMaking_f hn hfi) rfl rfl (Nat.le_of_ble_eq_true rfl) rfl ?_
  refine mB hT 2 rfl ?_
  exact hR _ (by decide) _ _ _ rfl rfl
set_option maxRecDepth 20000 in
theorem m_total_U1 {n vs : Nat} {wo un h : Int64} {bo : Nat → Int32} {ta tr ro ot : Nat → Int64} {Bm : Nat → Nat → Nat → Int32} {bk : Nat → Nat → Int32} {b k s p : Int32} (hfb : ¬ (0 ≤ b ∧ b < 4)) : KX3_total l D ca ad [.ref 0, .int b, .int k, .int s, .int p] (MW (Int32.ofNat n) (Int32.ofNat vs) wo un h bo ta tr ro ot Bm bk) (some (.long (-9000000000000000001))) (MW (Int32.ofNat n) (Int32.ofNat vs) wo un h bo ta tr ro ot Bm bk) := by
  refine PX3_total (Nat.le_of_ble_eq_true rfl) ?_
  intro G hT hC hR
  refine mB hT 1 rfl ?_
  refine hC.1 _ [_] _ _ _ _ (m_isBasket_f hfb) rfl (Nat.le_of_ble_eq_true rfl) rfl ?_
  refine mB hT 2 rfl ?_
  exact hR _ (by decide) _ _ _ rfl rfl
set_option maxRecDepth 20000 in
theorem m_total_U2 {n vs : Nat} {wo un h : Int64} {bo : Nat → Int32} {ta tr ro ot : Nat → Int64} {Bm : Nat → Nat → Nat → Int32} {bk : Nat → Nat → Int32} {b : Nat} (hb : b < 4) {k s p : Int32} (hfk : ¬ (0 ≤ k ∧ k < 3)) : KX3_total l D ca ad [.ref 0, .int (Int32.ofNat b), .int k, .int s, .int p] (MW (Int32.ofNat n) (Int32.ofNat vs) wo un h bo ta tr ro ot Bm bk) (some (.long (-9000000000000000001))) (MW (Int32.ofNat n) (Int32.ofNat vs) wo un h bo ta tr ro ot Bm bk) := by
  refine PX3_total (Nat.le_of_ble_eq_true rfl) ?_
  intro G hT hC hR
  refine mB hT 1 rfl ?_
  refine hC.1 _ [_] _ _ _ _ (m_isBasket_t hb) rfl (Nat.le_of_ble_eq_true rfl) rfl ?_
  refine mB hT 2 rfl ?_
  refine hC.2.1 _ [_] _ _ _ _ (m_isStuff_f hfk) rfl (Nat.le_of_ble_eq_true rfl) rfl ?_
  refine mB hT 2 rfl ?_
  exact hR _ (by decide) _ _ _ rfl rfl
set_option maxRecDepth 20000 in
theorem m_total_O1 {n vs : Nat} {wo un h : Int64} {bo : Nat → Int32} {ta tr ro ot : Nat → Int64} {Bm : Nat → Nat → Nat → Int32} {bk : Nat → Nat → Int32} {b : Nat} (hb : b < 4) {k : Nat} (hk : k < 3) {s p : Int32} (hf : ¬ (0 ≤ s ∧ s ≤ 2)) : KX3_total l D ca ad [.ref 0, .int (Int32.ofNat b), .int (Int32.ofNat k), .int s, .int p] (MW (Int32.ofNat n) (Int32.ofNat vs) wo un h bo ta tr ro ot Bm bk) (some (.long (-9000000000000000002))) (MW (Int32.ofNat n) (Int32.ofNat vs) wo un h bo ta tr ro ot Bm bk) := by
  refine PX3_total (Nat.le_of_ble_eq_true rfl) ?_
  intro G hT hC hR
  refine mB hT 1 rfl ?_
  refine hC.1 _ [_] _ _ _ _ (m_isBasket_t hb) rfl (Nat.le_of_ble_eq_true rfl) rfl ?_
  refine mB hT 2 rfl ?_
  refine hC.2.1 _ [_] _ _ _ _ (m_isStuff_t hk) rfl (Nat.le_of_ble_eq_true rfl) rfl ?_
  refine mB hT 4 rfl ?_
  refine hC.2.2.1 _ [_, _, _] _ _ _ _ (m_in_f hf) rfl (Nat.le_of_ble_eq_true rfl) rfl ?_
  refine mB hT 2 rfl ?_
  exact hR _ (by decide) _ _ _ rfl rfl
set_option maxRecDepth 20000 in
theorem m_total_O2 {n vs : Nat} {wo un h : Int64} {bo : Nat → Int32} {ta tr ro ot : Nat → Int64} {Bm : Nat → Nat → Nat → Int32} {bk : Nat → Nat → Int32} {b : Nat} (hb : b < 4) {k : Nat} (hk : k < 3) {s p : Int32} (h1 : 0 ≤ s) (h2 : s ≤ 2) (hf : ¬ (0 ≤ p ∧ p ≤ 1)) : KX3_total l D ca ad [.ref 0, .int (Int32.ofNat b), .int (Int32.ofNat k), .int s, .int p] (MW (Int32.ofNat n) (Int32.ofNat vs) wo un h bo ta tr ro ot Bm bk) (some (.long (-9000000000000000002))) (MW (Int32.ofNat n) (Int32.ofNat vs) wo un h bo ta tr ro ot Bm bk) := by
  refine PX3_total (Nat.le_of_ble_eq_true rfl) ?_
  intro G hT hC hR
  refine mB hT 1 rfl ?_
  refine hC.1 _ [_] _ _ _ _ (m_isBasket_t hb) rfl (Nat.le_of_ble_eq_true rfl) rfl ?_
  refine mB hT 2 rfl ?_
  refine hC.2.1 _ [_] _ _ _ _ (m_isStuff_t hk) rfl (Nat.le_of_ble_eq_true rfl) rfl ?_
  refine mB hT 4 rfl ?_
  refine hC.2.2.1 _ [_, _, _] _ _ _ _ (m_in_t h1 h2) rfl (Nat.le_of_ble_eq_true rfl) rfl ?_
  refine mB hT 4 rfl ?_
  refine hC.2.2.2.1 _ [_, _, _] _ _ _ _ (m_in_f hf) rfl (Nat.le_of_ble_eq_true rfl) rfl ?_
  refine mB hT 2 rfl ?_
  exact hR _ (by decide) _ _ _ rfl rfl
set_option maxRecDepth 20000 in
theorem m_share_U1 {n vs : Nat} {wo un h : Int64} {bo : Nat → Int32} {ta tr ro ot : Nat → Int64} {Bm : Nat → Nat → Nat → Int32} {bk : Nat → Nat → Int32} {b k i : Int32} (hfb : ¬ (0 ≤ b ∧ b < 4)) : KX3_share l D ca ad [.ref 0, .int b, .int k, .int i] (MW (Int32.ofNat n) (Int32.ofNat vs) wo un h bo ta tr ro ot Bm bk) (some (.long (-9000000000000000001))) (MW (Int32.ofNat n) (Int32.ofNat vs) wo un h bo ta tr ro ot Bm bk) := by
  refine PX3_share (Nat.le_of_ble_eq_true rfl) ?_
  intro G hT hC hR
  refine mB hT 1 rfl ?_
  refine hC.1 _ [_] _ _ _ _ (m_isBasket_f hfb) rfl (Nat.le_of_ble_eq_true rfl) rfl ?_
  refine mB hT 2 rfl ?_
  exact hR _ (by decide) _ _ _ rfl rfl
set_option maxRecDepth 20000 in
theorem m_share_U2 {n vs : Nat} {wo un h : Int64} {bo : Nat → Int32} {ta tr ro ot : Nat → Int64} {Bm : Nat → Nat → Nat → Int32} {bk : Nat → Nat → Int32} {b : Nat} (hb : b < 4) {k i : Int32} (hfk : ¬ (0 ≤ k ∧ k < 3)) : KX3_share l D ca ad [.ref 0, .int (Int32.ofNat b), .int k, .int i] (MW (Int32.ofNat n) (Int32.ofNat vs) wo un h bo ta tr ro ot Bm bk) (some (.long (-9000000000000000001))) (MW (Int32.ofNat n) (Int32.ofNat vs) wo un h bo ta tr ro ot Bm bk) := by
  refine PX3_share (Nat.le_of_ble_eq_true rfl) ?_
  intro G hT hC hR
  refine mB hT 1 rfl ?_
  refine hC.1 _ [_] _ _ _ _ (m_isBasket_t hb) rfl (Nat.le_of_ble_eq_true rfl) rfl ?_
  refine mB hT 2 rfl ?_
  refine hC.2.1 _ [_] _ _ _ _ (m_isStuff_f hfk) rfl (Nat.le_of_ble_eq_true rfl) rfl ?_
  refine mB hT 2 rfl ?_
  exact hR _ (by decide) _ _ _ rfl rfl
set_option maxRecDepth 20000 in
theorem m_share_U3 {n vs : Nat} {wo un h : Int64} {bo : Nat → Int32} {ta tr ro ot : Nat → Int64} {Bm : Nat → Nat → Nat → Int32} {bk : Nat → Nat → Int32} {b : Nat} (hb : b < 4) {k : Nat} (hk : k < 3) {i : Int32} (hn : n ≤ 4) (hfi : ¬ (0 ≤ i ∧ i < Int32.ofNat n)) : KX3_share l D ca ad [.ref 0, .int (Int32.ofNat b), .int (Int32.ofNat k), .int i] (MW (Int32.ofNat n) (Int32.ofNat vs) wo un h bo ta tr ro ot Bm bk) (some (.long (-9000000000000000001))) (MW (Int32.ofNat n) (Int32.ofNat vs) wo un h bo ta tr ro ot Bm bk) := by
  refine PX3_share (Nat.le_of_ble_eq_true rfl) ?_
  intro G hT hC hR
  refine mB hT 1 rfl ?_
  refine hC.1 _ [_] _ _ _ _ (m_isBasket_t hb) rfl (Nat.le_of_ble_eq_true rfl) rfl ?_
  refine mB hT 2 rfl ?_
  refine hC.2.1 _ [_] _ _ _ _ (m_isStuff_t hk) rfl (Nat.le_of_ble_eq_true rfl) rfl ?_
  refine mB hT 3 rfl ?_
  refine hC.2.2.1 _ 0 [_] _ _ _ _ _ (m_isMaking_f hn hfi) rfl rfl (Nat.le_of_ble_eq_true rfl) rfl ?_
  refine mB hT 2 rfl ?_
  exact hR _ (by decide) _ _ _ rfl rfl
set_option maxRecDepth 20000 in
theorem m_sure_U1 {n vs : Nat} {wo un h : Int64} {bo : Nat → Int32} {ta tr ro ot : Nat → Int64} {Bm : Nat → Nat → Nat → Int32} {bk : Nat → Nat → Int32} {a b k : Int32} (hfa : ¬ (0 ≤ a ∧ a < 4)) : KX3_sure l D ca ad [.ref 0, .int a, .int b, .int k] (MW (Int32.ofNat n) (Int32.ofNat vs) wo un h bo ta tr ro ot Bm bk) (some (.int (-101))) (MW (Int32.ofNat n) (Int32.ofNat vs) wo un h bo ta tr ro ot Bm bk) := by
  refine PX3_sure (Nat.le_of_ble_eq_true rfl) ?_
  intro G hT hC hR
  refine mB hT 1 rfl ?_
  refine hC.1 _ [_] _ _ _ _ (m_isBasket_f hfa) rfl (Nat.le_of_ble_eq_true rfl) rfl ?_
  refine mB hT 2 rfl ?_
  exact hR _ (by decide) _ _ _ rfl rfl
set_option maxRecDepth 20000 in
theorem m_sure_U2 {n vs : Nat} {wo un h : Int64} {bo : Nat → Int32} {ta tr ro ot : Nat → Int64} {Bm : Nat → Nat → Nat → Int32} {bk : Nat → Nat → Int32} {a : Nat} (ha : a < 4) {b k : Int32} (hfb : ¬ (0 ≤ b ∧ b < 4)) : KX3_sure l D ca ad [.ref 0, .int (Int32.ofNat a), .int b, .int k] (MW (Int32.ofNat n) (Int32.ofNat vs) wo un h bo ta tr ro ot Bm bk) (some (.int (-101))) (MW (Int32.ofNat n) (Int32.ofNat vs) wo un h bo ta tr ro ot Bm bk) := by
  refine PX3_sure (Nat.le_of_ble_eq_true rfl) ?_
  intro G hT hC hR
  refine mB hT 1 rfl ?_
  refine hC.1 _ [_] _ _ _ _ (m_isBasket_t ha) rfl (Nat.le_of_ble_eq_true rfl) rfl ?_
  refine mB hT 2 rfl ?_
  refine hC.2.1 _ [_] _ _ _ _ (m_isBasket_f hfb) rfl (Nat.le_of_ble_eq_true rfl) rfl ?_
  refine mB hT 2 rfl ?_
  exact hR _ (by decide) _ _ _ rfl rfl
set_option maxRecDepth 20000 in
theorem m_sure_U3 {n vs : Nat} {wo un h : Int64} {bo : Nat → Int32} {ta tr ro ot : Nat → Int64} {Bm : Nat → Nat → Nat → Int32} {bk : Nat → Nat → Int32} {a : Nat} (ha : a < 4) {b : Nat} (hb : b < 4) {k : Int32} (hfk : ¬ (0 ≤ k ∧ k < 3)) : KX3_sure l D ca ad [.ref 0, .int (Int32.ofNat a), .int (Int32.ofNat b), .int k] (MW (Int32.ofNat n) (Int32.ofNat vs) wo un h bo ta tr ro ot Bm bk) (some (.int (-101))) (MW (Int32.ofNat n) (Int32.ofNat vs) wo un h bo ta tr ro ot Bm bk) := by
  refine PX3_sure (Nat.le_of_ble_eq_true rfl) ?_
  intro G hT hC hR
  refine mB hT 1 rfl ?_
  refine hC.1 _ [_] _ _ _ _ (m_isBasket_t ha) rfl (Nat.le_of_ble_eq_true rfl) rfl ?_
  refine mB hT 2 rfl ?_
  refine hC.2.1 _ [_] _ _ _ _ (m_isBasket_t hb) rfl (Nat.le_of_ble_eq_true rfl) rfl ?_
  refine mB hT 2 rfl ?_
  refine hC.2.2.1 _ [_] _ _ _ _ (m_isStuff_f hfk) rfl (Nat.le_of_ble_eq_true rfl) rfl ?_
  refine mB hT 2 rfl ?_
  exact hR _ (by decide) _ _ _ rfl rfl
set_option maxRecDepth 20000 in
theorem m_most_U1 {n vs : Nat} {wo un h : Int64} {bo : Nat → Int32} {ta tr ro ot : Nat → Int64} {Bm : Nat → Nat → Nat → Int32} {bk : Nat → Nat → Int32} {b k : Int32} (hfb : ¬ (0 ≤ b ∧ b < 4)) : KX3_most l D ca ad [.ref 0, .int b, .int k] (MW (Int32.ofNat n) (Int32.ofNat vs) wo un h bo ta tr ro ot Bm bk) (some (.int (-101))) (MW (Int32.ofNat n) (Int32.ofNat vs) wo un h bo ta tr ro ot Bm bk) := by
  refine PX3_most (Nat.le_of_ble_eq_true rfl) ?_
  intro G hT hC hR
  refine mB hT 1 rfl ?_
  refine hC.1 _ [_] _ _ _ _ (m_isBasket_f hfb) rfl (Nat.le_of_ble_eq_true rfl) rfl ?_
  refine mB hT 2 rfl ?_
  exact hR _ (by decide) _ _ _ rfl rfl
set_option maxRecDepth 20000 in
theorem m_most_U2 {n vs : Nat} {wo un h : Int64} {bo : Nat → Int32} {ta tr ro ot : Nat → Int64} {Bm : Nat → Nat → Nat → Int32} {bk : Nat → Nat → Int32} {b : Nat} (hb : b < 4) {k : Int32} (hfk : ¬ (0 ≤ k ∧ k < 3)) : KX3_most l D ca ad [.ref 0, .int (Int32.ofNat b), .int k] (MW (Int32.ofNat n) (Int32.ofNat vs) wo un h bo ta tr ro ot Bm bk) (some (.int (-101))) (MW (Int32.ofNat n) (Int32.ofNat vs) wo un h bo ta tr ro ot Bm bk) := by
  refine PX3_most (Nat.le_of_ble_eq_true rfl) ?_
  intro G hT hC hR
  refine mB hT 1 rfl ?_
  refine hC.1 _ [_] _ _ _ _ (m_isBasket_t hb) rfl (Nat.le_of_ble_eq_true rfl) rfl ?_
  refine mB hT 2 rfl ?_
  refine hC.2.1 _ [_] _ _ _ _ (m_isStuff_f hfk) rfl (Nat.le_of_ble_eq_true rfl) rfl ?_
  refine mB hT 2 rfl ?_
  exact hR _ (by decide) _ _ _ rfl rfl
set_option maxRecDepth 20000 in
theorem m_turned_U {n vs : Nat} {wo un h : Int64} {bo : Nat → Int32} {ta tr ro ot : Nat → Int64} {Bm : Nat → Nat → Nat → Int32} {bk : Nat → Nat → Int32} {b : Int32} (hfb : ¬ (0 ≤ b ∧ b < 4)) : KX3_turned l D ca ad [.ref 0, .int b] (MW (Int32.ofNat n) (Int32.ofNat vs) wo un h bo ta tr ro ot Bm bk) (some (.int (-101))) (MW (Int32.ofNat n) (Int32.ofNat vs) wo un h bo ta tr ro ot Bm bk) := by
  refine PX3_turned (Nat.le_of_ble_eq_true rfl) ?_
  intro G hT hC hR
  refine mB hT 1 rfl ?_
  refine hC.1 _ [_] _ _ _ _ (m_isBasket_f hfb) rfl (Nat.le_of_ble_eq_true rfl) rfl ?_
  refine mB hT 2 rfl ?_
  exact hR _ (by decide) _ _ _ rfl rfl
set_option maxRecDepth 20000 in
theorem m_recall_U {n vs : Nat} {wo un h : Int64} {bo : Nat → Int32} {ta tr ro ot : Nat → Int64} {Bm : Nat → Nat → Nat → Int32} {bk : Nat → Nat → Int32} {v : Int32} (hvs : vs ≤ 6) (hfv : ¬ (0 ≤ v ∧ v < Int32.ofNat vs)) : KX3_recall l D ca ad [.ref 0, .int v] (MW (Int32.ofNat n) (Int32.ofNat vs) wo un h bo ta tr ro ot Bm bk) (some (.int (-101))) (MW (Int32.ofNat n) (Int32.ofNat vs) wo un h bo ta tr ro ot Bm bk) := by
  refine PX3_recall (Nat.le_of_ble_eq_true rfl) ?_
  intro G hT hC hR
  refine mB hT 6 rfl ?_
  refine hC.1 _ [_, _, _] _ _ _ _ (m_in_f (fun q => hfv ⟨q.1, (le_pred (by omega)).mp q.2⟩)) rfl (Nat.le_of_ble_eq_true rfl) rfl ?_
  refine mB hT 2 rfl ?_
  exact hR _ (by decide) _ _ _ rfl rfl
set_option maxRecDepth 20000 in
theorem m_blame_U1 {n vs : Nat} {wo un h : Int64} {bo : Nat → Int32} {ta tr ro ot : Nat → Int64} {Bm : Nat → Nat → Nat → Int32} {bk : Nat → Nat → Int32} {v b k i : Int32} (hvs : vs ≤ 6) (hfv : ¬ (0 ≤ v ∧ v < Int32.ofNat vs)) : KX3_blame l D ca ad [.ref 0, .int v, .int b, .int k, .int i] (MW (Int32.ofNat n) (Int32.ofNat vs) wo un h bo ta tr ro ot Bm bk) (some (.long (-9000000000000000001))) (MW (Int32.ofNat n) (Int32.ofNat vs) wo un h bo ta tr ro ot Bm bk) := by
  refine PX3_blame (Nat.le_of_ble_eq_true rfl) ?_
  intro G hT hC hR
  refine mB hT 6 rfl ?_
  refine hC.1 _ [_, _, _] _ _ _ _ (m_in_f (fun q => hfv ⟨q.1, (le_pred (by omega)).mp q.2⟩)) rfl (Nat.le_of_ble_eq_true rfl) rfl ?_
  refine mB hT 2 rfl ?_
  exact hR _ (by decide) _ _ _ rfl rfl
set_option maxRecDepth 20000 in
theorem m_blame_U2 {n vs : Nat} {wo un h : Int64} {bo : Nat → Int32} {ta tr ro ot : Nat → Int64} {Bm : Nat → Nat → Nat → Int32} {bk : Nat → Nat → Int32} {v : Nat} (hv : v < vs) (hvs : vs ≤ 6) {b k i : Int32} (hfb : ¬ (0 ≤ b ∧ b < 4)) : KX3_blame l D ca ad [.ref 0, .int (Int32.ofNat v), .int b, .int k, .int i] (MW (Int32.ofNat n) (Int32.ofNat vs) wo un h bo ta tr ro ot Bm bk) (some (.long (-9000000000000000001))) (MW (Int32.ofNat n) (Int32.ofNat vs) wo un h bo ta tr ro ot Bm bk) := by
  refine PX3_blame (Nat.le_of_ble_eq_true rfl) ?_
  intro G hT hC hR
  refine mB hT 6 rfl ?_
  refine hC.1 _ [_, _, _] _ _ _ _ (m_in_t (nI_pos' (by omega)) ((le_pred (by omega)).mpr (ofNat_lt hv (by omega)))) rfl (Nat.le_of_ble_eq_true rfl) rfl ?_
  refine mB hT 2 rfl ?_
  refine hC.2.1 _ [_] _ _ _ _ (m_isBasket_f hfb) rfl (Nat.le_of_ble_eq_true rfl) rfl ?_
  refine mB hT 2 rfl ?_
  exact hR _ (by decide) _ _ _ rfl rfl
set_option maxRecDepth 20000 in
theorem m_blame_U3 {n vs : Nat} {wo un h : Int64} {bo : Nat → Int32} {ta tr ro ot : Nat → Int64} {Bm : Nat → Nat → Nat → Int32} {bk : Nat → Nat → Int32} {v : Nat} (hv : v < vs) (hvs : vs ≤ 6) {b : Nat} (hb : b < 4) {k i : Int32} (hfk : ¬ (0 ≤ k ∧ k < 3)) : KX3_blame l D ca ad [.ref 0, .int (Int32.ofNat v), .int (Int32.ofNat b), .int k, .int i] (MW (Int32.ofNat n) (Int32.ofNat vs) wo un h bo ta tr ro ot Bm bk) (some (.long (-9000000000000000001))) (MW (Int32.ofNat n) (Int32.ofNat vs) wo un h bo ta tr ro ot Bm bk) := by
  refine PX3_blame (Nat.le_of_ble_eq_true rfl) ?_
  intro G hT hC hR
  refine mB hT 6 rfl ?_
  refine hC.1 _ [_, _, _] _ _ _ _ (m_in_t (nI_pos' (by omega)) ((le_pred (by omega)).mpr (ofNat_lt hv (by omega)))) rfl (Nat.le_of_ble_eq_true rfl) rfl ?_
  refine mB hT 2 rfl ?_
  refine hC.2.1 _ [_] _ _ _ _ (m_isBasket_t hb) rfl (Nat.le_of_ble_eq_true rfl) rfl ?_
  refine mB hT 2 rfl ?_
  refine hC.2.2.1 _ [_] _ _ _ _ (m_isStuff_f hfk) rfl (Nat.le_of_ble_eq_true rfl) rfl ?_
  refine mB hT 2 rfl ?_
  exact hR _ (by decide) _ _ _ rfl rfl
set_option maxRecDepth 20000 in
theorem m_blame_U4 {n vs : Nat} {wo un h : Int64} {bo : Nat → Int32} {ta tr ro ot : Nat → Int64} {Bm : Nat → Nat → Nat → Int32} {bk : Nat → Nat → Int32} {v : Nat} (hv : v < vs) (hvs : vs ≤ 6) {b : Nat} (hb : b < 4) {k : Nat} (hk : k < 3) {i : Int32} (hn : n ≤ 4) (hfi : ¬ (0 ≤ i ∧ i < Int32.ofNat n)) : KX3_blame l D ca ad [.ref 0, .int (Int32.ofNat v), .int (Int32.ofNat b), .int (Int32.ofNat k), .int i] (MW (Int32.ofNat n) (Int32.ofNat vs) wo un h bo ta tr ro ot Bm bk) (some (.long (-9000000000000000001))) (MW (Int32.ofNat n) (Int32.ofNat vs) wo un h bo ta tr ro ot Bm bk) := by
  refine PX3_blame (Nat.le_of_ble_eq_true rfl) ?_
  intro G hT hC hR
  refine mB hT 6 rfl ?_
  refine hC.1 _ [_, _, _] _ _ _ _ (m_in_t (nI_pos' (by omega)) ((le_pred (by omega)).mpr (ofNat_lt hv (by omega)))) rfl (Nat.le_of_ble_eq_true rfl) rfl ?_
  refine mB hT 2 rfl ?_
  refine hC.2.1 _ [_] _ _ _ _ (m_isBasket_t hb) rfl (Nat.le_of_ble_eq_true rfl) rfl ?_
  refine mB hT 2 rfl ?_
  refine hC.2.2.1 _ [_] _ _ _ _ (m_isStuff_t hk) rfl (Nat.le_of_ble_eq_true rfl) rfl ?_
  refine mB hT 3 rfl ?_
  refine hC.2.2.2.1 _ 0 [_] _ _ _ _ _ (m_isMaking_f hn hfi) rfl rfl (Nat.le_of_ble_eq_true rfl) rfl ?_
  refine mB hT 2 rfl ?_
  exact hR _ (by decide) _ _ _ rfl rfl
set_option maxRecDepth 20000 in
theorem m_keep_full {n : Nat} {wo un h : Int64} {bo : Nat → Int32} {ta tr ro ot : Nat → Int64} {Bm : Nat → Nat → Nat → Int32} {bk : Nat → Nat → Int32} : KX3_keep l D ca ad [.ref 0] (MW (Int32.ofNat n) 6 wo un h bo ta tr ro ot Bm bk) (some (.int (-105))) (MW (Int32.ofNat n) 6 wo un h bo ta tr ro ot Bm bk) := by
  refine PX3_keep (Nat.le_of_ble_eq_true rfl) ?_
  intro G hT hC hR
  refine mB hT 5 rfl ?_
  exact hR _ (by decide) _ _ _ rfl rfl
set_option maxRecDepth 20000 in
theorem m_out_0 {n vs : Nat} {wo un h : Int64} {bo : Nat → Int32} {ta tr ro ot : Nat → Int64} {Bm : Nat → Nat → Nat → Int32} {bk : Nat → Nat → Int32} (hi : 0 < n) (hn : n ≤ 4) {v : Int32} (h1 : 1 ≤ v) (h2 : v ≤ 6) : KX3_out l D ca ad [.ref 0, .int 0, .int v] (MW (Int32.ofNat n) (Int32.ofNat vs) wo un h bo ta tr ro ot Bm bk) (some (.int (Bm 6 0 0))) (MW (Int32.ofNat n) (Int32.ofNat vs) wo un h bo ta tr ro ot (up Bm 6 (up (Bm 6) 0 (up (Bm 6 0) 0 v))) bk) := by
  refine PX3_out (Nat.le_of_ble_eq_true rfl) ?_
  intro G hT hC hR
  refine mB hT 2 rfl ?_
  refine hC.1 _ 0 [_] _ _ _ _ _ (m_isMaking_t (i := 0) hi hn) rfl rfl (Nat.le_of_ble_eq_true rfl) rfl ?_
  refine mB hT 4 rfl ?_
  refine hC.2 _ [_, _, _] _ _ _ _ (m_in_t h1 h2) rfl (Nat.le_of_ble_eq_true rfl) rfl ?_
  refine mB hT 16 rfl ?_
  exact hR _ (by decide) _ _ _ rfl rfl
set_option maxRecDepth 20000 in
theorem m_out_1 {n vs : Nat} {wo un h : Int64} {bo : Nat → Int32} {ta tr ro ot : Nat → Int64} {Bm : Nat → Nat → Nat → Int32} {bk : Nat → Nat → Int32} (hi : 1 < n) (hn : n ≤ 4) {v : Int32} (h1 : 1 ≤ v) (h2 : v ≤ 6) : KX3_out l D ca ad [.ref 0, .int 1, .int v] (MW (Int32.ofNat n) (Int32.ofNat vs) wo un h bo ta tr ro ot Bm bk) (some (.int (Bm 6 1 0))) (MW (Int32.ofNat n) (Int32.ofNat vs) wo un h bo ta tr ro ot (up Bm 6 (up (Bm 6) 1 (up (Bm 6 1) 0 v))) bk) := by
  refine PX3_out (Nat.le_of_ble_eq_true rfl) ?_
  intro G hT hC hR
  refine mB hT 2 rfl ?_
  refine hC.1 _ 0 [_] _ _ _ _ _ (m_isMaking_t (i := 1) hi hn) rfl rfl (Nat.le_of_ble_eq_true rfl) rfl ?_
  refine mB hT 4 rfl ?_
  refine hC.2 _ [_, _, _] _ _ _ _ (m_in_t h1 h2) rfl (Nat.le_of_ble_eq_true rfl) rfl ?_
  refine mB hT 16 rfl ?_
  exact hR _ (by decide) _ _ _ rfl rfl
set_option maxRecDepth 20000 in
theorem m_out_2 {n vs : Nat} {wo un h : Int64} {bo : Nat → Int32} {ta tr ro ot : Nat → Int64} {Bm : Nat → Nat → Nat → Int32} {bk : Nat → Nat → Int32} (hi : 2 < n) (hn : n ≤ 4) {v : Int32} (h1 : 1 ≤ v) (h2 : v ≤ 6) : KX3_out l D ca ad [.ref 0, .int 2, .int v] (MW (Int32.ofNat n) (Int32.ofNat vs) wo un h bo ta tr ro ot Bm bk) (some (.int (Bm 6 2 0))) (MW (Int32.ofNat n) (Int32.ofNat vs) wo un h bo ta tr ro ot (up Bm 6 (up (Bm 6) 2 (up (Bm 6 2) 0 v))) bk) := by
  refine PX3_out (Nat.le_of_ble_eq_true rfl) ?_
  intro G hT hC hR
  refine mB hT 2 rfl ?_
  refine hC.1 _ 0 [_] _ _ _ _ _ (m_isMaking_t (i := 2) hi hn) rfl rfl (Nat.le_of_ble_eq_true rfl) rfl ?_
  refine mB hT 4 rfl ?_
  refine hC.2 _ [_, _, _] _ _ _ _ (m_in_t h1 h2) rfl (Nat.le_of_ble_eq_true rfl) rfl ?_
  refine mB hT 16 rfl ?_
  exact hR _ (by decide) _ _ _ rfl rfl
set_option maxRecDepth 20000 in
theorem m_out_3 {n vs : Nat} {wo un h : Int64} {bo : Nat → Int32} {ta tr ro ot : Nat → Int64} {Bm : Nat → Nat → Nat → Int32} {bk : Nat → Nat → Int32} (hi : 3 < n) (hn : n ≤ 4) {v : Int32} (h1 : 1 ≤ v) (h2 : v ≤ 6) : KX3_out l D ca ad [.ref 0, .int 3, .int v] (MW (Int32.ofNat n) (Int32.ofNat vs) wo un h bo ta tr ro ot Bm bk) (some (.int (Bm 6 3 0))) (MW (Int32.ofNat n) (Int32.ofNat vs) wo un h bo ta tr ro ot (up Bm 6 (up (Bm 6) 3 (up (Bm 6 3) 0 v))) bk) := by
  refine PX3_out (Nat.le_of_ble_eq_true rfl) ?_
  intro G hT hC hR
  refine mB hT 2 rfl ?_
  refine hC.1 _ 0 [_] _ _ _ _ _ (m_isMaking_t (i := 3) hi hn) rfl rfl (Nat.le_of_ble_eq_true rfl) rfl ?_
  refine mB hT 4 rfl ?_
  refine hC.2 _ [_, _, _] _ _ _ _ (m_in_t h1 h2) rfl (Nat.le_of_ble_eq_true rfl) rfl ?_
  refine mB hT 16 rfl ?_
  exact hR _ (by decide) _ _ _ rfl rfl
theorem m_out {n vs : Nat} {wo un h : Int64} {bo : Nat → Int32} {ta tr ro ot : Nat → Int64} {Bm : Nat → Nat → Nat → Int32} {bk : Nat → Nat → Int32} {i : Nat} (hi : i < n) (hn : n ≤ 4) {v : Int32} (h1 : 1 ≤ v) (h2 : v ≤ 6) : KX3_out l D ca ad [.ref 0, .int (Int32.ofNat i), .int v] (MW (Int32.ofNat n) (Int32.ofNat vs) wo un h bo ta tr ro ot Bm bk) (some (.int (Bm 6 i 0))) (MW (Int32.ofNat n) (Int32.ofNat vs) wo un h bo ta tr ro ot (up Bm 6 (up (Bm 6) i (up (Bm 6 i) 0 v))) bk) := by
  match i, hi with
  | 0, hi => exact m_out_0 hi hn h1 h2
  | 1, hi => exact m_out_1 hi hn h1 h2
  | 2, hi => exact m_out_2 hi hn h1 h2
  | 3, hi => exact m_out_3 hi hn h1 h2
  | i + 4, hi => omega
set_option maxRecDepth 20000 in
theorem m_rule_0 {n vs : Nat} {wo un h : Int64} {bo : Nat → Int32} {ta tr ro ot : Nat → Int64} {Bm : Nat → Nat → Nat → Int32} {bk : Nat → Nat → Int32} (hi : 0 < n) (hn : n ≤ 4) {v : Int32} (h1 : 0 ≤ v) (h2 : v ≤ 2) : KX3_rule l D ca ad [.ref 0, .int 0, .int v] (MW (Int32.ofNat n) (Int32.ofNat vs) wo un h bo ta tr ro ot Bm bk) (some (.int (Bm 6 0 1))) (MW (Int32.ofNat n) (Int32.ofNat vs) wo un h bo ta tr ro ot (up Bm 6 (up (Bm 6) 0 (up (Bm 6 0) 1 v))) bk) := by
  refine PX3_rule (Nat.le_of_ble_eq_true rfl) ?_
  intro G hT hC hR
  refine mB hT 2 rfl ?_
  refine hC.1 _ 0 [_] _ _ _ _ _ (m_isMaking_t (i := 0) hi hn) rfl rfl (Nat.le_of_ble_eq_true rfl) rfl ?_
  refine mB hT 4 rfl ?_
  refine hC.2 _ [_, _, _] _ _ _ _ (m_in_t h1 h2) rfl (Nat.le_of_ble_eq_true rfl) rfl ?_
  refine mB hT 16 rfl ?_
  exact hR _ (by decide) _ _ _ rfl rfl
set_option maxRecDepth 20000 in
theorem m_rule_1 {n vs : Nat} {wo un h : Int64} {bo : Nat → Int32} {ta tr ro ot : Nat → Int64} {Bm : Nat → Nat → Nat → Int32} {bk : Nat → Nat → Int32} (hi : 1 < n) (hn : n ≤ 4) {v : Int32} (h1 : 0 ≤ v) (h2 : v ≤ 2) : KX3_rule l D ca ad [.ref 0, .int 1, .int v] (MW (Int32.ofNat n) (Int32.ofNat vs) wo un h bo ta tr ro ot Bm bk) (some (.int (Bm 6 1 1))) (MW (Int32.ofNat n) (Int32.ofNat vs) wo un h bo ta tr ro ot (up Bm 6 (up (Bm 6) 1 (up (Bm 6 1) 1 v))) bk) := by
  refine PX3_rule (Nat.le_of_ble_eq_true rfl) ?_
  intro G hT hC hR
  refine mB hT 2 rfl ?_
  refine hC.1 _ 0 [_] _ _ _ _ _ (m_isMaking_t (i := 1) hi hn) rfl rfl (Nat.le_of_ble_eq_true rfl) rfl ?_
  refine mB hT 4 rfl ?_
  refine hC.2 _ [_, _, _] _ _ _ _ (m_in_t h1 h2) rfl (Nat.le_of_ble_eq_true rfl) rfl ?_
  refine mB hT 16 rfl ?_
  exact hR _ (by decide) _ _ _ rfl rfl
set_option maxRecDepth 20000 in
theorem m_rule_2 {n vs : Nat} {wo un h : Int64} {bo : Nat → Int32} {ta tr ro ot : Nat → Int64} {Bm : Nat → Nat → Nat → Int32} {bk : Nat → Nat → Int32} (hi : 2 < n) (hn : n ≤ 4) {v : Int32} (h1 : 0 ≤ v) (h2 : v ≤ 2) : KX3_rule l D ca ad [.ref 0, .int 2, .int v] (MW (Int32.ofNat n) (Int32.ofNat vs) wo un h bo ta tr ro ot Bm bk) (some (.int (Bm 6 2 1))) (MW (Int32.ofNat n) (Int32.ofNat vs) wo un h bo ta tr ro ot (up Bm 6 (up (Bm 6) 2 (up (Bm 6 2) 1 v))) bk) := by
  refine PX3_rule (Nat.le_of_ble_eq_true rfl) ?_
  intro G hT hC hR
  refine mB hT 2 rfl ?_
  refine hC.1 _ 0 [_] _ _ _ _ _ (m_isMaking_t (i := 2) hi hn) rfl rfl (Nat.le_of_ble_eq_true rfl) rfl ?_
  refine mB hT 4 rfl ?_
  refine hC.2 _ [_, _, _] _ _ _ _ (m_in_t h1 h2) rfl (Nat.le_of_ble_eq_true rfl) rfl ?_
  refine mB hT 16 rfl ?_
  exact hR _ (by decide) _ _ _ rfl rfl
set_option maxRecDepth 20000 in
theorem m_rule_3 {n vs : Nat} {wo un h : Int64} {bo : Nat → Int32} {ta tr ro ot : Nat → Int64} {Bm : Nat → Nat → Nat → Int32} {bk : Nat → Nat → Int32} (hi : 3 < n) (hn : n ≤ 4) {v : Int32} (h1 : 0 ≤ v) (h2 : v ≤ 2) : KX3_rule l D ca ad [.ref 0, .int 3, .int v] (MW (Int32.ofNat n) (Int32.ofNat vs) wo un h bo ta tr ro ot Bm bk) (some (.int (Bm 6 3 1))) (MW (Int32.ofNat n) (Int32.ofNat vs) wo un h bo ta tr ro ot (up Bm 6 (up (Bm 6) 3 (up (Bm 6 3) 1 v))) bk) := by
  refine PX3_rule (Nat.le_of_ble_eq_true rfl) ?_
  intro G hT hC hR
  refine mB hT 2 rfl ?_
  refine hC.1 _ 0 [_] _ _ _ _ _ (m_isMaking_t (i := 3) hi hn) rfl rfl (Nat.le_of_ble_eq_true rfl) rfl ?_
  refine mB hT 4 rfl ?_
  refine hC.2 _ [_, _, _] _ _ _ _ (m_in_t h1 h2) rfl (Nat.le_of_ble_eq_true rfl) rfl ?_
  refine mB hT 16 rfl ?_
  exact hR _ (by decide) _ _ _ rfl rfl
theorem m_rule {n vs : Nat} {wo un h : Int64} {bo : Nat → Int32} {ta tr ro ot : Nat → Int64} {Bm : Nat → Nat → Nat → Int32} {bk : Nat → Nat → Int32} {i : Nat} (hi : i < n) (hn : n ≤ 4) {v : Int32} (h1 : 0 ≤ v) (h2 : v ≤ 2) : KX3_rule l D ca ad [.ref 0, .int (Int32.ofNat i), .int v] (MW (Int32.ofNat n) (Int32.ofNat vs) wo un h bo ta tr ro ot Bm bk) (some (.int (Bm 6 i 1))) (MW (Int32.ofNat n) (Int32.ofNat vs) wo un h bo ta tr ro ot (up Bm 6 (up (Bm 6) i (up (Bm 6 i) 1 v))) bk) := by
  match i, hi with
  | 0, hi => exact m_rule_0 hi hn h1 h2
  | 1, hi => exact m_rule_1 hi hn h1 h2
  | 2, hi => exact m_rule_2 hi hn h1 h2
  | 3, hi => exact m_rule_3 hi hn h1 h2
  | i + 4, hi => omega
set_option maxRecDepth 20000 in
theorem m_needs_0_0 {n vs : Nat} {wo un h : Int64} {bo : Nat → Int32} {ta tr ro ot : Nat → Int64} {Bm : Nat → Nat → Nat → Int32} {bk : Nat → Nat → Int32} (hi : 0 < n) (hj : 0 < n) (hn : n ≤ 4) {v : Int32} (h1 : 0 ≤ v) (h2 : v ≤ 6) : KX3_needs l D ca ad [.ref 0, .int 0, .int 0, .int v] (MW (Int32.ofNat n) (Int32.ofNat vs) wo un h bo ta tr ro ot Bm bk) (some (.int (Bm 6 0 4))) (MW (Int32.ofNat n) (Int32.ofNat vs) wo un h bo ta tr ro ot (up Bm 6 (up (Bm 6) 0 (up (Bm 6 0) 4 v))) bk) := by
  refine PX3_needs (Nat.le_of_ble_eq_true rfl) ?_
  intro G hT hC hR
  refine mB hT 2 rfl ?_
  refine hC.1 _ 0 [_] _ _ _ _ _ (m_isMaking_t (i := 0) hi hn) rfl rfl (Nat.le_of_ble_eq_true rfl) rfl ?_
  refine mB hT 3 rfl ?_
  refine hC.2.1 _ 0 [_] _ _ _ _ _ (m_isMaking_t (i := 0) hj hn) rfl rfl (Nat.le_of_ble_eq_true rfl) rfl ?_
  refine mB hT 4 rfl ?_
  refine hC.2.2 _ [_, _, _] _ _ _ _ (m_in_t h1 h2) rfl (Nat.le_of_ble_eq_true rfl) rfl ?_
  refine mB hT 20 rfl ?_
  exact hR _ (by decide) _ _ _ rfl rfl
set_option maxRecDepth 20000 in
theorem m_needs_0_1 {n vs : Nat} {wo un h : Int64} {bo : Nat → Int32} {ta tr ro ot : Nat → Int64} {Bm : Nat → Nat → Nat → Int32} {bk : Nat → Nat → Int32} (hi : 0 < n) (hj : 1 < n) (hn : n ≤ 4) {v : Int32} (h1 : 0 ≤ v) (h2 : v ≤ 6) : KX3_needs l D ca ad [.ref 0, .int 0, .int 1, .int v] (MW (Int32.ofNat n) (Int32.ofNat vs) wo un h bo ta tr ro ot Bm bk) (some (.int (Bm 6 0 5))) (MW (Int32.ofNat n) (Int32.ofNat vs) wo un h bo ta tr ro ot (up Bm 6 (up (Bm 6) 0 (up (Bm 6 0) 5 v))) bk) := by
  refine PX3_needs (Nat.le_of_ble_eq_true rfl) ?_
  intro G hT hC hR
  refine mB hT 2 rfl ?_
  refine hC.1 _ 0 [_] _ _ _ _ _ (m_isMaking_t (i := 0) hi hn) rfl rfl (Nat.le_of_ble_eq_true rfl) rfl ?_
  refine mB hT 3 rfl ?_
  refine hC.2.1 _ 0 [_] _ _ _ _ _ (m_isMaking_t (i := 1) hj hn) rfl rfl (Nat.le_of_ble_eq_true rfl) rfl ?_
  refine mB hT 4 rfl ?_
  refine hC.2.2 _ [_, _, _] _ _ _ _ (m_in_t h1 h2) rfl (Nat.le_of_ble_eq_true rfl) rfl ?_
  refine mB hT 20 rfl ?_
  exact hR _ (by decide) _ _ _ rfl rfl
set_option maxRecDepth 20000 in
theorem m_needs_0_2 {n vs : Nat} {wo un h : Int64} {bo : Nat → Int32} {ta tr ro ot : Nat → Int64} {Bm : Nat → Nat → Nat → Int32} {bk : Nat → Nat → Int32} (hi : 0 < n) (hj : 2 < n) (hn : n ≤ 4) {v : Int32} (h1 : 0 ≤ v) (h2 : v ≤ 6) : KX3_needs l D ca ad [.ref 0, .int 0, .int 2, .int v] (MW (Int32.ofNat n) (Int32.ofNat vs) wo un h bo ta tr ro ot Bm bk) (some (.int (Bm 6 0 6))) (MW (Int32.ofNat n) (Int32.ofNat vs) wo un h bo ta tr ro ot (up Bm 6 (up (Bm 6) 0 (up (Bm 6 0) 6 v))) bk) := by
  refine PX3_needs (Nat.le_of_ble_eq_true rfl) ?_
  intro G hT hC hR
  refine mB hT 2 rfl ?_
  refine hC.1 _ 0 [_] _ _ _ _ _ (m_isMaking_t (i := 0) hi hn) rfl rfl (Nat.le_of_ble_eq_true rfl) rfl ?_
  refine mB hT 3 rfl ?_
  refine hC.2.1 _ 0 [_] _ _ _ _ _ (m_isMaking_t (i := 2) hj hn) rfl rfl (Nat.le_of_ble_eq_true rfl) rfl ?_
  refine mB hT 4 rfl ?_
  refine hC.2.2 _ [_, _, _] _ _ _ _ (m_in_t h1 h2) rfl (Nat.le_of_ble_eq_true rfl) rfl ?_
  refine mB hT 20 rfl ?_
  exact hR _ (by decide) _ _ _ rfl rfl
set_option maxRecDepth 20000 in
theorem m_needs_0_3 {n vs : Nat} {wo un h : Int64} {bo : Nat → Int32} {ta tr ro ot : Nat → Int64} {Bm : Nat → Nat → Nat → Int32} {bk : Nat → Nat → Int32} (hi : 0 < n) (hj : 3 < n) (hn : n ≤ 4) {v : Int32} (h1 : 0 ≤ v) (h2 : v ≤ 6) : KX3_needs l D ca ad [.ref 0, .int 0, .int 3, .int v] (MW (Int32.ofNat n) (Int32.ofNat vs) wo un h bo ta tr ro ot Bm bk) (some (.int (Bm 6 0 7))) (MW (Int32.ofNat n) (Int32.ofNat vs) wo un h bo ta tr ro ot (up Bm 6 (up (Bm 6) 0 (up (Bm 6 0) 7 v))) bk) := by
  refine PX3_needs (Nat.le_of_ble_eq_true rfl) ?_
  intro G hT hC hR
  refine mB hT 2 rfl ?_
  refine hC.1 _ 0 [_] _ _ _ _ _ (m_isMaking_t (i := 0) hi hn) rfl rfl (Nat.le_of_ble_eq_true rfl) rfl ?_
  refine mB hT 3 rfl ?_
  refine hC.2.1 _ 0 [_] _ _ _ _ _ (m_isMaking_t (i := 3) hj hn) rfl rfl (Nat.le_of_ble_eq_true rfl) rfl ?_
  refine mB hT 4 rfl ?_
  refine hC.2.2 _ [_, _, _] _ _ _ _ (m_in_t h1 h2) rfl (Nat.le_of_ble_eq_true rfl) rfl ?_
  refine mB hT 20 rfl ?_
  exact hR _ (by decide) _ _ _ rfl rfl
set_option maxRecDepth 20000 in
theorem m_needs_1_0 {n vs : Nat} {wo un h : Int64} {bo : Nat → Int32} {ta tr ro ot : Nat → Int64} {Bm : Nat → Nat → Nat → Int32} {bk : Nat → Nat → Int32} (hi : 1 < n) (hj : 0 < n) (hn : n ≤ 4) {v : Int32} (h1 : 0 ≤ v) (h2 : v ≤ 6) : KX3_needs l D ca ad [.ref 0, .int 1, .int 0, .int v] (MW (Int32.ofNat n) (Int32.ofNat vs) wo un h bo ta tr ro ot Bm bk) (some (.int (Bm 6 1 4))) (MW (Int32.ofNat n) (Int32.ofNat vs) wo un h bo ta tr ro ot (up Bm 6 (up (Bm 6) 1 (up (Bm 6 1) 4 v))) bk) := by
  refine PX3_needs (Nat.le_of_ble_eq_true rfl) ?_
  intro G hT hC hR
  refine mB hT 2 rfl ?_
  refine hC.1 _ 0 [_] _ _ _ _ _ (m_isMaking_t (i := 1) hi hn) rfl rfl (Nat.le_of_ble_eq_true rfl) rfl ?_
  refine mB hT 3 rfl ?_
  refine hC.2.1 _ 0 [_] _ _ _ _ _ (m_isMaking_t (i := 0) hj hn) rfl rfl (Nat.le_of_ble_eq_true rfl) rfl ?_
  refine mB hT 4 rfl ?_
  refine hC.2.2 _ [_, _, _] _ _ _ _ (m_in_t h1 h2) rfl (Nat.le_of_ble_eq_true rfl) rfl ?_
  refine mB hT 20 rfl ?_
  exact hR _ (by decide) _ _ _ rfl rfl
set_option maxRecDepth 20000 in
theorem m_needs_1_1 {n vs : Nat} {wo un h : Int64} {bo : Nat → Int32} {ta tr ro ot : Nat → Int64} {Bm : Nat → Nat → Nat → Int32} {bk : Nat → Nat → Int32} (hi : 1 < n) (hj : 1 < n) (hn : n ≤ 4) {v : Int32} (h1 : 0 ≤ v) (h2 : v ≤ 6) : KX3_needs l D ca ad [.ref 0, .int 1, .int 1, .int v] (MW (Int32.ofNat n) (Int32.ofNat vs) wo un h bo ta tr ro ot Bm bk) (some (.int (Bm 6 1 5))) (MW (Int32.ofNat n) (Int32.ofNat vs) wo un h bo ta tr ro ot (up Bm 6 (up (Bm 6) 1 (up (Bm 6 1) 5 v))) bk) := by
  refine PX3_needs (Nat.le_of_ble_eq_true rfl) ?_
  intro G hT hC hR
  refine mB hT 2 rfl ?_
  refine hC.1 _ 0 [_] _ _ _ _ _ (m_isMaking_t (i := 1) hi hn) rfl rfl (Nat.le_of_ble_eq_true rfl) rfl ?_
  refine mB hT 3 rfl ?_
  refine hC.2.1 _ 0 [_] _ _ _ _ _ (m_isMaking_t (i := 1) hj hn) rfl rfl (Nat.le_of_ble_eq_true rfl) rfl ?_
  refine mB hT 4 rfl ?_
  refine hC.2.2 _ [_, _, _] _ _ _ _ (m_in_t h1 h2) rfl (Nat.le_of_ble_eq_true rfl) rfl ?_
  refine mB hT 20 rfl ?_
  exact hR _ (by decide) _ _ _ rfl rfl
set_option maxRecDepth 20000 in
theorem m_needs_1_2 {n vs : Nat} {wo un h : Int64} {bo : Nat → Int32} {ta tr ro ot : Nat → Int64} {Bm : Nat → Nat → Nat → Int32} {bk : Nat → Nat → Int32} (hi : 1 < n) (hj : 2 < n) (hn : n ≤ 4) {v : Int32} (h1 : 0 ≤ v) (h2 : v ≤ 6) : KX3_needs l D ca ad [.ref 0, .int 1, .int 2, .int v] (MW (Int32.ofNat n) (Int32.ofNat vs) wo un h bo ta tr ro ot Bm bk) (some (.int (Bm 6 1 6))) (MW (Int32.ofNat n) (Int32.ofNat vs) wo un h bo ta tr ro ot (up Bm 6 (up (Bm 6) 1 (up (Bm 6 1) 6 v))) bk) := by
  refine PX3_needs (Nat.le_of_ble_eq_true rfl) ?_
  intro G hT hC hR
  refine mB hT 2 rfl ?_
  refine hC.1 _ 0 [_] _ _ _ _ _ (m_isMaking_t (i := 1) hi hn) rfl rfl (Nat.le_of_ble_eq_true rfl) rfl ?_
  refine mB hT 3 rfl ?_
  refine hC.2.1 _ 0 [_] _ _ _ _ _ (m_isMaking_t (i := 2) hj hn) rfl rfl (Nat.le_of_ble_eq_true rfl) rfl ?_
  refine mB hT 4 rfl ?_
  refine hC.2.2 _ [_, _, _] _ _ _ _ (m_in_t h1 h2) rfl (Nat.le_of_ble_eq_true rfl) rfl ?_
  refine mB hT 20 rfl ?_
  exact hR _ (by decide) _ _ _ rfl rfl
set_option maxRecDepth 20000 in
theorem m_needs_1_3 {n vs : Nat} {wo un h : Int64} {bo : Nat → Int32} {ta tr ro ot : Nat → Int64} {Bm : Nat → Nat → Nat → Int32} {bk : Nat → Nat → Int32} (hi : 1 < n) (hj : 3 < n) (hn : n ≤ 4) {v : Int32} (h1 : 0 ≤ v) (h2 : v ≤ 6) : KX3_needs l D ca ad [.ref 0, .int 1, .int 3, .int v] (MW (Int32.ofNat n) (Int32.ofNat vs) wo un h bo ta tr ro ot Bm bk) (some (.int (Bm 6 1 7))) (MW (Int32.ofNat n) (Int32.ofNat vs) wo un h bo ta tr ro ot (up Bm 6 (up (Bm 6) 1 (up (Bm 6 1) 7 v))) bk) := by
  refine PX3_needs (Nat.le_of_ble_eq_true rfl) ?_
  intro G hT hC hR
  refine mB hT 2 rfl ?_
  refine hC.1 _ 0 [_] _ _ _ _ _ (m_isMaking_t (i := 1) hi hn) rfl rfl (Nat.le_of_ble_eq_true rfl) rfl ?_
  refine mB hT 3 rfl ?_
  refine hC.2.1 _ 0 [_] _ _ _ _ _ (m_isMaking_t (i := 3) hj hn) rfl rfl (Nat.le_of_ble_eq_true rfl) rfl ?_
  refine mB hT 4 rfl ?_
  refine hC.2.2 _ [_, _, _] _ _ _ _ (m_in_t h1 h2) rfl (Nat.le_of_ble_eq_true rfl) rfl ?_
  refine mB hT 20 rfl ?_
  exact hR _ (by decide) _ _ _ rfl rfl
set_option maxRecDepth 20000 in
theorem m_needs_2_0 {n vs : Nat} {wo un h : Int64} {bo : Nat → Int32} {ta tr ro ot : Nat → Int64} {Bm : Nat → Nat → Nat → Int32} {bk : Nat → Nat → Int32} (hi : 2 < n) (hj : 0 < n) (hn : n ≤ 4) {v : Int32} (h1 : 0 ≤ v) (h2 : v ≤ 6) : KX3_needs l D ca ad [.ref 0, .int 2, .int 0, .int v] (MW (Int32.ofNat n) (Int32.ofNat vs) wo un h bo ta tr ro ot Bm bk) (some (.int (Bm 6 2 4))) (MW (Int32.ofNat n) (Int32.ofNat vs) wo un h bo ta tr ro ot (up Bm 6 (up (Bm 6) 2 (up (Bm 6 2) 4 v))) bk) := by
  refine PX3_needs (Nat.le_of_ble_eq_true rfl) ?_
  intro G hT hC hR
  refine mB hT 2 rfl ?_
  refine hC.1 _ 0 [_] _ _ _ _ _ (m_isMaking_t (i := 2) hi hn) rfl rfl (Nat.le_of_ble_eq_true rfl) rfl ?_
  refine mB hT 3 rfl ?_
  refine hC.2.1 _ 0 [_] _ _ _ _ _ (m_isMaking_t (i := 0) hj hn) rfl rfl (Nat.le_of_ble_eq_true rfl) rfl ?_
  refine mB hT 4 rfl ?_
  refine hC.2.2 _ [_, _, _] _ _ _ _ (m_in_t h1 h2) rfl (Nat.le_of_ble_eq_true rfl) rfl ?_
  refine mB hT 20 rfl ?_
  exact hR _ (by decide) _ _ _ rfl rfl
set_option maxRecDepth 20000 in
theorem m_needs_2_1 {n vs : Nat} {wo un h : Int64} {bo : Nat → Int32} {ta tr ro ot : Nat → Int64} {Bm : Nat → Nat → Nat → Int32} {bk : Nat → Nat → Int32} (hi : 2 < n) (hj : 1 < n) (hn : n ≤ 4) {v : Int32} (h1 : 0 ≤ v) (h2 : v ≤ 6) : KX3_needs l D ca ad [.ref 0, .int 2, .int 1, .int v] (MW (Int32.ofNat n) (Int32.ofNat vs) wo un h bo ta tr ro ot Bm bk) (some (.int (Bm 6 2 5))) (MW (Int32.ofNat n) (Int32.ofNat vs) wo un h bo ta tr ro ot (up Bm 6 (up (Bm 6) 2 (up (Bm 6 2) 5 v))) bk) := by
  refine PX3_needs (Nat.le_of_ble_eq_true rfl) ?_
  intro G hT hC hR
  refine mB hT 2 rfl ?_
  refine hC.1 _ 0 [_] _ _ _ _ _ (m_isMaking_t (i := 2) hi hn) rfl rfl (Nat.le_of_ble_eq_true rfl) rfl ?_
  refine mB hT 3 rfl ?_
  refine hC.2.1 _ 0 [_] _ _ _ _ _ (m_isMaking_t (i := 1) hj hn) rfl rfl (Nat.le_of_ble_eq_true rfl) rfl ?_
  refine mB hT 4 rfl ?_
  refine hC.2.2 _ [_, _, _] _ _ _ _ (m_in_t h1 h2) rfl (Nat.le_of_ble_eq_true rfl) rfl ?_
  refine mB hT 20 rfl ?_
  exact hR _ (by decide) _ _ _ rfl rfl
set_option maxRecDepth 20000 in
theorem m_needs_2_2 {n vs : Nat} {wo un h : Int64} {bo : Nat → Int32} {ta tr ro ot : Nat → Int64} {Bm : Nat → Nat → Nat → Int32} {bk : Nat → Nat → Int32} (hi : 2 < n) (hj : 2 < n) (hn : n ≤ 4) {v : Int32} (h1 : 0 ≤ v) (h2 : v ≤ 6) : KX3_needs l D ca ad [.ref 0, .int 2, .int 2, .int v] (MW (Int32.ofNat n) (Int32.ofNat vs) wo un h bo ta tr ro ot Bm bk) (some (.int (Bm 6 2 6))) (MW (Int32.ofNat n) (Int32.ofNat vs) wo un h bo ta tr ro ot (up Bm 6 (up (Bm 6) 2 (up (Bm 6 2) 6 v))) bk) := by
  refine PX3_needs (Nat.le_of_ble_eq_true rfl) ?_
  intro G hT hC hR
  refine mB hT 2 rfl ?_
  refine hC.1 _ 0 [_] _ _ _ _ _ (m_isMaking_t (i := 2) hi hn) rfl rfl (Nat.le_of_ble_eq_true rfl) rfl ?_
  refine mB hT 3 rfl ?_
  refine hC.2.1 _ 0 [_] _ _ _ _ _ (m_isMaking_t (i := 2) hj hn) rfl rfl (Nat.le_of_ble_eq_true rfl) rfl ?_
  refine mB hT 4 rfl ?_
  refine hC.2.2 _ [_, _, _] _ _ _ _ (m_in_t h1 h2) rfl (Nat.le_of_ble_eq_true rfl) rfl ?_
  refine mB hT 20 rfl ?_
  exact hR _ (by decide) _ _ _ rfl rfl
set_option maxRecDepth 20000 in
theorem m_needs_2_3 {n vs : Nat} {wo un h : Int64} {bo : Nat → Int32} {ta tr ro ot : Nat → Int64} {Bm : Nat → Nat → Nat → Int32} {bk : Nat → Nat → Int32} (hi : 2 < n) (hj : 3 < n) (hn : n ≤ 4) {v : Int32} (h1 : 0 ≤ v) (h2 : v ≤ 6) : KX3_needs l D ca ad [.ref 0, .int 2, .int 3, .int v] (MW (Int32.ofNat n) (Int32.ofNat vs) wo un h bo ta tr ro ot Bm bk) (some (.int (Bm 6 2 7))) (MW (Int32.ofNat n) (Int32.ofNat vs) wo un h bo ta tr ro ot (up Bm 6 (up (Bm 6) 2 (up (Bm 6 2) 7 v))) bk) := by
  refine PX3_needs (Nat.le_of_ble_eq_true rfl) ?_
  intro G hT hC hR
  refine mB hT 2 rfl ?_
  refine hC.1 _ 0 [_] _ _ _ _ _ (m_isMaking_t (i := 2) hi hn) rfl rfl (Nat.le_of_ble_eq_true rfl) rfl ?_
  refine mB hT 3 rfl ?_
  refine hC.2.1 _ 0 [_] _ _ _ _ _ (m_isMaking_t (i := 3) hj hn) rfl rfl (Nat.le_of_ble_eq_true rfl) rfl ?_
  refine mB hT 4 rfl ?_
  refine hC.2.2 _ [_, _, _] _ _ _ _ (m_in_t h1 h2) rfl (Nat.le_of_ble_eq_true rfl) rfl ?_
  refine mB hT 20 rfl ?_
  exact hR _ (by decide) _ _ _ rfl rfl
set_option maxRecDepth 20000 in
theorem m_needs_3_0 {n vs : Nat} {wo un h : Int64} {bo : Nat → Int32} {ta tr ro ot : Nat → Int64} {Bm : Nat → Nat → Nat → Int32} {bk : Nat → Nat → Int32} (hi : 3 < n) (hj : 0 < n) (hn : n ≤ 4) {v : Int32} (h1 : 0 ≤ v) (h2 : v ≤ 6) : KX3_needs l D ca ad [.ref 0, .int 3, .int 0, .int v] (MW (Int32.ofNat n) (Int32.ofNat vs) wo un h bo ta tr ro ot Bm bk) (some (.int (Bm 6 3 4))) (MW (Int32.ofNat n) (Int32.ofNat vs) wo un h bo ta tr ro ot (up Bm 6 (up (Bm 6) 3 (up (Bm 6 3) 4 v))) bk) := by
  refine PX3_needs (Nat.le_of_ble_eq_true rfl) ?_
  intro G hT hC hR
  refine mB hT 2 rfl ?_
  refine hC.1 _ 0 [_] _ _ _ _ _ (m_isMaking_t (i := 3) hi hn) rfl rfl (Nat.le_of_ble_eq_true rfl) rfl ?_
  refine mB hT 3 rfl ?_
  refine hC.2.1 _ 0 [_] _ _ _ _ _ (m_isMaking_t (i := 0) hj hn) rfl rfl (Nat.le_of_ble_eq_true rfl) rfl ?_
  refine mB hT 4 rfl ?_
  refine hC.2.2 _ [_, _, _] _ _ _ _ (m_in_t h1 h2) rfl (Nat.le_of_ble_eq_true rfl) rfl ?_
  refine mB hT 20 rfl ?_
  exact hR _ (by decide) _ _ _ rfl rfl
set_option maxRecDepth 20000 in
theorem m_needs_3_1 {n vs : Nat} {wo un h : Int64} {bo : Nat → Int32} {ta tr ro ot : Nat → Int64} {Bm : Nat → Nat → Nat → Int32} {bk : Nat → Nat → Int32} (hi : 3 < n) (hj : 1 < n) (hn : n ≤ 4) {v : Int32} (h1 : 0 ≤ v) (h2 : v ≤ 6) : KX3_needs l D ca ad [.ref 0, .int 3, .int 1, .int v] (MW (Int32.ofNat n) (Int32.ofNat vs) wo un h bo ta tr ro ot Bm bk) (some (.int (Bm 6 3 5))) (MW (Int32.ofNat n) (Int32.ofNat vs) wo un h bo ta tr ro ot (up Bm 6 (up (Bm 6) 3 (up (Bm 6 3) 5 v))) bk) := by
  refine PX3_needs (Nat.le_of_ble_eq_true rfl) ?_
  intro G hT hC hR
  refine mB hT 2 rfl ?_
  refine hC.1 _ 0 [_] _ _ _ _ _ (m_isMaking_t (i := 3) hi hn) rfl rfl (Nat.le_of_ble_eq_true rfl) rfl ?_
  refine mB hT 3 rfl ?_
  refine hC.2.1 _ 0 [_] _ _ _ _ _ (m_isMaking_t (i := 1) hj hn) rfl rfl (Nat.le_of_ble_eq_true rfl) rfl ?_
  refine mB hT 4 rfl ?_
  refine hC.2.2 _ [_, _, _] _ _ _ _ (m_in_t h1 h2) rfl (Nat.le_of_ble_eq_true rfl) rfl ?_
  refine mB hT 20 rfl ?_
  exact hR _ (by decide) _ _ _ rfl rfl
set_option maxRecDepth 20000 in
theorem m_needs_3_2 {n vs : Nat} {wo un h : Int64} {bo : Nat → Int32} {ta tr ro ot : Nat → Int64} {Bm : Nat → Nat → Nat → Int32} {bk : Nat → Nat → Int32} (hi : 3 < n) (hj : 2 < n) (hn : n ≤ 4) {v : Int32} (h1 : 0 ≤ v) (h2 : v ≤ 6) : KX3_needs l D ca ad [.ref 0, .int 3, .int 2, .int v] (MW (Int32.ofNat n) (Int32.ofNat vs) wo un h bo ta tr ro ot Bm bk) (some (.int (Bm 6 3 6))) (MW (Int32.ofNat n) (Int32.ofNat vs) wo un h bo ta tr ro ot (up Bm 6 (up (Bm 6) 3 (up (Bm 6 3) 6 v))) bk) := by
  refine PX3_needs (Nat.le_of_ble_eq_true rfl) ?_
  intro G hT hC hR
  refine mB hT 2 rfl ?_
  refine hC.1 _ 0 [_] _ _ _ _ _ (m_isMaking_t (i := 3) hi hn) rfl rfl (Nat.le_of_ble_eq_true rfl) rfl ?_
  refine mB hT 3 rfl ?_
  refine hC.2.1 _ 0 [_] _ _ _ _ _ (m_isMaking_t (i := 2) hj hn) rfl rfl (Nat.le_of_ble_eq_true rfl) rfl ?_
  refine mB hT 4 rfl ?_
  refine hC.2.2 _ [_, _, _] _ _ _ _ (m_in_t h1 h2) rfl (Nat.le_of_ble_eq_true rfl) rfl ?_
  refine mB hT 20 rfl ?_
  exact hR _ (by decide) _ _ _ rfl rfl
set_option maxRecDepth 20000 in
theorem m_needs_3_3 {n vs : Nat} {wo un h : Int64} {bo : Nat → Int32} {ta tr ro ot : Nat → Int64} {Bm : Nat → Nat → Nat → Int32} {bk : Nat → Nat → Int32} (hi : 3 < n) (hj : 3 < n) (hn : n ≤ 4) {v : Int32} (h1 : 0 ≤ v) (h2 : v ≤ 6) : KX3_needs l D ca ad [.ref 0, .int 3, .int 3, .int v] (MW (Int32.ofNat n) (Int32.ofNat vs) wo un h bo ta tr ro ot Bm bk) (some (.int (Bm 6 3 7))) (MW (Int32.ofNat n) (Int32.ofNat vs) wo un h bo ta tr ro ot (up Bm 6 (up (Bm 6) 3 (up (Bm 6 3) 7 v))) bk) := by
  refine PX3_needs (Nat.le_of_ble_eq_true rfl) ?_
  intro G hT hC hR
  refine mB hT 2 rfl ?_
  refine hC.1 _ 0 [_] _ _ _ _ _ (m_isMaking_t (i := 3) hi hn) rfl rfl (Nat.le_of_ble_eq_true rfl) rfl ?_
  refine mB hT 3 rfl ?_
  refine hC.2.1 _ 0 [_] _ _ _ _ _ (m_isMaking_t (i := 3) hj hn) rfl rfl (Nat.le_of_ble_eq_true rfl) rfl ?_
  refine mB hT 4 rfl ?_
  refine hC.2.2 _ [_, _, _] _ _ _ _ (m_in_t h1 h2) rfl (Nat.le_of_ble_eq_true rfl) rfl ?_
  refine mB hT 20 rfl ?_
  exact hR _ (by decide) _ _ _ rfl rfl
theorem m_needs {n vs : Nat} {wo un h : Int64} {bo : Nat → Int32} {ta tr ro ot : Nat → Int64} {Bm : Nat → Nat → Nat → Int32} {bk : Nat → Nat → Int32} {i j : Nat} (hi : i < n) (hj : j < n) (hn : n ≤ 4) {v : Int32} (h1 : 0 ≤ v) (h2 : v ≤ 6) : KX3_needs l D ca ad [.ref 0, .int (Int32.ofNat i), .int (Int32.ofNat j), .int v] (MW (Int32.ofNat n) (Int32.ofNat vs) wo un h bo ta tr ro ot Bm bk) (some (.int (Bm 6 i (4 + j)))) (MW (Int32.ofNat n) (Int32.ofNat vs) wo un h bo ta tr ro ot (up Bm 6 (up (Bm 6) i (up (Bm 6 i) (4 + j) v))) bk) := by
  match i, hi, j, hj with
  | 0, hi, 0, hj => exact m_needs_0_0 hi hj hn h1 h2
  | 0, hi, 1, hj => exact m_needs_0_1 hi hj hn h1 h2
  | 0, hi, 2, hj => exact m_needs_0_2 hi hj hn h1 h2
  | 0, hi, 3, hj => exact m_needs_0_3 hi hj hn h1 h2
  | 1, hi, 0, hj => exact m_needs_1_0 hi hj hn h1 h2
  | 1, hi, 1, hj => exact m_needs_1_1 hi hj hn h1 h2
  | 1, hi, 2, hj => exact m_needs_1_2 hi hj hn h1 h2
  | 1, hi, 3, hj => exact m_needs_1_3 hi hj hn h1 h2
  | 2, hi, 0, hj => exact m_needs_2_0 hi hj hn h1 h2
  | 2, hi, 1, hj => exact m_needs_2_1 hi hj hn h1 h2
  | 2, hi, 2, hj => exact m_needs_2_2 hi hj hn h1 h2
  | 2, hi, 3, hj => exact m_needs_2_3 hi hj hn h1 h2
  | 3, hi, 0, hj => exact m_needs_3_0 hi hj hn h1 h2
  | 3, hi, 1, hj => exact m_needs_3_1 hi hj hn h1 h2
  | 3, hi, 2, hj => exact m_needs_3_2 hi hj hn h1 h2
  | 3, hi, 3, hj => exact m_needs_3_3 hi hj hn h1 h2
  | i + 4, hi, _, _ => omega
  | _, _, j + 4, hj => omega
set_option maxRecDepth 20000 in
theorem m_by_0_1 {n vs : Nat} {wo un h : Int64} {bo : Nat → Int32} {ta tr ro ot : Nat → Int64} {Bm : Nat → Nat → Nat → Int32} {bk : Nat → Nat → Int32} (hi : 0 < n) (hj : 1 < n) (hn : n ≤ 4) {v : Int32} (h1 : 0 ≤ v) (h2 : v ≤ 6) : KX3_by l D ca ad [.ref 0, .int 0, .int 1, .int v] (MW (Int32.ofNat n) (Int32.ofNat vs) wo un h bo ta tr ro ot Bm bk) (some (.int (Bm 6 0 9))) (MW (Int32.ofNat n) (Int32.ofNat vs) wo un h bo ta tr ro ot (up Bm 6 (up (Bm 6) 0 (up (Bm 6 0) 9 v))) bk) := by
  refine PX3_by (Nat.le_of_ble_eq_true rfl) ?_
  intro G hT hC hR
  refine mB hT 2 rfl ?_
  refine hC.1 _ 0 [_] _ _ _ _ _ (m_isMaking_t (i := 0) hi hn) rfl rfl (Nat.le_of_ble_eq_true rfl) rfl ?_
  refine mB hT 3 rfl ?_
  refine hC.2.1 _ 0 [_] _ _ _ _ _ (m_isMaking_t (i := 1) hj hn) rfl rfl (Nat.le_of_ble_eq_true rfl) rfl ?_
  refine mB hT 4 rfl ?_
  refine hC.2.2 _ [_, _, _] _ _ _ _ (m_in_t h1 h2) rfl (Nat.le_of_ble_eq_true rfl) rfl ?_
  refine mB hT 23 rfl ?_
  exact hR _ (by decide) _ _ _ rfl rfl
set_option maxRecDepth 20000 in
theorem m_by_0_2 {n vs : Nat} {wo un h : Int64} {bo : Nat → Int32} {ta tr ro ot : Nat → Int64} {Bm : Nat → Nat → Nat → Int32} {bk : Nat → Nat → Int32} (hi : 0 < n) (hj : 2 < n) (hn : n ≤ 4) {v : Int32} (h1 : 0 ≤ v) (h2 : v ≤ 6) : KX3_by l D ca ad [.ref 0, .int 0, .int 2, .int v] (MW (Int32.ofNat n) (Int32.ofNat vs) wo un h bo ta tr ro ot Bm bk) (some (.int (Bm 6 0 10))) (MW (Int32.ofNat n) (Int32.ofNat vs) wo un h bo ta tr ro ot (up Bm 6 (up (Bm 6) 0 (up (Bm 6 0) 10 v))) bk) := by
  refine PX3_by (Nat.le_of_ble_eq_true rfl) ?_
  intro G hT hC hR
  refine mB hT 2 rfl ?_
  refine hC.1 _ 0 [_] _ _ _ _ _ (m_isMaking_t (i := 0) hi hn) rfl rfl (Nat.le_of_ble_eq_true rfl) rfl ?_
  refine mB hT 3 rfl ?_
  refine hC.2.1 _ 0 [_] _ _ _ _ _ (m_isMaking_t (i := 2) hj hn) rfl rfl (Nat.le_of_ble_eq_true rfl) rfl ?_
  refine mB hT 4 rfl ?_
  refine hC.2.2 _ [_, _, _] _ _ _ _ (m_in_t h1 h2) rfl (Nat.le_of_ble_eq_true rfl) rfl ?_
  refine mB hT 23 rfl ?_
  exact hR _ (by decide) _ _ _ rfl rfl
set_option maxRecDepth 20000 in
theorem m_by_0_3 {n vs : Nat} {wo un h : Int64} {bo : Nat → Int32} {ta tr ro ot : Nat → Int64} {Bm : Nat → Nat → Nat → Int32} {bk : Nat → Nat → Int32} (hi : 0 < n) (hj : 3 < n) (hn : n ≤ 4) {v : Int32} (h1 : 0 ≤ v) (h2 : v ≤ 6) : KX3_by l D ca ad [.ref 0, .int 0, .int 3, .int v] (MW (Int32.ofNat n) (Int32.ofNat vs) wo un h bo ta tr ro ot Bm bk) (some (.int (Bm 6 0 11))) (MW (Int32.ofNat n) (Int32.ofNat vs) wo un h bo ta tr ro ot (up Bm 6 (up (Bm 6) 0 (up (Bm 6 0) 11 v))) bk) := by
  refine PX3_by (Nat.le_of_ble_eq_true rfl) ?_
  intro G hT hC hR
  refine mB hT 2 rfl ?_
  refine hC.1 _ 0 [_] _ _ _ _ _ (m_isMaking_t (i := 0) hi hn) rfl rfl (Nat.le_of_ble_eq_true rfl) rfl ?_
  refine mB hT 3 rfl ?_
  refine hC.2.1 _ 0 [_] _ _ _ _ _ (m_isMaking_t (i := 3) hj hn) rfl rfl (Nat.le_of_ble_eq_true rfl) rfl ?_
  refine mB hT 4 rfl ?_
  refine hC.2.2 _ [_, _, _] _ _ _ _ (m_in_t h1 h2) rfl (Nat.le_of_ble_eq_true rfl) rfl ?_
  refine mB hT 23 rfl ?_
  exact hR _ (by decide) _ _ _ rfl rfl
set_option maxRecDepth 20000 in
theorem m_by_1_0 {n vs : Nat} {wo un h : Int64} {bo : Nat → Int32} {ta tr ro ot : Nat → Int64} {Bm : Nat → Nat → Nat → Int32} {bk : Nat → Nat → Int32} (hi : 1 < n) (hj : 0 < n) (hn : n ≤ 4) {v : Int32} (h1 : 0 ≤ v) (h2 : v ≤ 6) : KX3_by l D ca ad [.ref 0, .int 1, .int 0, .int v] (MW (Int32.ofNat n) (Int32.ofNat vs) wo un h bo ta tr ro ot Bm bk) (some (.int (Bm 6 1 8))) (MW (Int32.ofNat n) (Int32.ofNat vs) wo un h bo ta tr ro ot (up Bm 6 (up (Bm 6) 1 (up (Bm 6 1) 8 v))) bk) := by
  refine PX3_by (Nat.le_of_ble_eq_true rfl) ?_
  intro G hT hC hR
  refine mB hT 2 rfl ?_
  refine hC.1 _ 0 [_] _ _ _ _ _ (m_isMaking_t (i := 1) hi hn) rfl rfl (Nat.le_of_ble_eq_true rfl) rfl ?_
  refine mB hT 3 rfl ?_
  refine hC.2.1 _ 0 [_] _ _ _ _ _ (m_isMaking_t (i := 0) hj hn) rfl rfl (Nat.le_of_ble_eq_true rfl) rfl ?_
  refine mB hT 4 rfl ?_
  refine hC.2.2 _ [_, _, _] _ _ _ _ (m_in_t h1 h2) rfl (Nat.le_of_ble_eq_true rfl) rfl ?_
  refine mB hT 23 rfl ?_
  exact hR _ (by decide) _ _ _ rfl rfl
set_option maxRecDepth 20000 in
theorem m_by_1_2 {n vs : Nat} {wo un h : Int64} {bo : Nat → Int32} {ta tr ro ot : Nat → Int64} {Bm : Nat → Nat → Nat → Int32} {bk : Nat → Nat → Int32} (hi : 1 < n) (hj : 2 < n) (hn : n ≤ 4) {v : Int32} (h1 : 0 ≤ v) (h2 : v ≤ 6) : KX3_by l D ca ad [.ref 0, .int 1, .int 2, .int v] (MW (Int32.ofNat n) (Int32.ofNat vs) wo un h bo ta tr ro ot Bm bk) (some (.int (Bm 6 1 10))) (MW (Int32.ofNat n) (Int32.ofNat vs) wo un h bo ta tr ro ot (up Bm 6 (up (Bm 6) 1 (up (Bm 6 1) 10 v))) bk) := by
  refine PX3_by (Nat.le_of_ble_eq_true rfl) ?_
  intro G hT hC hR
  refine mB hT 2 rfl ?_
  refine hC.1 _ 0 [_] _ _ _ _ _ (m_isMaking_t (i := 1) hi hn) rfl rfl (Nat.le_of_ble_eq_true rfl) rfl ?_
  refine mB hT 3 rfl ?_
  refine hC.2.1 _ 0 [_] _ _ _ _ _ (m_isMaking_t (i := 2) hj hn) rfl rfl (Nat.le_of_ble_eq_true rfl) rfl ?_
  refine mB hT 4 rfl ?_
  refine hC.2.2 _ [_, _, _] _ _ _ _ (m_in_t h1 h2) rfl (Nat.le_of_ble_eq_true rfl) rfl ?_
  refine mB hT 23 rfl ?_
  exact hR _ (by decide) _ _ _ rfl rfl
set_option maxRecDepth 20000 in
theorem m_by_1_3 {n vs : Nat} {wo un h : Int64} {bo : Nat → Int32} {ta tr ro ot : Nat → Int64} {Bm : Nat → Nat → Nat → Int32} {bk : Nat → Nat → Int32} (hi : 1 < n) (hj : 3 < n) (hn : n ≤ 4) {v : Int32} (h1 : 0 ≤ v) (h2 : v ≤ 6) : KX3_by l D ca ad [.ref 0, .int 1, .int 3, .int v] (MW (Int32.ofNat n) (Int32.ofNat vs) wo un h bo ta tr ro ot Bm bk) (some (.int (Bm 6 1 11))) (MW (Int32.ofNat n) (Int32.ofNat vs) wo un h bo ta tr ro ot (up Bm 6 (up (Bm 6) 1 (up (Bm 6 1) 11 v))) bk) := by
  refine PX3_by (Nat.le_of_ble_eq_true rfl) ?_
  intro G hT hC hR
  refine mB hT 2 rfl ?_
  refine hC.1 _ 0 [_] _ _ _ _ _ (m_isMaking_t (i := 1) hi hn) rfl rfl (Nat.le_of_ble_eq_true rfl) rfl ?_
  refine mB hT 3 rfl ?_
  refine hC.2.1 _ 0 [_] _ _ _ _ _ (m_isMaking_t (i := 3) hj hn) rfl rfl (Nat.le_of_ble_eq_true rfl) rfl ?_
  refine mB hT 4 rfl ?_
  refine hC.2.2 _ [_, _, _] _ _ _ _ (m_in_t h1 h2) rfl (Nat.le_of_ble_eq_true rfl) rfl ?_
  refine mB hT 23 rfl ?_
  exact hR _ (by decide) _ _ _ rfl rfl
set_option maxRecDepth 20000 in
theorem m_by_2_0 {n vs : Nat} {wo un h : Int64} {bo : Nat → Int32} {ta tr ro ot : Nat → Int64} {Bm : Nat → Nat → Nat → Int32} {bk : Nat → Nat → Int32} (hi : 2 < n) (hj : 0 < n) (hn : n ≤ 4) {v : Int32} (h1 : 0 ≤ v) (h2 : v ≤ 6) : KX3_by l D ca ad [.ref 0, .int 2, .int 0, .int v] (MW (Int32.ofNat n) (Int32.ofNat vs) wo un h bo ta tr ro ot Bm bk) (some (.int (Bm 6 2 8))) (MW (Int32.ofNat n) (Int32.ofNat vs) wo un h bo ta tr ro ot (up Bm 6 (up (Bm 6) 2 (up (Bm 6 2) 8 v))) bk) := by
  refine PX3_by (Nat.le_of_ble_eq_true rfl) ?_
  intro G hT hC hR
  refine mB hT 2 rfl ?_
  refine hC.1 _ 0 [_] _ _ _ _ _ (m_isMaking_t (i := 2) hi hn) rfl rfl (Nat.le_of_ble_eq_true rfl) rfl ?_
  refine mB hT 3 rfl ?_
  refine hC.2.1 _ 0 [_] _ _ _ _ _ (m_isMaking_t (i := 0) hj hn) rfl rfl (Nat.le_of_ble_eq_true rfl) rfl ?_
  refine mB hT 4 rfl ?_
  refine hC.2.2 _ [_, _, _] _ _ _ _ (m_in_t h1 h2) rfl (Nat.le_of_ble_eq_true rfl) rfl ?_
  refine mB hT 23 rfl ?_
  exact hR _ (by decide) _ _ _ rfl rfl
set_option maxRecDepth 20000 in
theorem m_by_2_1 {n vs : Nat} {wo un h : Int64} {bo : Nat → Int32} {ta tr ro ot : Nat → Int64} {Bm : Nat → Nat → Nat → Int32} {bk : Nat → Nat → Int32} (hi : 2 < n) (hj : 1 < n) (hn : n ≤ 4) {v : Int32} (h1 : 0 ≤ v) (h2 : v ≤ 6) : KX3_by l D ca ad [.ref 0, .int 2, .int 1, .int v] (MW (Int32.ofNat n) (Int32.ofNat vs) wo un h bo ta tr ro ot Bm bk) (some (.int (Bm 6 2 9))) (MW (Int32.ofNat n) (Int32.ofNat vs) wo un h bo ta tr ro ot (up Bm 6 (up (Bm 6) 2 (up (Bm 6 2) 9 v))) bk) := by
  refine PX3_by (Nat.le_of_ble_eq_true rfl) ?_
  intro G hT hC hR
  refine mB hT 2 rfl ?_
  refine hC.1 _ 0 [_] _ _ _ _ _ (m_isMaking_t (i := 2) hi hn) rfl rfl (Nat.le_of_ble_eq_true rfl) rfl ?_
  refine mB hT 3 rfl ?_
  refine hC.2.1 _ 0 [_] _ _ _ _ _ (m_isMaking_t (i := 1) hj hn) rfl rfl (Nat.le_of_ble_eq_true rfl) rfl ?_
  refine mB hT 4 rfl ?_
  refine hC.2.2 _ [_, _, _] _ _ _ _ (m_in_t h1 h2) rfl (Nat.le_of_ble_eq_true rfl) rfl ?_
  refine mB hT 23 rfl ?_
  exact hR _ (by decide) _ _ _ rfl rfl
set_option maxRecDepth 20000 in
theorem m_by_2_3 {n vs : Nat} {wo un h : Int64} {bo : Nat → Int32} {ta tr ro ot : Nat → Int64} {Bm : Nat → Nat → Nat → Int32} {bk : Nat → Nat → Int32} (hi : 2 < n) (hj : 3 < n) (hn : n ≤ 4) {v : Int32} (h1 : 0 ≤ v) (h2 : v ≤ 6) : KX3_by l D ca ad [.ref 0, .int 2, .int 3, .int v] (MW (Int32.ofNat n) (Int32.ofNat vs) wo un h bo ta tr ro ot Bm bk) (some (.int (Bm 6 2 11))) (MW (Int32.ofNat n) (Int32.ofNat vs) wo un h bo ta tr ro ot (up Bm 6 (up (Bm 6) 2 (up (Bm 6 2) 11 v))) bk) := by
  refine PX3_by (Nat.le_of_ble_eq_true rfl) ?_
  intro G hT hC hR
  refine mB hT 2 rfl ?_
  refine hC.1 _ 0 [_] _ _ _ _ _ (m_isMaking_t (i := 2) hi hn) rfl rfl (Nat.le_of_ble_eq_true rfl) rfl ?_
  refine mB hT 3 rfl ?_
  refine hC.2.1 _ 0 [_] _ _ _ _ _ (m_isMaking_t (i := 3) hj hn) rfl rfl (Nat.le_of_ble_eq_true rfl) rfl ?_
  refine mB hT 4 rfl ?_
  refine hC.2.2 _ [_, _, _] _ _ _ _ (m_in_t h1 h2) rfl (Nat.le_of_ble_eq_true rfl) rfl ?_
  refine mB hT 23 rfl ?_
  exact hR _ (by decide) _ _ _ rfl rfl
set_option maxRecDepth 20000 in
theorem m_by_3_0 {n vs : Nat} {wo un h : Int64} {bo : Nat → Int32} {ta tr ro ot : Nat → Int64} {Bm : Nat → Nat → Nat → Int32} {bk : Nat → Nat → Int32} (hi : 3 < n) (hj : 0 < n) (hn : n ≤ 4) {v : Int32} (h1 : 0 ≤ v) (h2 : v ≤ 6) : KX3_by l D ca ad [.ref 0, .int 3, .int 0, .int v] (MW (Int32.ofNat n) (Int32.ofNat vs) wo un h bo ta tr ro ot Bm bk) (some (.int (Bm 6 3 8))) (MW (Int32.ofNat n) (Int32.ofNat vs) wo un h bo ta tr ro ot (up Bm 6 (up (Bm 6) 3 (up (Bm 6 3) 8 v))) bk) := by
  refine PX3_by (Nat.le_of_ble_eq_true rfl) ?_
  intro G hT hC hR
  refine mB hT 2 rfl ?_
  refine hC.1 _ 0 [_] _ _ _ _ _ (m_isMaking_t (i := 3) hi hn) rfl rfl (Nat.le_of_ble_eq_true rfl) rfl ?_
  refine mB hT 3 rfl ?_
  refine hC.2.1 _ 0 [_] _ _ _ _ _ (m_isMaking_t (i := 0) hj hn) rfl rfl (Nat.le_of_ble_eq_true rfl) rfl ?_
  refine mB hT 4 rfl ?_
  refine hC.2.2 _ [_, _, _] _ _ _ _ (m_in_t h1 h2) rfl (Nat.le_of_ble_eq_true rfl) rfl ?_
  refine mB hT 23 rfl ?_
  exact hR _ (by decide) _ _ _ rfl rfl
set_option maxRecDepth 20000 in
theorem m_by_3_1 {n vs : Nat} {wo un h : Int64} {bo : Nat → Int32} {ta tr ro ot : Nat → Int64} {Bm : Nat → Nat → Nat → Int32} {bk : Nat → Nat → Int32} (hi : 3 < n) (hj : 1 < n) (hn : n ≤ 4) {v : Int32} (h1 : 0 ≤ v) (h2 : v ≤ 6) : KX3_by l D ca ad [.ref 0, .int 3, .int 1, .int v] (MW (Int32.ofNat n) (Int32.ofNat vs) wo un h bo ta tr ro ot Bm bk) (some (.int (Bm 6 3 9))) (MW (Int32.ofNat n) (Int32.ofNat vs) wo un h bo ta tr ro ot (up Bm 6 (up (Bm 6) 3 (up (Bm 6 3) 9 v))) bk) := by
  refine PX3_by (Nat.le_of_ble_eq_true rfl) ?_
  intro G hT hC hR
  refine mB hT 2 rfl ?_
  refine hC.1 _ 0 [_] _ _ _ _ _ (m_isMaking_t (i := 3) hi hn) rfl rfl (Nat.le_of_ble_eq_true rfl) rfl ?_
  refine mB hT 3 rfl ?_
  refine hC.2.1 _ 0 [_] _ _ _ _ _ (m_isMaking_t (i := 1) hj hn) rfl rfl (Nat.le_of_ble_eq_true rfl) rfl ?_
  refine mB hT 4 rfl ?_
  refine hC.2.2 _ [_, _, _] _ _ _ _ (m_in_t h1 h2) rfl (Nat.le_of_ble_eq_true rfl) rfl ?_
  refine mB hT 23 rfl ?_
  exact hR _ (by decide) _ _ _ rfl rfl
set_option maxRecDepth 20000 in
theorem m_by_3_2 {n vs : Nat} {wo un h : Int64} {bo : Nat → Int32} {ta tr ro ot : Nat → Int64} {Bm : Nat → Nat → Nat → Int32} {bk : Nat → Nat → Int32} (hi : 3 < n) (hj : 2 < n) (hn : n ≤ 4) {v : Int32} (h1 : 0 ≤ v) (h2 : v ≤ 6) : KX3_by l D ca ad [.ref 0, .int 3, .int 2, .int v] (MW (Int32.ofNat n) (Int32.ofNat vs) wo un h bo ta tr ro ot Bm bk) (some (.int (Bm 6 3 10))) (MW (Int32.ofNat n) (Int32.ofNat vs) wo un h bo ta tr ro ot (up Bm 6 (up (Bm 6) 3 (up (Bm 6 3) 10 v))) bk) := by
  refine PX3_by (Nat.le_of_ble_eq_true rfl) ?_
  intro G hT hC hR
  refine mB hT 2 rfl ?_
  refine hC.1 _ 0 [_] _ _ _ _ _ (m_isMaking_t (i := 3) hi hn) rfl rfl (Nat.le_of_ble_eq_true rfl) rfl ?_
  refine mB hT 3 rfl ?_
  refine hC.2.1 _ 0 [_] _ _ _ _ _ (m_isMaking_t (i := 2) hj hn) rfl rfl (Nat.le_of_ble_eq_true rfl) rfl ?_
  refine mB hT 4 rfl ?_
  refine hC.2.2 _ [_, _, _] _ _ _ _ (m_in_t h1 h2) rfl (Nat.le_of_ble_eq_true rfl) rfl ?_
  refine mB hT 23 rfl ?_
  exact hR _ (by decide) _ _ _ rfl rfl
theorem m_by {n vs : Nat} {wo un h : Int64} {bo : Nat → Int32} {ta tr ro ot : Nat → Int64} {Bm : Nat → Nat → Nat → Int32} {bk : Nat → Nat → Int32} {i j : Nat} (hi : i < n) (hj : j < n) (hn : n ≤ 4) (hne : i ≠ j) {v : Int32} (h1 : 0 ≤ v) (h2 : v ≤ 6) : KX3_by l D ca ad [.ref 0, .int (Int32.ofNat i), .int (Int32.ofNat j), .int v] (MW (Int32.ofNat n) (Int32.ofNat vs) wo un h bo ta tr ro ot Bm bk) (some (.int (Bm 6 i (8 + j)))) (MW (Int32.ofNat n) (Int32.ofNat vs) wo un h bo ta tr ro ot (up Bm 6 (up (Bm 6) i (up (Bm 6 i) (8 + j) v))) bk) := by
  match i, hi, j, hj, hne with
  | 0, _, 0, _, hne => exact absurd rfl hne
  | 0, hi, 1, hj, _ => exact m_by_0_1 hi hj hn h1 h2
  | 0, hi, 2, hj, _ => exact m_by_0_2 hi hj hn h1 h2
  | 0, hi, 3, hj, _ => exact m_by_0_3 hi hj hn h1 h2
  | 1, hi, 0, hj, _ => exact m_by_1_0 hi hj hn h1 h2
  | 1, _, 1, _, hne => exact absurd rfl hne
  | 1, hi, 2, hj, _ => exact m_by_1_2 hi hj hn h1 h2
  | 1, hi, 3, hj, _ => exact m_by_1_3 hi hj hn h1 h2
  | 2, hi, 0, hj, _ => exact m_by_2_0 hi hj hn h1 h2
  | 2, hi, 1, hj, _ => exact m_by_2_1 hi hj hn h1 h2
  | 2, _, 2, _, hne => exact absurd rfl hne
  | 2, hi, 3, hj, _ => exact m_by_2_3 hi hj hn h1 h2
  | 3, hi, 0, hj, _ => exact m_by_3_0 hi hj hn h1 h2
  | 3, hi, 1, hj, _ => exact m_by_3_1 hi hj hn h1 h2
  | 3, hi, 2, hj, _ => exact m_by_3_2 hi hj hn h1 h2
  | 3, _, 3, _, hne => exact absurd rfl hne
  | i + 4, hi, _, _, _ => omega
  | _, _, j + 4, hj, _ => omega
set_option maxRecDepth 20000 in
theorem m_emits_0_0 {n vs : Nat} {wo un h : Int64} {bo : Nat → Int32} {ta tr ro ot : Nat → Int64} {Bm : Nat → Nat → Nat → Int32} {bk : Nat → Nat → Int32} (hi : 0 < n) (hn : n ≤ 4) {a t g : Int32} (h1 : 0 ≤ a) (h2 : a ≤ t) (h3 : t ≤ g) (h4 : g ≤ 100) : KX3_emits l D ca ad [.ref 0, .int 0, .int 0, .int a, .int t, .int g] (MW (Int32.ofNat n) (Int32.ofNat vs) wo un h bo ta tr ro ot Bm bk) (some (.int 1)) (MW (Int32.ofNat n) (Int32.ofNat vs) wo un h bo ta tr ro ot (up Bm 6 (up (Bm 6) 0 (up (up (up (Bm 6 0) 12 a) 15 t) 18 g))) bk) := by
  refine PX3_emits (Nat.le_of_ble_eq_true rfl) ?_
  intro G hT hC hR
  refine mB hT 2 rfl ?_
  refine hC.1 _ 0 [_] _ _ _ _ _ (m_isMaking_t (i := 0) hi hn) rfl rfl (Nat.le_of_ble_eq_true rfl) rfl ?_
  refine mB hT 2 rfl ?_
  refine hC.2 _ [_] _ _ _ _ (m_isStuff_t (i := 0) (by decide)) rfl (Nat.le_of_ble_eq_true rfl) rfl ?_
  refine mB hT 3 rfl ?_
  refine mIf (fun hp => absurd hp (Int32.not_lt.mpr h1)) (fun _ => ?_)
  refine mB hT 3 rfl ?_
  refine mIf (fun hp => absurd hp (Int32.not_lt.mpr h2)) (fun _ => ?_)
  refine mB hT 3 rfl ?_
  refine mIf (fun hp => absurd hp (Int32.not_lt.mpr h3)) (fun _ => ?_)
  refine mB hT 3 rfl ?_
  refine mIf (fun _ => ?_) (fun hn => absurd h4 hn)
  refine mB hT 27 rfl ?_
  refine mWd (w2 := (MW (Int32.ofNat n) (Int32.ofNat vs) wo un h bo ta tr ro ot (up Bm 6 (up (Bm 6) 0 (up (up (up (Bm 6 0) 12 a) 15 t) 18 g))) bk)) rfl ?_
  refine mB hT 1 rfl ?_
  exact hR _ (by decide) _ _ _ rfl rfl
set_option maxRecDepth 20000 in
theorem m_emits_0_1 {n vs : Nat} {wo un h : Int64} {bo : Nat → Int32} {ta tr ro ot : Nat → Int64} {Bm : Nat → Nat → Nat → Int32} {bk : Nat → Nat → Int32} (hi : 0 < n) (hn : n ≤ 4) {a t g : Int32} (h1 : 0 ≤ a) (h2 : a ≤ t) (h3 : t ≤ g) (h4 : g ≤ 100) : KX3_emits l D ca ad [.ref 0, .int 0, .int 1, .int a, .int t, .int g] (MW (Int32.ofNat n) (Int32.ofNat vs) wo un h bo ta tr ro ot Bm bk) (some (.int 1)) (MW (Int32.ofNat n) (Int32.ofNat vs) wo un h bo ta tr ro ot (up Bm 6 (up (Bm 6) 0 (up (up (up (Bm 6 0) 13 a) 16 t) 19 g))) bk) := by
  refine PX3_emits (Nat.le_of_ble_eq_true rfl) ?_
  intro G hT hC hR
  refine mB hT 2 rfl ?_
  refine hC.1 _ 0 [_] _ _ _ _ _ (m_isMaking_t (i := 0) hi hn) rfl rfl (Nat.le_of_ble_eq_true rfl) rfl ?_
  refine mB hT 2 rfl ?_
  refine hC.2 _ [_] _ _ _ _ (m_isStuff_t (i := 1) (by decide)) rfl (Nat.le_of_ble_eq_true rfl) rfl ?_
  refine mB hT 3 rfl ?_
  refine mIf (fun hp => absurd hp (Int32.not_lt.mpr h1)) (fun _ => ?_)
  refine mB hT 3 rfl ?_
  refine mIf (fun hp => absurd hp (Int32.not_lt.mpr h2)) (fun _ => ?_)
  refine mB hT 3 rfl ?_
  refine mIf (fun hp => absurd hp (Int32.not_lt.mpr h3)) (fun _ => ?_)
  refine mB hT 3 rfl ?_
  refine mIf (fun _ => ?_) (fun hn => absurd h4 hn)
  refine mB hT 27 rfl ?_
  refine mWd (w2 := (MW (Int32.ofNat n) (Int32.ofNat vs) wo un h bo ta tr ro ot (up Bm 6 (up (Bm 6) 0 (up (up (up (Bm 6 0) 13 a) 16 t) 19 g))) bk)) rfl ?_
  refine mB hT 1 rfl ?_
  exact hR _ (by decide) _ _ _ rfl rfl
set_option maxRecDepth 20000 in
theorem m_emits_0_2 {n vs : Nat} {wo un h : Int64} {bo : Nat → Int32} {ta tr ro ot : Nat → Int64} {Bm : Nat → Nat → Nat → Int32} {bk : Nat → Nat → Int32} (hi : 0 < n) (hn : n ≤ 4) {a t g : Int32} (h1 : 0 ≤ a) (h2 : a ≤ t) (h3 : t ≤ g) (h4 : g ≤ 100) : KX3_emits l D ca ad [.ref 0, .int 0, .int 2, .int a, .int t, .int g] (MW (Int32.ofNat n) (Int32.ofNat vs) wo un h bo ta tr ro ot Bm bk) (some (.int 1)) (MW (Int32.ofNat n) (Int32.ofNat vs) wo un h bo ta tr ro ot (up Bm 6 (up (Bm 6) 0 (up (up (up (Bm 6 0) 14 a) 17 t) 20 g))) bk) := by
  refine PX3_emits (Nat.le_of_ble_eq_true rfl) ?_
  intro G hT hC hR
  refine mB hT 2 rfl ?_
  refine hC.1 _ 0 [_] _ _ _ _ _ (m_isMaking_t (i := 0) hi hn) rfl rfl (Nat.le_of_ble_eq_true rfl) rfl ?_
  refine mB hT 2 rfl ?_
  refine hC.2 _ [_] _ _ _ _ (m_isStuff_t (i := 2) (by decide)) rfl (Nat.le_of_ble_eq_true rfl) rfl ?_
  refine mB hT 3 rfl ?_
  refine mIf (fun hp => absurd hp (Int32.not_lt.mpr h1)) (fun _ => ?_)
  refine mB hT 3 rfl ?_
  refine mIf (fun hp => absurd hp (Int32.not_lt.mpr h2)) (fun _ => ?_)
  refine mB hT 3 rfl ?_
  refine mIf (fun hp => absurd hp (Int32.not_lt.mpr h3)) (fun _ => ?_)
  refine mB hT 3 rfl ?_
  refine mIf (fun _ => ?_) (fun hn => absurd h4 hn)
  refine mB hT 27 rfl ?_
  refine mWd (w2 := (MW (Int32.ofNat n) (Int32.ofNat vs) wo un h bo ta tr ro ot (up Bm 6 (up (Bm 6) 0 (up (up (up (Bm 6 0) 14 a) 17 t) 20 g))) bk)) rfl ?_
  refine mB hT 1 rfl ?_
  exact hR _ (by decide) _ _ _ rfl rfl
set_option maxRecDepth 20000 in
theorem m_emits_1_0 {n vs : Nat} {wo un h : Int64} {bo : Nat → Int32} {ta tr ro ot : Nat → Int64} {Bm : Nat → Nat → Nat → Int32} {bk : Nat → Nat → Int32} (hi : 1 < n) (hn : n ≤ 4) {a t g : Int32} (h1 : 0 ≤ a) (h2 : a ≤ t) (h3 : t ≤ g) (h4 : g ≤ 100) : KX3_emits l D ca ad [.ref 0, .int 1, .int 0, .int a, .int t, .int g] (MW (Int32.ofNat n) (Int32.ofNat vs) wo un h bo ta tr ro ot Bm bk) (some (.int 1)) (MW (Int32.ofNat n) (Int32.ofNat vs) wo un h bo ta tr ro ot (up Bm 6 (up (Bm 6) 1 (up (up (up (Bm 6 1) 12 a) 15 t) 18 g))) bk) := by
  refine PX3_emits (Nat.le_of_ble_eq_true rfl) ?_
  intro G hT hC hR
  refine mB hT 2 rfl ?_
  refine hC.1 _ 0 [_] _ _ _ _ _ (m_isMaking_t (i := 1) hi hn) rfl rfl (Nat.le_of_ble_eq_true rfl) rfl ?_
  refine mB hT 2 rfl ?_
  refine hC.2 _ [_] _ _ _ _ (m_isStuff_t (i := 0) (by decide)) rfl (Nat.le_of_ble_eq_true rfl) rfl ?_
  refine mB hT 3 rfl ?_
  refine mIf (fun hp => absurd hp (Int32.not_lt.mpr h1)) (fun _ => ?_)
  refine mB hT 3 rfl ?_
  refine mIf (fun hp => absurd hp (Int32.not_lt.mpr h2)) (fun _ => ?_)
  refine mB hT 3 rfl ?_
  refine mIf (fun hp => absurd hp (Int32.not_lt.mpr h3)) (fun _ => ?_)
  refine mB hT 3 rfl ?_
  refine mIf (fun _ => ?_) (fun hn => absurd h4 hn)
  refine mB hT 27 rfl ?_
  refine mWd (w2 := (MW (Int32.ofNat n) (Int32.ofNat vs) wo un h bo ta tr ro ot (up Bm 6 (up (Bm 6) 1 (up (up (up (Bm 6 1) 12 a) 15 t) 18 g))) bk)) rfl ?_
  refine mB hT 1 rfl ?_
  exact hR _ (by decide) _ _ _ rfl rfl
set_option maxRecDepth 20000 in
theorem m_emits_1_1 {n vs : Nat} {wo un h : Int64} {bo : Nat → Int32} {ta tr ro ot : Nat → Int64} {Bm : Nat → Nat → Nat → Int32} {bk : Nat → Nat → Int32} (hi : 1 < n) (hn : n ≤ 4) {a t g : Int32} (h1 : 0 ≤ a) (h2 : a ≤ t) (h3 : t ≤ g) (h4 : g ≤ 100) : KX3_emits l D ca ad [.ref 0, .int 1, .int 1, .int a, .int t, .int g] (MW (Int32.ofNat n) (Int32.ofNat vs) wo un h bo ta tr ro ot Bm bk) (some (.int 1)) (MW (Int32.ofNat n) (Int32.ofNat vs) wo un h bo ta tr ro ot (up Bm 6 (up (Bm 6) 1 (up (up (up (Bm 6 1) 13 a) 16 t) 19 g))) bk) := by
  refine PX3_emits (Nat.le_of_ble_eq_true rfl) ?_
  intro G hT hC hR
  refine mB hT 2 rfl ?_
  refine hC.1 _ 0 [_] _ _ _ _ _ (m_isMaking_t (i := 1) hi hn) rfl rfl (Nat.le_of_ble_eq_true rfl) rfl ?_
  refine mB hT 2 rfl ?_
  refine hC.2 _ [_] _ _ _ _ (m_isStuff_t (i := 1) (by decide)) rfl (Nat.le_of_ble_eq_true rfl) rfl ?_
  refine mB hT 3 rfl ?_
  refine mIf (fun hp => absurd hp (Int32.not_lt.mpr h1)) (fun _ => ?_)
  refine mB hT 3 rfl ?_
  refine mIf (fun hp => absurd hp (Int32.not_lt.mpr h2)) (fun _ => ?_)
  refine mB hT 3 rfl ?_
  refine mIf (fun hp => absurd hp (Int32.not_lt.mpr h3)) (fun _ => ?_)
  refine mB hT 3 rfl ?_
  refine mIf (fun _ => ?_) (fun hn => absurd h4 hn)
  refine mB hT 27 rfl ?_
  refine mWd (w2 := (MW (Int32.ofNat n) (Int32.ofNat vs) wo un h bo ta tr ro ot (up Bm 6 (up (Bm 6) 1 (up (up (up (Bm 6 1) 13 a) 16 t) 19 g))) bk)) rfl ?_
  refine mB hT 1 rfl ?_
  exact hR _ (by decide) _ _ _ rfl rfl
set_option maxRecDepth 20000 in
theorem m_emits_1_2 {n vs : Nat} {wo un h : Int64} {bo : Nat → Int32} {ta tr ro ot : Nat → Int64} {Bm : Nat → Nat → Nat → Int32} {bk : Nat → Nat → Int32} (hi : 1 < n) (hn : n ≤ 4) {a t g : Int32} (h1 : 0 ≤ a) (h2 : a ≤ t) (h3 : t ≤ g) (h4 : g ≤ 100) : KX3_emits l D ca ad [.ref 0, .int 1, .int 2, .int a, .int t, .int g] (MW (Int32.ofNat n) (Int32.ofNat vs) wo un h bo ta tr ro ot Bm bk) (some (.int 1)) (MW (Int32.ofNat n) (Int32.ofNat vs) wo un h bo ta tr ro ot (up Bm 6 (up (Bm 6) 1 (up (up (up (Bm 6 1) 14 a) 17 t) 20 g))) bk) := by
  refine PX3_emits (Nat.le_of_ble_eq_true rfl) ?_
  intro G hT hC hR
  refine mB hT 2 rfl ?_
  refine hC.1 _ 0 [_] _ _ _ _ _ (m_isMaking_t (i := 1) hi hn) rfl rfl (Nat.le_of_ble_eq_true rfl) rfl ?_
  refine mB hT 2 rfl ?_
  refine hC.2 _ [_] _ _ _ _ (m_isStuff_t (i := 2) (by decide)) rfl (Nat.le_of_ble_eq_true rfl) rfl ?_
  refine mB hT 3 rfl ?_
  refine mIf (fun hp => absurd hp (Int32.not_lt.mpr h1)) (fun _ => ?_)
  refine mB hT 3 rfl ?_
  refine mIf (fun hp => absurd hp (Int32.not_lt.mpr h2)) (fun _ => ?_)
  refine mB hT 3 rfl ?_
  refine mIf (fun hp => absurd hp (Int32.not_lt.mpr h3)) (fun _ => ?_)
  refine mB hT 3 rfl ?_
  refine mIf (fun _ => ?_) (fun hn => absurd h4 hn)
  refine mB hT 27 rfl ?_
  refine mWd (w2 := (MW (Int32.ofNat n) (Int32.ofNat vs) wo un h bo ta tr ro ot (up Bm 6 (up (Bm 6) 1 (up (up (up (Bm 6 1) 14 a) 17 t) 20 g))) bk)) rfl ?_
  refine mB hT 1 rfl ?_
  exact hR _ (by decide) _ _ _ rfl rfl
set_option maxRecDepth 20000 in
theorem m_emits_2_0 {n vs : Nat} {wo un h : Int64} {bo : Nat → Int32} {ta tr ro ot : Nat → Int64} {Bm : Nat → Nat → Nat → Int32} {bk : Nat → Nat → Int32} (hi : 2 < n) (hn : n ≤ 4) {a t g : Int32} (h1 : 0 ≤ a) (h2 : a ≤ t) (h3 : t ≤ g) (h4 : g ≤ 100) : KX3_emits l D ca ad [.ref 0, .int 2, .int 0, .int a, .int t, .int g] (MW (Int32.ofNat n) (Int32.ofNat vs) wo un h bo ta tr ro ot Bm bk) (some (.int 1)) (MW (Int32.ofNat n) (Int32.ofNat vs) wo un h bo ta tr ro ot (up Bm 6 (up (Bm 6) 2 (up (up (up (Bm 6 2) 12 a) 15 t) 18 g))) bk) := by
  refine PX3_emits (Nat.le_of_ble_eq_true rfl) ?_
  intro G hT hC hR
  refine mB hT 2 rfl ?_
  refine hC.1 _ 0 [_] _ _ _ _ _ (m_isMaking_t (i := 2) hi hn) rfl rfl (Nat.le_of_ble_eq_true rfl) rfl ?_
  refine mB hT 2 rfl ?_
  refine hC.2 _ [_] _ _ _ _ (m_isStuff_t (i := 0) (by decide)) rfl (Nat.le_of_ble_eq_true rfl) rfl ?_
  refine mB hT 3 rfl ?_
  refine mIf (fun hp => absurd hp (Int32.not_lt.mpr h1)) (fun _ => ?_)
  refine mB hT 3 rfl ?_
  refine mIf (fun hp => absurd hp (Int32.not_lt.mpr h2)) (fun _ => ?_)
  refine mB hT 3 rfl ?_
  refine mIf (fun hp => absurd hp (Int32.not_lt.mpr h3)) (fun _ => ?_)
  refine mB hT 3 rfl ?_
  refine mIf (fun _ => ?_) (fun hn => absurd h4 hn)
  refine mB hT 27 rfl ?_
  refine mWd (w2 := (MW (Int32.ofNat n) (Int32.ofNat vs) wo un h bo ta tr ro ot (up Bm 6 (up (Bm 6) 2 (up (up (up (Bm 6 2) 12 a) 15 t) 18 g))) bk)) rfl ?_
  refine mB hT 1 rfl ?_
  exact hR _ (by decide) _ _ _ rfl rfl
set_option maxRecDepth 20000 in
theorem m_emits_2_1 {n vs : Nat} {wo un h : Int64} {bo : Nat → Int32} {ta tr ro ot : Nat → Int64} {Bm : Nat → Nat → Nat → Int32} {bk : Nat → Nat → Int32} (hi : 2 < n) (hn : n ≤ 4) {a t g : Int32} (h1 : 0 ≤ a) (h2 : a ≤ t) (h3 : t ≤ g) (h4 : g ≤ 100) : KX3_emits l D ca ad [.ref 0, .int 2, .int 1, .int a, .int t, .int g] (MW (Int32.ofNat n) (Int32.ofNat vs) wo un h bo ta tr ro ot Bm bk) (some (.int 1)) (MW (Int32.ofNat n) (Int32.ofNat vs) wo un h bo ta tr ro ot (up Bm 6 (up (Bm 6) 2 (up (up (up (Bm 6 2) 13 a) 16 t) 19 g))) bk) := by
  refine PX3_emits (Nat.le_of_ble_eq_true rfl) ?_
  intro G hT hC hR
  refine mB hT 2 rfl ?_
  refine hC.1 _ 0 [_] _ _ _ _ _ (m_isMaking_t (i := 2) hi hn) rfl rfl (Nat.le_of_ble_eq_true rfl) rfl ?_
  refine mB hT 2 rfl ?_
  refine hC.2 _ [_] _ _ _ _ (m_isStuff_t (i := 1) (by decide)) rfl (Nat.le_of_ble_eq_true rfl) rfl ?_
  refine mB hT 3 rfl ?_
  refine mIf (fun hp => absurd hp (Int32.not_lt.mpr h1)) (fun _ => ?_)
  refine mB hT 3 rfl ?_
  refine mIf (fun hp => absurd hp (Int32.not_lt.mpr h2)) (fun _ => ?_)
  refine mB hT 3 rfl ?_
  refine mIf (fun hp => absurd hp (Int32.not_lt.mpr h3)) (fun _ => ?_)
  refine mB hT 3 rfl ?_
  refine mIf (fun _ => ?_) (fun hn => absurd h4 hn)
  refine mB hT 27 rfl ?_
  refine mWd (w2 := (MW (Int32.ofNat n) (Int32.ofNat vs) wo un h bo ta tr ro ot (up Bm 6 (up (Bm 6) 2 (up (up (up (Bm 6 2) 13 a) 16 t) 19 g))) bk)) rfl ?_
  refine mB hT 1 rfl ?_
  exact hR _ (by decide) _ _ _ rfl rfl
set_option maxRecDepth 20000 in
theorem m_emits_2_2 {n vs : Nat} {wo un h : Int64} {bo : Nat → Int32} {ta tr ro ot : Nat → Int64} {Bm : Nat → Nat → Nat → Int32} {bk : Nat → Nat → Int32} (hi : 2 < n) (hn : n ≤ 4) {a t g : Int32} (h1 : 0 ≤ a) (h2 : a ≤ t) (h3 : t ≤ g) (h4 : g ≤ 100) : KX3_emits l D ca ad [.ref 0, .int 2, .int 2, .int a, .int t, .int g] (MW (Int32.ofNat n) (Int32.ofNat vs) wo un h bo ta tr ro ot Bm bk) (some (.int 1)) (MW (Int32.ofNat n) (Int32.ofNat vs) wo un h bo ta tr ro ot (up Bm 6 (up (Bm 6) 2 (up (up (up (Bm 6 2) 14 a) 17 t) 20 g))) bk) := by
  refine PX3_emits (Nat.le_of_ble_eq_true rfl) ?_
  intro G hT hC hR
  refine mB hT 2 rfl ?_
  refine hC.1 _ 0 [_] _ _ _ _ _ (m_isMaking_t (i := 2) hi hn) rfl rfl (Nat.le_of_ble_eq_true rfl) rfl ?_
  refine mB hT 2 rfl ?_
  refine hC.2 _ [_] _ _ _ _ (m_isStuff_t (i := 2) (by decide)) rfl (Nat.le_of_ble_eq_true rfl) rfl ?_
  refine mB hT 3 rfl ?_
  refine mIf (fun hp => absurd hp (Int32.not_lt.mpr h1)) (fun _ => ?_)
  refine mB hT 3 rfl ?_
  refine mIf (fun hp => absurd hp (Int32.not_lt.mpr h2)) (fun _ => ?_)
  refine mB hT 3 rfl ?_
  refine mIf (fun hp => absurd hp (Int32.not_lt.mpr h3)) (fun _ => ?_)
  refine mB hT 3 rfl ?_
  refine mIf (fun _ => ?_) (fun hn => absurd h4 hn)
  refine mB hT 27 rfl ?_
  refine mWd (w2 := (MW (Int32.ofNat n) (Int32.ofNat vs) wo un h bo ta tr ro ot (up Bm 6 (up (Bm 6) 2 (up (up (up (Bm 6 2) 14 a) 17 t) 20 g))) bk)) rfl ?_
  refine mB hT 1 rfl ?_
  exact hR _ (by decide) _ _ _ rfl rfl
set_option maxRecDepth 20000 in
theorem m_emits_3_0 {n vs : Nat} {wo un h : Int64} {bo : Nat → Int32} {ta tr ro ot : Nat → Int64} {Bm : Nat → Nat → Nat → Int32} {bk : Nat → Nat → Int32} (hi : 3 < n) (hn : n ≤ 4) {a t g : Int32} (h1 : 0 ≤ a) (h2 : a ≤ t) (h3 : t ≤ g) (h4 : g ≤ 100) : KX3_emits l D ca ad [.ref 0, .int 3, .int 0, .int a, .int t, .int g] (MW (Int32.ofNat n) (Int32.ofNat vs) wo un h bo ta tr ro ot Bm bk) (some (.int 1)) (MW (Int32.ofNat n) (Int32.ofNat vs) wo un h bo ta tr ro ot (up Bm 6 (up (Bm 6) 3 (up (up (up (Bm 6 3) 12 a) 15 t) 18 g))) bk) := by
  refine PX3_emits (Nat.le_of_ble_eq_true rfl) ?_
  intro G hT hC hR
  refine mB hT 2 rfl ?_
  refine hC.1 _ 0 [_] _ _ _ _ _ (m_isMaking_t (i := 3) hi hn) rfl rfl (Nat.le_of_ble_eq_true rfl) rfl ?_
  refine mB hT 2 rfl ?_
  refine hC.2 _ [_] _ _ _ _ (m_isStuff_t (i := 0) (by decide)) rfl (Nat.le_of_ble_eq_true rfl) rfl ?_
  refine mB hT 3 rfl ?_
  refine mIf (fun hp => absurd hp (Int32.not_lt.mpr h1)) (fun _ => ?_)
  refine mB hT 3 rfl ?_
  refine mIf (fun hp => absurd hp (Int32.not_lt.mpr h2)) (fun _ => ?_)
  refine mB hT 3 rfl ?_
  refine mIf (fun hp => absurd hp (Int32.not_lt.mpr h3)) (fun _ => ?_)
  refine mB hT 3 rfl ?_
  refine mIf (fun _ => ?_) (fun hn => absurd h4 hn)
  refine mB hT 27 rfl ?_
  refine mWd (w2 := (MW (Int32.ofNat n) (Int32.ofNat vs) wo un h bo ta tr ro ot (up Bm 6 (up (Bm 6) 3 (up (up (up (Bm 6 3) 12 a) 15 t) 18 g))) bk)) rfl ?_
  refine mB hT 1 rfl ?_
  exact hR _ (by decide) _ _ _ rfl rfl
set_option maxRecDepth 20000 in
theorem m_emits_3_1 {n vs : Nat} {wo un h : Int64} {bo : Nat → Int32} {ta tr ro ot : Nat → Int64} {Bm : Nat → Nat → Nat → Int32} {bk : Nat → Nat → Int32} (hi : 3 < n) (hn : n ≤ 4) {a t g : Int32} (h1 : 0 ≤ a) (h2 : a ≤ t) (h3 : t ≤ g) (h4 : g ≤ 100) : KX3_emits l D ca ad [.ref 0, .int 3, .int 1, .int a, .int t, .int g] (MW (Int32.ofNat n) (Int32.ofNat vs) wo un h bo ta tr ro ot Bm bk) (some (.int 1)) (MW (Int32.ofNat n) (Int32.ofNat vs) wo un h bo ta tr ro ot (up Bm 6 (up (Bm 6) 3 (up (up (up (Bm 6 3) 13 a) 16 t) 19 g))) bk) := by
  refine PX3_emits (Nat.le_of_ble_eq_true rfl) ?_
  intro G hT hC hR
  refine mB hT 2 rfl ?_
  refine hC.1 _ 0 [_] _ _ _ _ _ (m_isMaking_t (i := 3) hi hn) rfl rfl (Nat.le_of_ble_eq_true rfl) rfl ?_
  refine mB hT 2 rfl ?_
  refine hC.2 _ [_] _ _ _ _ (m_isStuff_t (i := 1) (by decide)) rfl (Nat.le_of_ble_eq_true rfl) rfl ?_
  refine mB hT 3 rfl ?_
  refine mIf (fun hp => absurd hp (Int32.not_lt.mpr h1)) (fun _ => ?_)
  refine mB hT 3 rfl ?_
  refine mIf (fun hp => absurd hp (Int32.not_lt.mpr h2)) (fun _ => ?_)
  refine mB hT 3 rfl ?_
  refine mIf (fun hp => absurd hp (Int32.not_lt.mpr h3)) (fun _ => ?_)
  refine mB hT 3 rfl ?_
  refine mIf (fun _ => ?_) (fun hn => absurd h4 hn)
  refine mB hT 27 rfl ?_
  refine mWd (w2 := (MW (Int32.ofNat n) (Int32.ofNat vs) wo un h bo ta tr ro ot (up Bm 6 (up (Bm 6) 3 (up (up (up (Bm 6 3) 13 a) 16 t) 19 g))) bk)) rfl ?_
  refine mB hT 1 rfl ?_
  exact hR _ (by decide) _ _ _ rfl rfl
set_option maxRecDepth 20000 in
theorem m_emits_3_2 {n vs : Nat} {wo un h : Int64} {bo : Nat → Int32} {ta tr ro ot : Nat → Int64} {Bm : Nat → Nat → Nat → Int32} {bk : Nat → Nat → Int32} (hi : 3 < n) (hn : n ≤ 4) {a t g : Int32} (h1 : 0 ≤ a) (h2 : a ≤ t) (h3 : t ≤ g) (h4 : g ≤ 100) : KX3_emits l D ca ad [.ref 0, .int 3, .int 2, .int a, .int t, .int g] (MW (Int32.ofNat n) (Int32.ofNat vs) wo un h bo ta tr ro ot Bm bk) (some (.int 1)) (MW (Int32.ofNat n) (Int32.ofNat vs) wo un h bo ta tr ro ot (up Bm 6 (up (Bm 6) 3 (up (up (up (Bm 6 3) 14 a) 17 t) 20 g))) bk) := by
  refine PX3_emits (Nat.le_of_ble_eq_true rfl) ?_
  intro G hT hC hR
  refine mB hT 2 rfl ?_
  refine hC.1 _ 0 [_] _ _ _ _ _ (m_isMaking_t (i := 3) hi hn) rfl rfl (Nat.le_of_ble_eq_true rfl) rfl ?_
  refine mB hT 2 rfl ?_
  refine hC.2 _ [_] _ _ _ _ (m_isStuff_t (i := 2) (by decide)) rfl (Nat.le_of_ble_eq_true rfl) rfl ?_
  refine mB hT 3 rfl ?_
  refine mIf (fun hp => absurd hp (Int32.not_lt.mpr h1)) (fun _ => ?_)
  refine mB hT 3 rfl ?_
  refine mIf (fun hp => absurd hp (Int32.not_lt.mpr h2)) (fun _ => ?_)
  refine mB hT 3 rfl ?_
  refine mIf (fun hp => absurd hp (Int32.not_lt.mpr h3)) (fun _ => ?_)
  refine mB hT 3 rfl ?_
  refine mIf (fun _ => ?_) (fun hn => absurd h4 hn)
  refine mB hT 27 rfl ?_
  refine mWd (w2 := (MW (Int32.ofNat n) (Int32.ofNat vs) wo un h bo ta tr ro ot (up Bm 6 (up (Bm 6) 3 (up (up (up (Bm 6 3) 14 a) 17 t) 20 g))) bk)) rfl ?_
  refine mB hT 1 rfl ?_
  exact hR _ (by decide) _ _ _ rfl rfl
theorem m_emits {n vs : Nat} {wo un h : Int64} {bo : Nat → Int32} {ta tr ro ot : Nat → Int64} {Bm : Nat → Nat → Nat → Int32} {bk : Nat → Nat → Int32} {i k : Nat} (hi : i < n) (hk : k < 3) (hn : n ≤ 4) {a t g : Int32} (h1 : 0 ≤ a) (h2 : a ≤ t) (h3 : t ≤ g) (h4 : g ≤ 100) : KX3_emits l D ca ad [.ref 0, .int (Int32.ofNat i), .int (Int32.ofNat k), .int a, .int t, .int g] (MW (Int32.ofNat n) (Int32.ofNat vs) wo un h bo ta tr ro ot Bm bk) (some (.int 1)) (MW (Int32.ofNat n) (Int32.ofNat vs) wo un h bo ta tr ro ot (up Bm 6 (up (Bm 6) i (up (up (up (Bm 6 i) (12 + k) a) (15 + k) t) (18 + k) g))) bk) := by
  match i, hi, k, hk with
  | 0, hi, 0, _ => exact m_emits_0_0 hi hn h1 h2 h3 h4
  | 0, hi, 1, _ => exact m_emits_0_1 hi hn h1 h2 h3 h4
  | 0, hi, 2, _ => exact m_emits_0_2 hi hn h1 h2 h3 h4
  | 1, hi, 0, _ => exact m_emits_1_0 hi hn h1 h2 h3 h4
  | 1, hi, 1, _ => exact m_emits_1_1 hi hn h1 h2 h3 h4
  | 1, hi, 2, _ => exact m_emits_1_2 hi hn h1 h2 h3 h4
  | 2, hi, 0, _ => exact m_emits_2_0 hi hn h1 h2 h3 h4
  | 2, hi, 1, _ => exact m_emits_2_1 hi hn h1 h2 h3 h4
  | 2, hi, 2, _ => exact m_emits_2_2 hi hn h1 h2 h3 h4
  | 3, hi, 0, _ => exact m_emits_3_0 hi hn h1 h2 h3 h4
  | 3, hi, 1, _ => exact m_emits_3_1 hi hn h1 h2 h3 h4
  | 3, hi, 2, _ => exact m_emits_3_2 hi hn h1 h2 h3 h4
  | i + 4, hi, _, _ => omega
set_option maxRecDepth 20000 in
theorem m_good_0 {n vs : Nat} {wo un h : Int64} {bo : Nat → Int32} {ta tr ro ot : Nat → Int64} {Bm : Nat → Nat → Nat → Int32} {bk : Nat → Nat → Int32} (hj : 0 < n) (hn : n ≤ 4) {a p : Int32} (h1 : 1 ≤ a) (h2 : a ≤ 5) (h3 : 1 ≤ p) (h4 : p ≤ 5) : KX3_good l D ca ad [.ref 0, .int 0, .int a, .int p] (MW (Int32.ofNat n) (Int32.ofNat vs) wo un h bo ta tr ro ot Bm bk) (some (.int 1)) (MW (Int32.ofNat n) (Int32.ofNat vs) wo un h bo ta tr ro ot (up Bm 6 (up (Bm 6) 0 (up (up (Bm 6 0) 21 a) 22 p))) bk) := by
  refine PX3_good (Nat.le_of_ble_eq_true rfl) ?_
  intro G hT hC hR
  refine mB hT 2 rfl ?_
  refine hC.1 _ 0 [_] _ _ _ _ _ (m_isMaking_t (i := 0) hj hn) rfl rfl (Nat.le_of_ble_eq_true rfl) rfl ?_
  refine mB hT 4 rfl ?_
  refine hC.2.1 _ [_, _, _] _ _ _ _ (m_in_t h1 h2) rfl (Nat.le_of_ble_eq_true rfl) rfl ?_
  refine mB hT 4 rfl ?_
  refine hC.2.2 _ [_, _, _] _ _ _ _ (m_in_t h3 h4) rfl (Nat.le_of_ble_eq_true rfl) rfl ?_
  refine mB hT 16 rfl ?_
  exact hR _ (by decide) _ _ _ rfl rfl
set_option maxRecDepth 20000 in
theorem m_good_1 {n vs : Nat} {wo un h : Int64} {bo : Nat → Int32} {ta tr ro ot : Nat → Int64} {Bm : Nat → Nat → Nat → Int32} {bk : Nat → Nat → Int32} (hj : 1 < n) (hn : n ≤ 4) {a p : Int32} (h1 : 1 ≤ a) (h2 : a ≤ 5) (h3 : 1 ≤ p) (h4 : p ≤ 5) : KX3_good l D ca ad [.ref 0, .int 1, .int a, .int p] (MW (Int32.ofNat n) (Int32.ofNat vs) wo un h bo ta tr ro ot Bm bk) (some (.int 1)) (MW (Int32.ofNat n) (Int32.ofNat vs) wo un h bo ta tr ro ot (up Bm 6 (up (Bm 6) 1 (up (up (Bm 6 1) 21 a) 22 p))) bk) := by
  refine PX3_good (Nat.le_of_ble_eq_true rfl) ?_
  intro G hT hC hR
  refine mB hT 2 rfl ?_
  refine hC.1 _ 0 [_] _ _ _ _ _ (m_isMaking_t (i := 1) hj hn) rfl rfl (Nat.le_of_ble_eq_true rfl) rfl ?_
  refine mB hT 4 rfl ?_
  refine hC.2.1 _ [_, _, _] _ _ _ _ (m_in_t h1 h2) rfl (Nat.le_of_ble_eq_true rfl) rfl ?_
  refine mB hT 4 rfl ?_
  refine hC.2.2 _ [_, _, _] _ _ _ _ (m_in_t h3 h4) rfl (Nat.le_of_ble_eq_true rfl) rfl ?_
  refine mB hT 16 rfl ?_
  exact hR _ (by decide) _ _ _ rfl rfl
set_option maxRecDepth 20000 in
theorem m_good_2 {n vs : Nat} {wo un h : Int64} {bo : Nat → Int32} {ta tr ro ot : Nat → Int64} {Bm : Nat → Nat → Nat → Int32} {bk : Nat → Nat → Int32} (hj : 2 < n) (hn : n ≤ 4) {a p : Int32} (h1 : 1 ≤ a) (h2 : a ≤ 5) (h3 : 1 ≤ p) (h4 : p ≤ 5) : KX3_good l D ca ad [.ref 0, .int 2, .int a, .int p] (MW (Int32.ofNat n) (Int32.ofNat vs) wo un h bo ta tr ro ot Bm bk) (some (.int 1)) (MW (Int32.ofNat n) (Int32.ofNat vs) wo un h bo ta tr ro ot (up Bm 6 (up (Bm 6) 2 (up (up (Bm 6 2) 21 a) 22 p))) bk) := by
  refine PX3_good (Nat.le_of_ble_eq_true rfl) ?_
  intro G hT hC hR
  refine mB hT 2 rfl ?_
  refine hC.1 _ 0 [_] _ _ _ _ _ (m_isMaking_t (i := 2) hj hn) rfl rfl (Nat.le_of_ble_eq_true rfl) rfl ?_
  refine mB hT 4 rfl ?_
  refine hC.2.1 _ [_, _, _] _ _ _ _ (m_in_t h1 h2) rfl (Nat.le_of_ble_eq_true rfl) rfl ?_
  refine mB hT 4 rfl ?_
  refine hC.2.2 _ [_, _, _] _ _ _ _ (m_in_t h3 h4) rfl (Nat.le_of_ble_eq_true rfl) rfl ?_
  refine mB hT 16 rfl ?_
  exact hR _ (by decide) _ _ _ rfl rfl
set_option maxRecDepth 20000 in
theorem m_good_3 {n vs : Nat} {wo un h : Int64} {bo : Nat → Int32} {ta tr ro ot : Nat → Int64} {Bm : Nat → Nat → Nat → Int32} {bk : Nat → Nat → Int32} (hj : 3 < n) (hn : n ≤ 4) {a p : Int32} (h1 : 1 ≤ a) (h2 : a ≤ 5) (h3 : 1 ≤ p) (h4 : p ≤ 5) : KX3_good l D ca ad [.ref 0, .int 3, .int a, .int p] (MW (Int32.ofNat n) (Int32.ofNat vs) wo un h bo ta tr ro ot Bm bk) (some (.int 1)) (MW (Int32.ofNat n) (Int32.ofNat vs) wo un h bo ta tr ro ot (up Bm 6 (up (Bm 6) 3 (up (up (Bm 6 3) 21 a) 22 p))) bk) := by
  refine PX3_good (Nat.le_of_ble_eq_true rfl) ?_
  intro G hT hC hR
  refine mB hT 2 rfl ?_
  refine hC.1 _ 0 [_] _ _ _ _ _ (m_isMaking_t (i := 3) hj hn) rfl rfl (Nat.le_of_ble_eq_true rfl) rfl ?_
  refine mB hT 4 rfl ?_
  refine hC.2.1 _ [_, _, _] _ _ _ _ (m_in_t h1 h2) rfl (Nat.le_of_ble_eq_true rfl) rfl ?_
  refine mB hT 4 rfl ?_
  refine hC.2.2 _ [_, _, _] _ _ _ _ (m_in_t h3 h4) rfl (Nat.le_of_ble_eq_true rfl) rfl ?_
  refine mB hT 16 rfl ?_
  exact hR _ (by decide) _ _ _ rfl rfl
theorem m_good {n vs : Nat} {wo un h : Int64} {bo : Nat → Int32} {ta tr ro ot : Nat → Int64} {Bm : Nat → Nat → Nat → Int32} {bk : Nat → Nat → Int32} {j : Nat} (hj : j < n) (hn : n ≤ 4) {a p : Int32} (h1 : 1 ≤ a) (h2 : a ≤ 5) (h3 : 1 ≤ p) (h4 : p ≤ 5) : KX3_good l D ca ad [.ref 0, .int (Int32.ofNat j), .int a, .int p] (MW (Int32.ofNat n) (Int32.ofNat vs) wo un h bo ta tr ro ot Bm bk) (some (.int 1)) (MW (Int32.ofNat n) (Int32.ofNat vs) wo un h bo ta tr ro ot (up Bm 6 (up (Bm 6) j (up (up (Bm 6 j) 21 a) 22 p))) bk) := by
  match j, hj with
  | 0, hj => exact m_good_0 hj hn h1 h2 h3 h4
  | 1, hj => exact m_good_1 hj hn h1 h2 h3 h4
  | 2, hj => exact m_good_2 hj hn h1 h2 h3 h4
  | 3, hj => exact m_good_3 hj hn h1 h2 h3 h4
  | j + 4, hj => omega
set_option maxRecDepth 20000 in
theorem m_toldOf_0_0 {n vs : Nat} {wo un h : Int64} {bo : Nat → Int32} {ta tr ro ot : Nat → Int64} {Bm : Nat → Nat → Nat → Int32} {bk : Nat → Nat → Int32} (hn : n ≤ 4) : KX3_toldOf l D ca ad [.ref 0, .int 0, .int 0] (MW (Int32.ofNat n) (Int32.ofNat vs) wo un h bo ta tr ro ot Bm bk) (some (.int (tdM n (Bm 6) 0 0))) (MW (Int32.ofNat n) (Int32.ofNat vs) wo un h bo ta tr ro ot Bm bk) := by
  refine PX3_toldOf (Nat.le_of_ble_eq_true rfl) ?_
  intro G hT hC hR
  refine mB hT 8 rfl ?_
  exact hR _ (by decide) _ _ _ rfl rfl
set_option maxRecDepth 20000 in
theorem m_toldOf_0_1 {n vs : Nat} {wo un h : Int64} {bo : Nat → Int32} {ta tr ro ot : Nat → Int64} {Bm : Nat → Nat → Nat → Int32} {bk : Nat → Nat → Int32} (hn : n ≤ 4) : KX3_toldOf l D ca ad [.ref 0, .int 0, .int 1] (MW (Int32.ofNat n) (Int32.ofNat vs) wo un h bo ta tr ro ot Bm bk) (some (.int (tdM n (Bm 6) 0 1))) (MW (Int32.ofNat n) (Int32.ofNat vs) wo un h bo ta tr ro ot Bm bk) := by
  refine PX3_toldOf (Nat.le_of_ble_eq_true rfl) ?_
  intro G hT hC hR
  refine mB hT 8 rfl ?_
  exact hR _ (by decide) _ _ _ rfl rfl
set_option maxRecDepth 20000 in
theorem m_toldOf_0_2 {n vs : Nat} {wo un h : Int64} {bo : Nat → Int32} {ta tr ro ot : Nat → Int64} {Bm : Nat → Nat → Nat → Int32} {bk : Nat → Nat → Int32} (hn : n ≤ 4) : KX3_toldOf l D ca ad [.ref 0, .int 0, .int 2] (MW (Int32.ofNat n) (Int32.ofNat vs) wo un h bo ta tr ro ot Bm bk) (some (.int (tdM n (Bm 6) 0 2))) (MW (Int32.ofNat n) (Int32.ofNat vs) wo un h bo ta tr ro ot Bm bk) := by
  refine PX3_toldOf (Nat.le_of_ble_eq_true rfl) ?_
  intro G hT hC hR
  refine mB hT 5 rfl ?_
  refine hC.1 _ 0 [_, _] _ _ _ _ _ (m_main_6_0) rfl rfl (Nat.le_of_ble_eq_true rfl) rfl ?_
  exact hR _ (by decide) _ _ _ rfl rfl
set_option maxRecDepth 20000 in
theorem m_toldOf_0_3 {n vs : Nat} {wo un h : Int64} {bo : Nat → Int32} {ta tr ro ot : Nat → Int64} {Bm : Nat → Nat → Nat → Int32} {bk : Nat → Nat → Int32} (hn : n ≤ 4) : KX3_toldOf l D ca ad [.ref 0, .int 0, .int 3] (MW (Int32.ofNat n) (Int32.ofNat vs) wo un h bo ta tr ro ot Bm bk) (some (.int (tdM n (Bm 6) 0 3))) (MW (Int32.ofNat n) (Int32.ofNat vs) wo un h bo ta tr ro ot Bm bk) := by
  refine PX3_toldOf (Nat.le_of_ble_eq_true rfl) ?_
  intro G hT hC hR
  refine mB hT 5 rfl ?_
  refine hC.2 _ 0 [_, _] _ _ _ _ _ (m_all_6_0 hn) rfl rfl (Nat.le_of_ble_eq_true rfl) rfl ?_
  exact hR _ (by decide) _ _ _ rfl rfl
set_option maxRecDepth 20000 in
theorem m_toldOf_0_4 {n vs : Nat} {wo un h : Int64} {bo : Nat → Int32} {ta tr ro ot : Nat → Int64} {Bm : Nat → Nat → Nat → Int32} {bk : Nat → Nat → Int32} (hn : n ≤ 4) : KX3_toldOf l D ca ad [.ref 0, .int 0, .int 4] (MW (Int32.ofNat n) (Int32.ofNat vs) wo un h bo ta tr ro ot Bm bk) (some (.int (tdM n (Bm 6) 0 4))) (MW (Int32.ofNat n) (Int32.ofNat vs) wo un h bo ta tr ro ot Bm bk) := by
  refine PX3_toldOf (Nat.le_of_ble_eq_true rfl) ?_
  intro G hT hC hR
  refine mB hT 18 rfl ?_
  exact hR _ (by decide) _ _ _ rfl rfl
set_option maxRecDepth 20000 in
theorem m_toldOf_0_5 {n vs : Nat} {wo un h : Int64} {bo : Nat → Int32} {ta tr ro ot : Nat → Int64} {Bm : Nat → Nat → Nat → Int32} {bk : Nat → Nat → Int32} (hn : n ≤ 4) : KX3_toldOf l D ca ad [.ref 0, .int 0, .int 5] (MW (Int32.ofNat n) (Int32.ofNat vs) wo un h bo ta tr ro ot Bm bk) (some (.int (tdM n (Bm 6) 0 5))) (MW (Int32.ofNat n) (Int32.ofNat vs) wo un h bo ta tr ro ot Bm bk) := by
  refine PX3_toldOf (Nat.le_of_ble_eq_true rfl) ?_
  intro G hT hC hR
  refine mB hT 18 rfl ?_
  exact hR _ (by decide) _ _ _ rfl rfl
set_option maxRecDepth 20000 in
theorem m_toldOf_0_6 {n vs : Nat} {wo un h : Int64} {bo : Nat → Int32} {ta tr ro ot : Nat → Int64} {Bm : Nat → Nat → Nat → Int32} {bk : Nat → Nat → Int32} (hn : n ≤ 4) : KX3_toldOf l D ca ad [.ref 0, .int 0, .int 6] (MW (Int32.ofNat n) (Int32.ofNat vs) wo un h bo ta tr ro ot Bm bk) (some (.int (tdM n (Bm 6) 0 6))) (MW (Int32.ofNat n) (Int32.ofNat vs) wo un h bo ta tr ro ot Bm bk) := by
  refine PX3_toldOf (Nat.le_of_ble_eq_true rfl) ?_
  intro G hT hC hR
  refine mB hT 18 rfl ?_
  exact hR _ (by decide) _ _ _ rfl rfl
set_option maxRecDepth 20000 in
theorem m_toldOf_0_7 {n vs : Nat} {wo un h : Int64} {bo : Nat → Int32} {ta tr ro ot : Nat → Int64} {Bm : Nat → Nat → Nat → Int32} {bk : Nat → Nat → Int32} (hn : n ≤ 4) : KX3_toldOf l D ca ad [.ref 0, .int 0, .int 7] (MW (Int32.ofNat n) (Int32.ofNat vs) wo un h bo ta tr ro ot Bm bk) (some (.int (tdM n (Bm 6) 0 7))) (MW (Int32.ofNat n) (Int32.ofNat vs) wo un h bo ta tr ro ot Bm bk) := by
  refine PX3_toldOf (Nat.le_of_ble_eq_true rfl) ?_
  intro G hT hC hR
  refine mB hT 18 rfl ?_
  exact hR _ (by decide) _ _ _ rfl rfl
set_option maxRecDepth 20000 in
theorem m_toldOf_0_8 {n vs : Nat} {wo un h : Int64} {bo : Nat → Int32} {ta tr ro ot : Nat → Int64} {Bm : Nat → Nat → Nat → Int32} {bk : Nat → Nat → Int32} (hn : n ≤ 4) : KX3_toldOf l D ca ad [.ref 0, .int 0, .int 8] (MW (Int32.ofNat n) (Int32.ofNat vs) wo un h bo ta tr ro ot Bm bk) (some (.int (tdM n (Bm 6) 0 8))) (MW (Int32.ofNat n) (Int32.ofNat vs) wo un h bo ta tr ro ot Bm bk) := by
  refine PX3_toldOf (Nat.le_of_ble_eq_true rfl) ?_
  intro G hT hC hR
  refine mB hT 21 rfl ?_
  exact hR _ (by decide) _ _ _ rfl rfl
set_option maxRecDepth 20000 in
theorem m_toldOf_0_9 {n vs : Nat} {wo un h : Int64} {bo : Nat → Int32} {ta tr ro ot : Nat → Int64} {Bm : Nat → Nat → Nat → Int32} {bk : Nat → Nat → Int32} (hn : n ≤ 4) : KX3_toldOf l D ca ad [.ref 0, .int 0, .int 9] (MW (Int32.ofNat n) (Int32.ofNat vs) wo un h bo ta tr ro ot Bm bk) (some (.int (tdM n (Bm 6) 0 9))) (MW (Int32.ofNat n) (Int32.ofNat vs) wo un h bo ta tr ro ot Bm bk) := by
  refine PX3_toldOf (Nat.le_of_ble_eq_true rfl) ?_
  intro G hT hC hR
  refine mB hT 21 rfl ?_
  exact hR _ (by decide) _ _ _ rfl rfl
set_option maxRecDepth 20000 in
theorem m_toldOf_0_10 {n vs : Nat} {wo un h : Int64} {bo : Nat → Int32} {ta tr ro ot : Nat → Int64} {Bm : Nat → Nat → Nat → Int32} {bk : Nat → Nat → Int32} (hn : n ≤ 4) : KX3_toldOf l D ca ad [.ref 0, .int 0, .int 10] (MW (Int32.ofNat n) (Int32.ofNat vs) wo un h bo ta tr ro ot Bm bk) (some (.int (tdM n (Bm 6) 0 10))) (MW (Int32.ofNat n) (Int32.ofNat vs) wo un h bo ta tr ro ot Bm bk) := by
  refine PX3_toldOf (Nat.le_of_ble_eq_true rfl) ?_
  intro G hT hC hR
  refine mB hT 21 rfl ?_
  exact hR _ (by decide) _ _ _ rfl rfl
set_option maxRecDepth 20000 in
theorem m_toldOf_0_11 {n vs : Nat} {wo un h : Int64} {bo : Nat → Int32} {ta tr ro ot : Nat → Int64} {Bm : Nat → Nat → Nat → Int32} {bk : Nat → Nat → Int32} (hn : n ≤ 4) : KX3_toldOf l D ca ad [.ref 0, .int 0, .int 11] (MW (Int32.ofNat n) (Int32.ofNat vs) wo un h bo ta tr ro ot Bm bk) (some (.int (tdM n (Bm 6) 0 11))) (MW (Int32.ofNat n) (Int32.ofNat vs) wo un h bo ta tr ro ot Bm bk) := by
  refine PX3_toldOf (Nat.le_of_ble_eq_true rfl) ?_
  intro G hT hC hR
  refine mB hT 21 rfl ?_
  exact hR _ (by decide) _ _ _ rfl rfl
set_option maxRecDepth 20000 in
theorem m_toldOf_0_12 {n vs : Nat} {wo un h : Int64} {bo : Nat → Int32} {ta tr ro ot : Nat → Int64} {Bm : Nat → Nat → Nat → Int32} {bk : Nat → Nat → Int32} (hn : n ≤ 4) : KX3_toldOf l D ca ad [.ref 0, .int 0, .int 12] (MW (Int32.ofNat n) (Int32.ofNat vs) wo un h bo ta tr ro ot Bm bk) (some (.int (tdM n (Bm 6) 0 12))) (MW (Int32.ofNat n) (Int32.ofNat vs) wo un h bo ta tr ro ot Bm bk) := by
  refine PX3_toldOf (Nat.le_of_ble_eq_true rfl) ?_
  intro G hT hC hR
  refine mB hT 20 rfl ?_
  exact hR _ (by decide) _ _ _ rfl rfl
set_option maxRecDepth 20000 in
theorem m_toldOf_0_13 {n vs : Nat} {wo un h : Int64} {bo : Nat → Int32} {ta tr ro ot : Nat → Int64} {Bm : Nat → Nat → Nat → Int32} {bk : Nat → Nat → Int32} (hn : n ≤ 4) : KX3_toldOf l D ca ad [.ref 0, .int 0, .int 13] (MW (Int32.ofNat n) (Int32.ofNat vs) wo un h bo ta tr ro ot Bm bk) (some (.int (tdM n (Bm 6) 0 13))) (MW (Int32.ofNat n) (Int32.ofNat vs) wo un h bo ta tr ro ot Bm bk) := by
  refine PX3_toldOf (Nat.le_of_ble_eq_true rfl) ?_
  intro G hT hC hR
  refine mB hT 20 rfl ?_
  exact hR _ (by decide) _ _ _ rfl rfl
set_option maxRecDepth 20000 in
theorem m_toldOf_0_14 {n vs : Nat} {wo un h : Int64} {bo : Nat → Int32} {ta tr ro ot : Nat → Int64} {Bm : Nat → Nat → Nat → Int32} {bk : Nat → Nat → Int32} (hn : n ≤ 4) : KX3_toldOf l D ca ad [.ref 0, .int 0, .int 14] (MW (Int32.ofNat n) (Int32.ofNat vs) wo un h bo ta tr ro ot Bm bk) (some (.int (tdM n (Bm 6) 0 14))) (MW (Int32.ofNat n) (Int32.ofNat vs) wo un h bo ta tr ro ot Bm bk) := by
  refine PX3_toldOf (Nat.le_of_ble_eq_true rfl) ?_
  intro G hT hC hR
  refine mB hT 20 rfl ?_
  exact hR _ (by decide) _ _ _ rfl rfl
set_option maxRecDepth 20000 in
theorem m_toldOf_0_15 {n vs : Nat} {wo un h : Int64} {bo : Nat → Int32} {ta tr ro ot : Nat → Int64} {Bm : Nat → Nat → Nat → Int32} {bk : Nat → Nat → Int32} (hn : n ≤ 4) : KX3_toldOf l D ca ad [.ref 0, .int 0, .int 15] (MW (Int32.ofNat n) (Int32.ofNat vs) wo un h bo ta tr ro ot Bm bk) (some (.int (tdM n (Bm 6) 0 15))) (MW (Int32.ofNat n) (Int32.ofNat vs) wo un h bo ta tr ro ot Bm bk) := by
  refine PX3_toldOf (Nat.le_of_ble_eq_true rfl) ?_
  intro G hT hC hR
  refine mB hT 20 rfl ?_
  exact hR _ (by decide) _ _ _ rfl rfl
set_option maxRecDepth 20000 in
theorem m_toldOf_0_16 {n vs : Nat} {wo un h : Int64} {bo : Nat → Int32} {ta tr ro ot : Nat → Int64} {Bm : Nat → Nat → Nat → Int32} {bk : Nat → Nat → Int32} (hn : n ≤ 4) : KX3_toldOf l D ca ad [.ref 0, .int 0, .int 16] (MW (Int32.ofNat n) (Int32.ofNat vs) wo un h bo ta tr ro ot Bm bk) (some (.int (tdM n (Bm 6) 0 16))) (MW (Int32.ofNat n) (Int32.ofNat vs) wo un h bo ta tr ro ot Bm bk) := by
  refine PX3_toldOf (Nat.le_of_ble_eq_true rfl) ?_
  intro G hT hC hR
  refine mB hT 20 rfl ?_
  exact hR _ (by decide) _ _ _ rfl rfl
set_option maxRecDepth 20000 in
theorem m_toldOf_0_17 {n vs : Nat} {wo un h : Int64} {bo : Nat → Int32} {ta tr ro ot : Nat → Int64} {Bm : Nat → Nat → Nat → Int32} {bk : Nat → Nat → Int32} (hn : n ≤ 4) : KX3_toldOf l D ca ad [.ref 0, .int 0, .int 17] (MW (Int32.ofNat n) (Int32.ofNat vs) wo un h bo ta tr ro ot Bm bk) (some (.int (tdM n (Bm 6) 0 17))) (MW (Int32.ofNat n) (Int32.ofNat vs) wo un h bo ta tr ro ot Bm bk) := by
  refine PX3_toldOf (Nat.le_of_ble_eq_true rfl) ?_
  intro G hT hC hR
  refine mB hT 20 rfl ?_
  exact hR _ (by decide) _ _ _ rfl rfl
set_option maxRecDepth 20000 in
theorem m_toldOf_0_18 {n vs : Nat} {wo un h : Int64} {bo : Nat → Int32} {ta tr ro ot : Nat → Int64} {Bm : Nat → Nat → Nat → Int32} {bk : Nat → Nat → Int32} (hn : n ≤ 4) : KX3_toldOf l D ca ad [.ref 0, .int 0, .int 18] (MW (Int32.ofNat n) (Int32.ofNat vs) wo un h bo ta tr ro ot Bm bk) (some (.int (tdM n (Bm 6) 0 18))) (MW (Int32.ofNat n) (Int32.ofNat vs) wo un h bo ta tr ro ot Bm bk) := by
  refine PX3_toldOf (Nat.le_of_ble_eq_true rfl) ?_
  intro G hT hC hR
  refine mB hT 20 rfl ?_
  exact hR _ (by decide) _ _ _ rfl rfl
set_option maxRecDepth 20000 in
theorem m_toldOf_0_19 {n vs : Nat} {wo un h : Int64} {bo : Nat → Int32} {ta tr ro ot : Nat → Int64} {Bm : Nat → Nat → Nat → Int32} {bk : Nat → Nat → Int32} (hn : n ≤ 4) : KX3_toldOf l D ca ad [.ref 0, .int 0, .int 19] (MW (Int32.ofNat n) (Int32.ofNat vs) wo un h bo ta tr ro ot Bm bk) (some (.int (tdM n (Bm 6) 0 19))) (MW (Int32.ofNat n) (Int32.ofNat vs) wo un h bo ta tr ro ot Bm bk) := by
  refine PX3_toldOf (Nat.le_of_ble_eq_true rfl) ?_
  intro G hT hC hR
  refine mB hT 20 rfl ?_
  exact hR _ (by decide) _ _ _ rfl rfl
set_option maxRecDepth 20000 in
theorem m_toldOf_0_20 {n vs : Nat} {wo un h : Int64} {bo : Nat → Int32} {ta tr ro ot : Nat → Int64} {Bm : Nat → Nat → Nat → Int32} {bk : Nat → Nat → Int32} (hn : n ≤ 4) : KX3_toldOf l D ca ad [.ref 0, .int 0, .int 20] (MW (Int32.ofNat n) (Int32.ofNat vs) wo un h bo ta tr ro ot Bm bk) (some (.int (tdM n (Bm 6) 0 20))) (MW (Int32.ofNat n) (Int32.ofNat vs) wo un h bo ta tr ro ot Bm bk) := by
  refine PX3_toldOf (Nat.le_of_ble_eq_true rfl) ?_
  intro G hT hC hR
  refine mB hT 20 rfl ?_
  exact hR _ (by decide) _ _ _ rfl rfl
set_option maxRecDepth 20000 in
theorem m_toldOf_0_21 {n vs : Nat} {wo un h : Int64} {bo : Nat → Int32} {ta tr ro ot : Nat → Int64} {Bm : Nat → Nat → Nat → Int32} {bk : Nat → Nat → Int32} (hn : n ≤ 4) : KX3_toldOf l D ca ad [.ref 0, .int 0, .int 21] (MW (Int32.ofNat n) (Int32.ofNat vs) wo un h bo ta tr ro ot Bm bk) (some (.int (tdM n (Bm 6) 0 21))) (MW (Int32.ofNat n) (Int32.ofNat vs) wo un h bo ta tr ro ot Bm bk) := by
  refine PX3_toldOf (Nat.le_of_ble_eq_true rfl) ?_
  intro G hT hC hR
  refine mB hT 8 rfl ?_
  exact hR _ (by decide) _ _ _ rfl rfl
set_option maxRecDepth 20000 in
theorem m_toldOf_0_22 {n vs : Nat} {wo un h : Int64} {bo : Nat → Int32} {ta tr ro ot : Nat → Int64} {Bm : Nat → Nat → Nat → Int32} {bk : Nat → Nat → Int32} (hn : n ≤ 4) : KX3_toldOf l D ca ad [.ref 0, .int 0, .int 22] (MW (Int32.ofNat n) (Int32.ofNat vs) wo un h bo ta tr ro ot Bm bk) (some (.int (tdM n (Bm 6) 0 22))) (MW (Int32.ofNat n) (Int32.ofNat vs) wo un h bo ta tr ro ot Bm bk) := by
  refine PX3_toldOf (Nat.le_of_ble_eq_true rfl) ?_
  intro G hT hC hR
  refine mB hT 8 rfl ?_
  exact hR _ (by decide) _ _ _ rfl rfl
set_option maxRecDepth 20000 in
theorem m_toldOf_1_0 {n vs : Nat} {wo un h : Int64} {bo : Nat → Int32} {ta tr ro ot : Nat → Int64} {Bm : Nat → Nat → Nat → Int32} {bk : Nat → Nat → Int32} (hn : n ≤ 4) : KX3_toldOf l D ca ad [.ref 0, .int 1, .int 0] (MW (Int32.ofNat n) (Int32.ofNat vs) wo un h bo ta tr ro ot Bm bk) (some (.int (tdM n (Bm 6) 1 0))) (MW (Int32.ofNat n) (Int32.ofNat vs) wo un h bo ta tr ro ot Bm bk) := by
  refine PX3_toldOf (Nat.le_of_ble_eq_true rfl) ?_
  intro G hT hC hR
  refine mB hT 8 rfl ?_
  exact hR _ (by decide) _ _ _ rfl rfl
set_option maxRecDepth 20000 in
theorem m_toldOf_1_1 {n vs : Nat} {wo un h : Int64} {bo : Nat → Int32} {ta tr ro ot : Nat → Int64} {Bm : Nat → Nat → Nat → Int32} {bk : Nat → Nat → Int32} (hn : n ≤ 4) : KX3_toldOf l D ca ad [.ref 0, .int 1, .int 1] (MW (Int32.ofNat n) (Int32.ofNat vs) wo un h bo ta tr ro ot Bm bk) (some (.int (tdM n (Bm 6) 1 1))) (MW (Int32.ofNat n) (Int32.ofNat vs) wo un h bo ta tr ro ot Bm bk) := by
  refine PX3_toldOf (Nat.le_of_ble_eq_true rfl) ?_
  intro G hT hC hR
  refine mB hT 8 rfl ?_
  exact hR _ (by decide) _ _ _ rfl rfl
set_option maxRecDepth 20000 in
theorem m_toldOf_1_2 {n vs : Nat} {wo un h : Int64} {bo : Nat → Int32} {ta tr ro ot : Nat → Int64} {Bm : Nat → Nat → Nat → Int32} {bk : Nat → Nat → Int32} (hn : n ≤ 4) : KX3_toldOf l D ca ad [.ref 0, .int 1, .int 2] (MW (Int32.ofNat n) (Int32.ofNat vs) wo un h bo ta tr ro ot Bm bk) (some (.int (tdM n (Bm 6) 1 2))) (MW (Int32.ofNat n) (Int32.ofNat vs) wo un h bo ta tr ro ot Bm bk) := by
  refine PX3_toldOf (Nat.le_of_ble_eq_true rfl) ?_
  intro G hT hC hR
  refine mB hT 5 rfl ?_
  refine hC.1 _ 0 [_, _] _ _ _ _ _ (m_main_6_1) rfl rfl (Nat.le_of_ble_eq_true rfl) rfl ?_
  exact hR _ (by decide) _ _ _ rfl rfl
set_option maxRecDepth 20000 in
theorem m_toldOf_1_3 {n vs : Nat} {wo un h : Int64} {bo : Nat → Int32} {ta tr ro ot : Nat → Int64} {Bm : Nat → Nat → Nat → Int32} {bk : Nat → Nat → Int32} (hn : n ≤ 4) : KX3_toldOf l D ca ad [.ref 0, .int 1, .int 3] (MW (Int32.ofNat n) (Int32.ofNat vs) wo un h bo ta tr ro ot Bm bk) (some (.int (tdM n (Bm 6) 1 3))) (MW (Int32.ofNat n) (Int32.ofNat vs) wo un h bo ta tr ro ot Bm bk) := by
  refine PX3_toldOf (Nat.le_of_ble_eq_true rfl) ?_
  intro G hT hC hR
  refine mB hT 5 rfl ?_
  refine hC.2 _ 0 [_, _] _ _ _ _ _ (m_all_6_1 hn) rfl rfl (Nat.le_of_ble_eq_true rfl) rfl ?_
  exact hR _ (by decide) _ _ _ rfl rfl
set_option maxRecDepth 20000 in
theorem m_toldOf_1_4 {n vs : Nat} {wo un h : Int64} {bo : Nat → Int32} {ta tr ro ot : Nat → Int64} {Bm : Nat → Nat → Nat → Int32} {bk : Nat → Nat → Int32} (hn : n ≤ 4) : KX3_toldOf l D ca ad [.ref 0, .int 1, .int 4] (MW (Int32.ofNat n) (Int32.ofNat vs) wo un h bo ta tr ro ot Bm bk) (some (.int (tdM n (Bm 6) 1 4))) (MW (Int32.ofNat n) (Int32.ofNat vs) wo un h bo ta tr ro ot Bm bk) := by
  refine PX3_toldOf (Nat.le_of_ble_eq_true rfl) ?_
  intro G hT hC hR
  refine mB hT 18 rfl ?_
  exact hR _ (by decide) _ _ _ rfl rfl
set_option maxRecDepth 20000 in
theorem m_toldOf_1_5 {n vs : Nat} {wo un h : Int64} {bo : Nat → Int32} {ta tr ro ot : Nat → Int64} {Bm : Nat → Nat → Nat → Int32} {bk : Nat → Nat → Int32} (hn : n ≤ 4) : KX3_toldOf l D ca ad [.ref 0, .int 1, .int 5] (MW (Int32.ofNat n) (Int32.ofNat vs) wo un h bo ta tr ro ot Bm bk) (some (.int (tdM n (Bm 6) 1 5))) (MW (Int32.ofNat n) (Int32.ofNat vs) wo un h bo ta tr ro ot Bm bk) := by
  refine PX3_toldOf (Nat.le_of_ble_eq_true rfl) ?_
  intro G hT hC hR
  refine mB hT 18 rfl ?_
  exact hR _ (by decide) _ _ _ rfl rfl
set_option maxRecDepth 20000 in
theorem m_toldOf_1_6 {n vs : Nat} {wo un h : Int64} {bo : Nat → Int32} {ta tr ro ot : Nat → Int64} {Bm : Nat → Nat → Nat → Int32} {bk : Nat → Nat → Int32} (hn : n ≤ 4) : KX3_toldOf l D ca ad [.ref 0, .int 1, .int 6] (MW (Int32.ofNat n) (Int32.ofNat vs) wo un h bo ta tr ro ot Bm bk) (some (.int (tdM n (Bm 6) 1 6))) (MW (Int32.ofNat n) (Int32.ofNat vs) wo un h bo ta tr ro ot Bm bk) := by
  refine PX3_toldOf (Nat.le_of_ble_eq_true rfl) ?_
  intro G hT hC hR
  refine mB hT 18 rfl ?_
  exact hR _ (by decide) _ _ _ rfl rfl
set_option maxRecDepth 20000 in
theorem m_toldOf_1_7 {n vs : Nat} {wo un h : Int64} {bo : Nat → Int32} {ta tr ro ot : Nat → Int64} {Bm : Nat → Nat → Nat → Int32} {bk : Nat → Nat → Int32} (hn : n ≤ 4) : KX3_toldOf l D ca ad [.ref 0, .int 1, .int 7] (MW (Int32.ofNat n) (Int32.ofNat vs) wo un h bo ta tr ro ot Bm bk) (some (.int (tdM n (Bm 6) 1 7))) (MW (Int32.ofNat n) (Int32.ofNat vs) wo un h bo ta tr ro ot Bm bk) := by
  refine PX3_toldOf (Nat.le_of_ble_eq_true rfl) ?_
  intro G hT hC hR
  refine mB hT 18 rfl ?_
  exact hR _ (by decide) _ _ _ rfl rfl
set_option maxRecDepth 20000 in
theorem m_toldOf_1_8 {n vs : Nat} {wo un h : Int64} {bo : Nat → Int32} {ta tr ro ot : Nat → Int64} {Bm : Nat → Nat → Nat → Int32} {bk : Nat → Nat → Int32} (hn : n ≤ 4) : KX3_toldOf l D ca ad [.ref 0, .int 1, .int 8] (MW (Int32.ofNat n) (Int32.ofNat vs) wo un h bo ta tr ro ot Bm bk) (some (.int (tdM n (Bm 6) 1 8))) (MW (Int32.ofNat n) (Int32.ofNat vs) wo un h bo ta tr ro ot Bm bk) := by
  refine PX3_toldOf (Nat.le_of_ble_eq_true rfl) ?_
  intro G hT hC hR
  refine mB hT 21 rfl ?_
  exact hR _ (by decide) _ _ _ rfl rfl
set_option maxRecDepth 20000 in
theorem m_toldOf_1_9 {n vs : Nat} {wo un h : Int64} {bo : Nat → Int32} {ta tr ro ot : Nat → Int64} {Bm : Nat → Nat → Nat → Int32} {bk : Nat → Nat → Int32} (hn : n ≤ 4) : KX3_toldOf l D ca ad [.ref 0, .int 1, .int 9] (MW (Int32.ofNat n) (Int32.ofNat vs) wo un h bo ta tr ro ot Bm bk) (some (.int (tdM n (Bm 6) 1 9))) (MW (Int32.ofNat n) (Int32.ofNat vs) wo un h bo ta tr ro ot Bm bk) := by
  refine PX3_toldOf (Nat.le_of_ble_eq_true rfl) ?_
  intro G hT hC hR
  refine mB hT 21 rfl ?_
  exact hR _ (by decide) _ _ _ rfl rfl
set_option maxRecDepth 20000 in
theorem m_toldOf_1_10 {n vs : Nat} {wo un h : Int64} {bo : Nat → Int32} {ta tr ro ot : Nat → Int64} {Bm : Nat → Nat → Nat → Int32} {bk : Nat → Nat → Int32} (hn : n ≤ 4) : KX3_toldOf l D ca ad [.ref 0, .int 1, .int 10] (MW (Int32.ofNat n) (Int32.ofNat vs) wo un h bo ta tr ro ot Bm bk) (some (.int (tdM n (Bm 6) 1 10))) (MW (Int32.ofNat n) (Int32.ofNat vs) wo un h bo ta tr ro ot Bm bk) := by
  refine PX3_toldOf (Nat.le_of_ble_eq_true rfl) ?_
  intro G hT hC hR
  refine mB hT 21 rfl ?_
  exact hR _ (by decide) _ _ _ rfl rfl
set_option maxRecDepth 20000 in
theorem m_toldOf_1_11 {n vs : Nat} {wo un h : Int64} {bo : Nat → Int32} {ta tr ro ot : Nat → Int64} {Bm : Nat → Nat → Nat → Int32} {bk : Nat → Nat → Int32} (hn : n ≤ 4) : KX3_toldOf l D ca ad [.ref 0, .int 1, .int 11] (MW (Int32.ofNat n) (Int32.ofNat vs) wo un h bo ta tr ro ot Bm bk) (some (.int (tdM n (Bm 6) 1 11))) (MW (Int32.ofNat n) (Int32.ofNat vs) wo un h bo ta tr ro ot Bm bk) := by
  refine PX3_toldOf (Nat.le_of_ble_eq_true rfl) ?_
  intro G hT hC hR
  refine mB hT 21 rfl ?_
  exact hR _ (by decide) _ _ _ rfl rfl
set_option maxRecDepth 20000 in
theorem m_toldOf_1_12 {n vs : Nat} {wo un h : Int64} {bo : Nat → Int32} {ta tr ro ot : Nat → Int64} {Bm : Nat → Nat → Nat → Int32} {bk : Nat → Nat → Int32} (hn : n ≤ 4) : KX3_toldOf l D ca ad [.ref 0, .int 1, .int 12] (MW (Int32.ofNat n) (Int32.ofNat vs) wo un h bo ta tr ro ot Bm bk) (some (.int (tdM n (Bm 6) 1 12))) (MW (Int32.ofNat n) (Int32.ofNat vs) wo un h bo ta tr ro ot Bm bk) := by
  refine PX3_toldOf (Nat.le_of_ble_eq_true rfl) ?_
  intro G hT hC hR
  refine mB hT 20 rfl ?_
  exact hR _ (by decide) _ _ _ rfl rfl
set_option maxRecDepth 20000 in
theorem m_toldOf_1_13 {n vs : Nat} {wo un h : Int64} {bo : Nat → Int32} {ta tr ro ot : Nat → Int64} {Bm : Nat → Nat → Nat → Int32} {bk : Nat → Nat → Int32} (hn : n ≤ 4) : KX3_toldOf l D ca ad [.ref 0, .int 1, .int 13] (MW (Int32.ofNat n) (Int32.ofNat vs) wo un h bo ta tr ro ot Bm bk) (some (.int (tdM n (Bm 6) 1 13))) (MW (Int32.ofNat n) (Int32.ofNat vs) wo un h bo ta tr ro ot Bm bk) := by
  refine PX3_toldOf (Nat.le_of_ble_eq_true rfl) ?_
  intro G hT hC hR
  refine mB hT 20 rfl ?_
  exact hR _ (by decide) _ _ _ rfl rfl
set_option maxRecDepth 20000 in
theorem m_toldOf_1_14 {n vs : Nat} {wo un h : Int64} {bo : Nat → Int32} {ta tr ro ot : Nat → Int64} {Bm : Nat → Nat → Nat → Int32} {bk : Nat → Nat → Int32} (hn : n ≤ 4) : KX3_toldOf l D ca ad [.ref 0, .int 1, .int 14] (MW (Int32.ofNat n) (Int32.ofNat vs) wo un h bo ta tr ro ot Bm bk) (some (.int (tdM n (Bm 6) 1 14))) (MW (Int32.ofNat n) (Int32.ofNat vs) wo un h bo ta tr ro ot Bm bk) := by
  refine PX3_toldOf (Nat.le_of_ble_eq_true rfl) ?_
  intro G hT hC hR
  refine mB hT 20 rfl ?_
  exact hR _ (by decide) _ _ _ rfl rfl
set_option maxRecDepth 20000 in
theorem m_toldOf_1_15 {n vs : Nat} {wo un h : Int64} {bo : Nat → Int32} {ta tr ro ot : Nat → Int64} {Bm : Nat → Nat → Nat → Int32} {bk : Nat → Nat → Int32} (hn : n ≤ 4) : KX3_toldOf l D ca ad [.ref 0, .int 1, .int 15] (MW (Int32.ofNat n) (Int32.ofNat vs) wo un h bo ta tr ro ot Bm bk) (some (.int (tdM n (Bm 6) 1 15))) (MW (Int32.ofNat n) (Int32.ofNat vs) wo un h bo ta tr ro ot Bm bk) := by
  refine PX3_toldOf (Nat.le_of_ble_eq_true rfl) ?_
  intro G hT hC hR
  refine mB hT 20 rfl ?_
  exact hR _ (by decide) _ _ _ rfl rfl
set_option maxRecDepth 20000 in
theorem m_toldOf_1_16 {n vs : Nat} {wo un h : Int64} {bo : Nat → Int32} {ta tr ro ot : Nat → Int64} {Bm : Nat → Nat → Nat → Int32} {bk : Nat → Nat → Int32} (hn : n ≤ 4) : KX3_toldOf l D ca ad [.ref 0, .int 1, .int 16] (MW (Int32.ofNat n) (Int32.ofNat vs) wo un h bo ta tr ro ot Bm bk) (some (.int (tdM n (Bm 6) 1 16))) (MW (Int32.ofNat n) (Int32.ofNat vs) wo un h bo ta tr ro ot Bm bk) := by
  refine PX3_toldOf (Nat.le_of_ble_eq_true rfl) ?_
  intro G hT hC hR
  refine mB hT 20 rfl ?_
  exact hR _ (by decide) _ _ _ rfl rfl
set_option maxRecDepth 20000 in
theorem m_toldOf_1_17 {n vs : Nat} {wo un h : Int64} {bo : Nat → Int32} {ta tr ro ot : Nat → Int64} {Bm : Nat → Nat → Nat → Int32} {bk : Nat → Nat → Int32} (hn : n ≤ 4) : KX3_toldOf l D ca ad [.ref 0, .int 1, .int 17] (MW (Int32.ofNat n) (Int32.ofNat vs) wo un h bo ta tr ro ot Bm bk) (some (.int (tdM n (Bm 6) 1 17))) (MW (Int32.ofNat n) (Int32.ofNat vs) wo un h bo ta tr ro ot Bm bk) := by
  refine PX3_toldOf (Nat.le_of_ble_eq_true rfl) ?_
  intro G hT hC hR
  refine mB hT 20 rfl ?_
  exact hR _ (by decide) _ _ _ rfl rfl
set_option maxRecDepth 20000 in
theorem m_toldOf_1_18 {n vs : Nat} {wo un h : Int64} {bo : Nat → Int32} {ta tr ro ot : Nat → Int64} {Bm : Nat → Nat → Nat → Int32} {bk : Nat → Nat → Int32} (hn : n ≤ 4) : KX3_toldOf l D ca ad [.ref 0, .int 1, .int 18] (MW (Int32.ofNat n) (Int32.ofNat vs) wo un h bo ta tr ro ot Bm bk) (some (.int (tdM n (Bm 6) 1 18))) (MW (Int32.ofNat n) (Int32.ofNat vs) wo un h bo ta tr ro ot Bm bk) := by
  refine PX3_toldOf (Nat.le_of_ble_eq_true rfl) ?_
  intro G hT hC hR
  refine mB hT 20 rfl ?_
  exact hR _ (by decide) _ _ _ rfl rfl
set_option maxRecDepth 20000 in
theorem m_toldOf_1_19 {n vs : Nat} {wo un h : Int64} {bo : Nat → Int32} {ta tr ro ot : Nat → Int64} {Bm : Nat → Nat → Nat → Int32} {bk : Nat → Nat → Int32} (hn : n ≤ 4) : KX3_toldOf l D ca ad [.ref 0, .int 1, .int 19] (MW (Int32.ofNat n) (Int32.ofNat vs) wo un h bo ta tr ro ot Bm bk) (some (.int (tdM n (Bm 6) 1 19))) (MW (Int32.ofNat n) (Int32.ofNat vs) wo un h bo ta tr ro ot Bm bk) := by
  refine PX3_toldOf (Nat.le_of_ble_eq_true rfl) ?_
  intro G hT hC hR
  refine mB hT 20 rfl ?_
  exact hR _ (by decide) _ _ _ rfl rfl
set_option maxRecDepth 20000 in
theorem m_toldOf_1_20 {n vs : Nat} {wo un h : Int64} {bo : Nat → Int32} {ta tr ro ot : Nat → Int64} {Bm : Nat → Nat → Nat → Int32} {bk : Nat → Nat → Int32} (hn : n ≤ 4) : KX3_toldOf l D ca ad [.ref 0, .int 1, .int 20] (MW (Int32.ofNat n) (Int32.ofNat vs) wo un h bo ta tr ro ot Bm bk) (some (.int (tdM n (Bm 6) 1 20))) (MW (Int32.ofNat n) (Int32.ofNat vs) wo un h bo ta tr ro ot Bm bk) := by
  refine PX3_toldOf (Nat.le_of_ble_eq_true rfl) ?_
  intro G hT hC hR
  refine mB hT 20 rfl ?_
  exact hR _ (by decide) _ _ _ rfl rfl
set_option maxRecDepth 20000 in
theorem m_toldOf_1_21 {n vs : Nat} {wo un h : Int64} {bo : Nat → Int32} {ta tr ro ot : Nat → Int64} {Bm : Nat → Nat → Nat → Int32} {bk : Nat → Nat → Int32} (hn : n ≤ 4) : KX3_toldOf l D ca ad [.ref 0, .int 1, .int 21] (MW (Int32.ofNat n) (Int32.ofNat vs) wo un h bo ta tr ro ot Bm bk) (some (.int (tdM n (Bm 6) 1 21))) (MW (Int32.ofNat n) (Int32.ofNat vs) wo un h bo ta tr ro ot Bm bk) := by
  refine PX3_toldOf (Nat.le_of_ble_eq_true rfl) ?_
  intro G hT hC hR
  refine mB hT 8 rfl ?_
  exact hR _ (by decide) _ _ _ rfl rfl
set_option maxRecDepth 20000 in
theorem m_toldOf_1_22 {n vs : Nat} {wo un h : Int64} {bo : Nat → Int32} {ta tr ro ot : Nat → Int64} {Bm : Nat → Nat → Nat → Int32} {bk : Nat → Nat → Int32} (hn : n ≤ 4) : KX3_toldOf l D ca ad [.ref 0, .int 1, .int 22] (MW (Int32.ofNat n) (Int32.ofNat vs) wo un h bo ta tr ro ot Bm bk) (some (.int (tdM n (Bm 6) 1 22))) (MW (Int32.ofNat n) (Int32.ofNat vs) wo un h bo ta tr ro ot Bm bk) := by
  refine PX3_toldOf (Nat.le_of_ble_eq_true rfl) ?_
  intro G hT hC hR
  refine mB hT 8 rfl ?_
  exact hR _ (by decide) _ _ _ rfl rfl
set_option maxRecDepth 20000 in
theorem m_toldOf_2_0 {n vs : Nat} {wo un h : Int64} {bo : Nat → Int32} {ta tr ro ot : Nat → Int64} {Bm : Nat → Nat → Nat → Int32} {bk : Nat → Nat → Int32} (hn : n ≤ 4) : KX3_toldOf l D ca ad [.ref 0, .int 2, .int 0] (MW (Int32.ofNat n) (Int32.ofNat vs) wo un h bo ta tr ro ot Bm bk) (some (.int (tdM n (Bm 6) 2 0))) (MW (Int32.ofNat n) (Int32.ofNat vs) wo un h bo ta tr ro ot Bm bk) := by
  refine PX3_toldOf (Nat.le_of_ble_eq_true rfl) ?_
  intro G hT hC hR
  refine mB hT 8 rfl ?_
  exact hR _ (by decide) _ _ _ rfl rfl
set_option maxRecDepth 20000 in
theorem m_toldOf_2_1 {n vs : Nat} {wo un h : Int64} {bo : Nat → Int32} {ta tr ro ot : Nat → Int64} {Bm : Nat → Nat → Nat → Int32} {bk : Nat → Nat → Int32} (hn : n ≤ 4) : KX3_toldOf l D ca ad [.ref 0, .int 2, .int 1] (MW (Int32.ofNat n) (Int32.ofNat vs) wo un h bo ta tr ro ot Bm bk) (some (.int (tdM n (Bm 6) 2 1))) (MW (Int32.ofNat n) (Int32.ofNat vs) wo un h bo ta tr ro ot Bm bk) := by
  refine PX3_toldOf (Nat.le_of_ble_eq_true rfl) ?_
  intro G hT hC hR
  refine mB hT 8 rfl ?_
  exact hR _ (by decide) _ _ _ rfl rfl
set_option maxRecDepth 20000 in
theorem m_toldOf_2_2 {n vs : Nat} {wo un h : Int64} {bo : Nat → Int32} {ta tr ro ot : Nat → Int64} {Bm : Nat → Nat → Nat → Int32} {bk : Nat → Nat → Int32} (hn : n ≤ 4) : KX3_toldOf l D ca ad [.ref 0, .int 2, .int 2] (MW (Int32.ofNat n) (Int32.ofNat vs) wo un h bo ta tr ro ot Bm bk) (some (.int (tdM n (Bm 6) 2 2))) (MW (Int32.ofNat n) (Int32.ofNat vs) wo un h bo ta tr ro ot Bm bk) := by
  refine PX3_toldOf (Nat.le_of_ble_eq_true rfl) ?_
  intro G hT hC hR
  refine mB hT 5 rfl ?_
  refine hC.1 _ 0 [_, _] _ _ _ _ _ (m_main_6_2) rfl rfl (Nat.le_of_ble_eq_true rfl) rfl ?_
  exact hR _ (by decide) _ _ _ rfl rfl
set_option maxRecDepth 20000 in
theorem m_toldOf_2_3 {n vs : Nat} {wo un h : Int64} {bo : Nat → Int32} {ta tr ro ot : Nat → Int64} {Bm : Nat → Nat → Nat → Int32} {bk : Nat → Nat → Int32} (hn : n ≤ 4) : KX3_toldOf l D ca ad [.ref 0, .int 2, .int 3] (MW (Int32.ofNat n) (Int32.ofNat vs) wo un h bo ta tr ro ot Bm bk) (some (.int (tdM n (Bm 6) 2 3))) (MW (Int32.ofNat n) (Int32.ofNat vs) wo un h bo ta tr ro ot Bm bk) := by
  refine PX3_toldOf (Nat.le_of_ble_eq_true rfl) ?_
  intro G hT hC hR
  refine mB hT 5 rfl ?_
  refine hC.2 _ 0 [_, _] _ _ _ _ _ (m_all_6_2 hn) rfl rfl (Nat.le_of_ble_eq_true rfl) rfl ?_
  exact hR _ (by decide) _ _ _ rfl rfl
set_option maxRecDepth 20000 in
theorem m_toldOf_2_4 {n vs : Nat} {wo un h : Int64} {bo : Nat → Int32} {ta tr ro ot : Nat → Int64} {Bm : Nat → Nat → Nat → Int32} {bk : Nat → Nat → Int32} (hn : n ≤ 4) : KX3_toldOf l D ca ad [.ref 0, .int 2, .int 4] (MW (Int32.ofNat n) (Int32.ofNat vs) wo un h bo ta tr ro ot Bm bk) (some (.int (tdM n (Bm 6) 2 4))) (MW (Int32.ofNat n) (Int32.ofNat vs) wo un h bo ta tr ro ot Bm bk) := by
  refine PX3_toldOf (Nat.le_of_ble_eq_true rfl) ?_
  intro G hT hC hR
  refine mB hT 18 rfl ?_
  exact hR _ (by decide) _ _ _ rfl rfl
set_option maxRecDepth 20000 in
theorem m_toldOf_2_5 {n vs : Nat} {wo un h : Int64} {bo : Nat → Int32} {ta tr ro ot : Nat → Int64} {Bm : Nat → Nat → Nat → Int32} {bk : Nat → Nat → Int32} (hn : n ≤ 4) : KX3_toldOf l D ca ad [.ref 0, .int 2, .int 5] (MW (Int32.ofNat n) (Int32.ofNat vs) wo un h bo ta tr ro ot Bm bk) (some (.int (tdM n (Bm 6) 2 5))) (MW (Int32.ofNat n) (Int32.ofNat vs) wo un h bo ta tr ro ot Bm bk) := by
  refine PX3_toldOf (Nat.le_of_ble_eq_true rfl) ?_
  intro G hT hC hR
  refine mB hT 18 rfl ?_
  exact hR _ (by decide) _ _ _ rfl rfl
set_option maxRecDepth 20000 in
theorem m_toldOf_2_6 {n vs : Nat} {wo un h : Int64} {bo : Nat → Int32} {ta tr ro ot : Nat → Int64} {Bm : Nat → Nat → Nat → Int32} {bk : Nat → Nat → Int32} (hn : n ≤ 4) : KX3_toldOf l D ca ad [.ref 0, .int 2, .int 6] (MW (Int32.ofNat n) (Int32.ofNat vs) wo un h bo ta tr ro ot Bm bk) (some (.int (tdM n (Bm 6) 2 6))) (MW (Int32.ofNat n) (Int32.ofNat vs) wo un h bo ta tr ro ot Bm bk) := by
  refine PX3_toldOf (Nat.le_of_ble_eq_true rfl) ?_
  intro G hT hC hR
  refine mB hT 18 rfl ?_
  exact hR _ (by decide) _ _ _ rfl rfl
set_option maxRecDepth 20000 in
theorem m_toldOf_2_7 {n vs : Nat} {wo un h : Int64} {bo : Nat → Int32} {ta tr ro ot : Nat → Int64} {Bm : Nat → Nat → Nat → Int32} {bk : Nat → Nat → Int32} (hn : n ≤ 4) : KX3_toldOf l D ca ad [.ref 0, .int 2, .int 7] (MW (Int32.ofNat n) (Int32.ofNat vs) wo un h bo ta tr ro ot Bm bk) (some (.int (tdM n (Bm 6) 2 7))) (MW (Int32.ofNat n) (Int32.ofNat vs) wo un h bo ta tr ro ot Bm bk) := by
  refine PX3_toldOf (Nat.le_of_ble_eq_true rfl) ?_
  intro G hT hC hR
  refine mB hT 18 rfl ?_
  exact hR _ (by decide) _ _ _ rfl rfl
set_option maxRecDepth 20000 in
theorem m_toldOf_2_8 {n vs : Nat} {wo un h : Int64} {bo : Nat → Int32} {ta tr ro ot : Nat → Int64} {Bm : Nat → Nat → Nat → Int32} {bk : Nat → Nat → Int32} (hn : n ≤ 4) : KX3_toldOf l D ca ad [.ref 0, .int 2, .int 8] (MW (Int32.ofNat n) (Int32.ofNat vs) wo un h bo ta tr ro ot Bm bk) (some (.int (tdM n (Bm 6) 2 8))) (MW (Int32.ofNat n) (Int32.ofNat vs) wo un h bo ta tr ro ot Bm bk) := by
  refine PX3_toldOf (Nat.le_of_ble_eq_true rfl) ?_
  intro G hT hC hR
  refine mB hT 21 rfl ?_
  exact hR _ (by decide) _ _ _ rfl rfl
set_option maxRecDepth 20000 in
theorem m_toldOf_2_9 {n vs : Nat} {wo un h : Int64} {bo : Nat → Int32} {ta tr ro ot : Nat → Int64} {Bm : Nat → Nat → Nat → Int32} {bk : Nat → Nat → Int32} (hn : n ≤ 4) : KX3_toldOf l D ca ad [.ref 0, .int 2, .int 9] (MW (Int32.ofNat n) (Int32.ofNat vs) wo un h bo ta tr ro ot Bm bk) (some (.int (tdM n (Bm 6) 2 9))) (MW (Int32.ofNat n) (Int32.ofNat vs) wo un h bo ta tr ro ot Bm bk) := by
  refine PX3_toldOf (Nat.le_of_ble_eq_true rfl) ?_
  intro G hT hC hR
  refine mB hT 21 rfl ?_
  exact hR _ (by decide) _ _ _ rfl rfl
set_option maxRecDepth 20000 in
theorem m_toldOf_2_10 {n vs : Nat} {wo un h : Int64} {bo : Nat → Int32} {ta tr ro ot : Nat → Int64} {Bm : Nat → Nat → Nat → Int32} {bk : Nat → Nat → Int32} (hn : n ≤ 4) : KX3_toldOf l D ca ad [.ref 0, .int 2, .int 10] (MW (Int32.ofNat n) (Int32.ofNat vs) wo un h bo ta tr ro ot Bm bk) (some (.int (tdM n (Bm 6) 2 10))) (MW (Int32.ofNat n) (Int32.ofNat vs) wo un h bo ta tr ro ot Bm bk) := by
  refine PX3_toldOf (Nat.le_of_ble_eq_true rfl) ?_
  intro G hT hC hR
  refine mB hT 21 rfl ?_
  exact hR _ (by decide) _ _ _ rfl rfl
set_option maxRecDepth 20000 in
theorem m_toldOf_2_11 {n vs : Nat} {wo un h : Int64} {bo : Nat → Int32} {ta tr ro ot : Nat → Int64} {Bm : Nat → Nat → Nat → Int32} {bk : Nat → Nat → Int32} (hn : n ≤ 4) : KX3_toldOf l D ca ad [.ref 0, .int 2, .int 11] (MW (Int32.ofNat n) (Int32.ofNat vs) wo un h bo ta tr ro ot Bm bk) (some (.int (tdM n (Bm 6) 2 11))) (MW (Int32.ofNat n) (Int32.ofNat vs) wo un h bo ta tr ro ot Bm bk) := by
  refine PX3_toldOf (Nat.le_of_ble_eq_true rfl) ?_
  intro G hT hC hR
  refine mB hT 21 rfl ?_
  exact hR _ (by decide) _ _ _ rfl rfl
set_option maxRecDepth 20000 in
theorem m_toldOf_2_12 {n vs : Nat} {wo un h : Int64} {bo : Nat → Int32} {ta tr ro ot : Nat → Int64} {Bm : Nat → Nat → Nat → Int32} {bk : Nat → Nat → Int32} (hn : n ≤ 4) : KX3_toldOf l D ca ad [.ref 0, .int 2, .int 12] (MW (Int32.ofNat n) (Int32.ofNat vs) wo un h bo ta tr ro ot Bm bk) (some (.int (tdM n (Bm 6) 2 12))) (MW (Int32.ofNat n) (Int32.ofNat vs) wo un h bo ta tr ro ot Bm bk) := by
  refine PX3_toldOf (Nat.le_of_ble_eq_true rfl) ?_
  intro G hT hC hR
  refine mB hT 20 rfl ?_
  exact hR _ (by decide) _ _ _ rfl rfl
set_option maxRecDepth 20000 in
theorem m_toldOf_2_13 {n vs : Nat} {wo un h : Int64} {bo : Nat → Int32} {ta tr ro ot : Nat → Int64} {Bm : Nat → Nat → Nat → Int32} {bk : Nat → Nat → Int32} (hn : n ≤ 4) : KX3_toldOf l D ca ad [.ref 0, .int 2, .int 13] (MW (Int32.ofNat n) (Int32.ofNat vs) wo un h bo ta tr ro ot Bm bk) (some (.int (tdM n (Bm 6) 2 13))) (MW (Int32.ofNat n) (Int32.ofNat vs) wo un h bo ta tr ro ot Bm bk) := by
  refine PX3_toldOf (Nat.le_of_ble_eq_true rfl) ?_
  intro G hT hC hR
  refine mB hT 20 rfl ?_
  exact hR _ (by decide) _ _ _ rfl rfl
set_option maxRecDepth 20000 in
theorem m_toldOf_2_14 {n vs : Nat} {wo un h : Int64} {bo : Nat → Int32} {ta tr ro ot : Nat → Int64} {Bm : Nat → Nat → Nat → Int32} {bk : Nat → Nat → Int32} (hn : n ≤ 4) : KX3_toldOf l D ca ad [.ref 0, .int 2, .int 14] (MW (Int32.ofNat n) (Int32.ofNat vs) wo un h bo ta tr ro ot Bm bk) (some (.int (tdM n (Bm 6) 2 14))) (MW (Int32.ofNat n) (Int32.ofNat vs) wo un h bo ta tr ro ot Bm bk) := by
  refine PX3_toldOf (Nat.le_of_ble_eq_true rfl) ?_
  intro G hT hC hR
  refine mB hT 20 rfl ?_
  exact hR _ (by decide) _ _ _ rfl rfl
set_option maxRecDepth 20000 in
theorem m_toldOf_2_15 {n vs : Nat} {wo un h : Int64} {bo : Nat → Int32} {ta tr ro ot : Nat → Int64} {Bm : Nat → Nat → Nat → Int32} {bk : Nat → Nat → Int32} (hn : n ≤ 4) : KX3_toldOf l D ca ad [.ref 0, .int 2, .int 15] (MW (Int32.ofNat n) (Int32.ofNat vs) wo un h bo ta tr ro ot Bm bk) (some (.int (tdM n (Bm 6) 2 15))) (MW (Int32.ofNat n) (Int32.ofNat vs) wo un h bo ta tr ro ot Bm bk) := by
  refine PX3_toldOf (Nat.le_of_ble_eq_true rfl) ?_
  intro G hT hC hR
  refine mB hT 20 rfl ?_
  exact hR _ (by decide) _ _ _ rfl rfl
set_option maxRecDepth 20000 in
theorem m_toldOf_2_16 {n vs : Nat} {wo un h : Int64} {bo : Nat → Int32} {ta tr ro ot : Nat → Int64} {Bm : Nat → Nat → Nat → Int32} {bk : Nat → Nat → Int32} (hn : n ≤ 4) : KX3_toldOf l D ca ad [.ref 0, .int 2, .int 16] (MW (Int32.ofNat n) (Int32.ofNat vs) wo un h bo ta tr ro ot Bm bk) (some (.int (tdM n (Bm 6) 2 16))) (MW (Int32.ofNat n) (Int32.ofNat vs) wo un h bo ta tr ro ot Bm bk) := by
  refine PX3_toldOf (Nat.le_of_ble_eq_true rfl) ?_
  intro G hT hC hR
  refine mB hT 20 rfl ?_
  exact hR _ (by decide) _ _ _ rfl rfl
set_option maxRecDepth 20000 in
theorem m_toldOf_2_17 {n vs : Nat} {wo un h : Int64} {bo : Nat → Int32} {ta tr ro ot : Nat → Int64} {Bm : Nat → Nat → Nat → Int32} {bk : Nat → Nat → Int32} (hn : n ≤ 4) : KX3_toldOf l D ca ad [.ref 0, .int 2, .int 17] (MW (Int32.ofNat n) (Int32.ofNat vs) wo un h bo ta tr ro ot Bm bk) (some (.int (tdM n (Bm 6) 2 17))) (MW (Int32.ofNat n) (Int32.ofNat vs) wo un h bo ta tr ro ot Bm bk) := by
  refine PX3_toldOf (Nat.le_of_ble_eq_true rfl) ?_
  intro G hT hC hR
  refine mB hT 20 rfl ?_
  exact hR _ (by decide) _ _ _ rfl rfl
set_option maxRecDepth 20000 in
theorem m_toldOf_2_18 {n vs : Nat} {wo un h : Int64} {bo : Nat → Int32} {ta tr ro ot : Nat → Int64} {Bm : Nat → Nat → Nat → Int32} {bk : Nat → Nat → Int32} (hn : n ≤ 4) : KX3_toldOf l D ca ad [.ref 0, .int 2, .int 18] (MW (Int32.ofNat n) (Int32.ofNat vs) wo un h bo ta tr ro ot Bm bk) (some (.int (tdM n (Bm 6) 2 18))) (MW (Int32.ofNat n) (Int32.ofNat vs) wo un h bo ta tr ro ot Bm bk) := by
  refine PX3_toldOf (Nat.le_of_ble_eq_true rfl) ?_
  intro G hT hC hR
  refine mB hT 20 rfl ?_
  exact hR _ (by decide) _ _ _ rfl rfl
set_option maxRecDepth 20000 in
theorem m_toldOf_2_19 {n vs : Nat} {wo un h : Int64} {bo : Nat → Int32} {ta tr ro ot : Nat → Int64} {Bm : Nat → Nat → Nat → Int32} {bk : Nat → Nat → Int32} (hn : n ≤ 4) : KX3_toldOf l D ca ad [.ref 0, .int 2, .int 19] (MW (Int32.ofNat n) (Int32.ofNat vs) wo un h bo ta tr ro ot Bm bk) (some (.int (tdM n (Bm 6) 2 19))) (MW (Int32.ofNat n) (Int32.ofNat vs) wo un h bo ta tr ro ot Bm bk) := by
  refine PX3_toldOf (Nat.le_of_ble_eq_true rfl) ?_
  intro G hT hC hR
  refine mB hT 20 rfl ?_
  exact hR _ (by decide) _ _ _ rfl rfl
set_option maxRecDepth 20000 in
theorem m_toldOf_2_20 {n vs : Nat} {wo un h : Int64} {bo : Nat → Int32} {ta tr ro ot : Nat → Int64} {Bm : Nat → Nat → Nat → Int32} {bk : Nat → Nat → Int32} (hn : n ≤ 4) : KX3_toldOf l D ca ad [.ref 0, .int 2, .int 20] (MW (Int32.ofNat n) (Int32.ofNat vs) wo un h bo ta tr ro ot Bm bk) (some (.int (tdM n (Bm 6) 2 20))) (MW (Int32.ofNat n) (Int32.ofNat vs) wo un h bo ta tr ro ot Bm bk) := by
  refine PX3_toldOf (Nat.le_of_ble_eq_true rfl) ?_
  intro G hT hC hR
  refine mB hT 20 rfl ?_
  exact hR _ (by decide) _ _ _ rfl rfl
set_option maxRecDepth 20000 in
theorem m_toldOf_2_21 {n vs : Nat} {wo un h : Int64} {bo : Nat → Int32} {ta tr ro ot : Nat → Int64} {Bm : Nat → Nat → Nat → Int32} {bk : Nat → Nat → Int32} (hn : n ≤ 4) : KX3_toldOf l D ca ad [.ref 0, .int 2, .int 21] (MW (Int32.ofNat n) (Int32.ofNat vs) wo un h bo ta tr ro ot Bm bk) (some (.int (tdM n (Bm 6) 2 21))) (MW (Int32.ofNat n) (Int32.ofNat vs) wo un h bo ta tr ro ot Bm bk) := by
  refine PX3_toldOf (Nat.le_of_ble_eq_true rfl) ?_
  intro G hT hC hR
  refine mB hT 8 rfl ?_
  exact hR _ (by decide) _ _ _ rfl rfl
set_option maxRecDepth 20000 in
theorem m_toldOf_2_22 {n vs : Nat} {wo un h : Int64} {bo : Nat → Int32} {ta tr ro ot : Nat → Int64} {Bm : Nat → Nat → Nat → Int32} {bk : Nat → Nat → Int32} (hn : n ≤ 4) : KX3_toldOf l D ca ad [.ref 0, .int 2, .int 22] (MW (Int32.ofNat n) (Int32.ofNat vs) wo un h bo ta tr ro ot Bm bk) (some (.int (tdM n (Bm 6) 2 22))) (MW (Int32.ofNat n) (Int32.ofNat vs) wo un h bo ta tr ro ot Bm bk) := by
  refine PX3_toldOf (Nat.le_of_ble_eq_true rfl) ?_
  intro G hT hC hR
  refine mB hT 8 rfl ?_
  exact hR _ (by decide) _ _ _ rfl rfl
set_option maxRecDepth 20000 in
theorem m_toldOf_3_0 {n vs : Nat} {wo un h : Int64} {bo : Nat → Int32} {ta tr ro ot : Nat → Int64} {Bm : Nat → Nat → Nat → Int32} {bk : Nat → Nat → Int32} (hn : n ≤ 4) : KX3_toldOf l D ca ad [.ref 0, .int 3, .int 0] (MW (Int32.ofNat n) (Int32.ofNat vs) wo un h bo ta tr ro ot Bm bk) (some (.int (tdM n (Bm 6) 3 0))) (MW (Int32.ofNat n) (Int32.ofNat vs) wo un h bo ta tr ro ot Bm bk) := by
  refine PX3_toldOf (Nat.le_of_ble_eq_true rfl) ?_
  intro G hT hC hR
  refine mB hT 8 rfl ?_
  exact hR _ (by decide) _ _ _ rfl rfl
set_option maxRecDepth 20000 in
theorem m_toldOf_3_1 {n vs : Nat} {wo un h : Int64} {bo : Nat → Int32} {ta tr ro ot : Nat → Int64} {Bm : Nat → Nat → Nat → Int32} {bk : Nat → Nat → Int32} (hn : n ≤ 4) : KX3_toldOf l D ca ad [.ref 0, .int 3, .int 1] (MW (Int32.ofNat n) (Int32.ofNat vs) wo un h bo ta tr ro ot Bm bk) (some (.int (tdM n (Bm 6) 3 1))) (MW (Int32.ofNat n) (Int32.ofNat vs) wo un h bo ta tr ro ot Bm bk) := by
  refine PX3_toldOf (Nat.le_of_ble_eq_true rfl) ?_
  intro G hT hC hR
  refine mB hT 8 rfl ?_
  exact hR _ (by decide) _ _ _ rfl rfl
set_option maxRecDepth 20000 in
theorem m_toldOf_3_2 {n vs : Nat} {wo un h : Int64} {bo : Nat → Int32} {ta tr ro ot : Nat → Int64} {Bm : Nat → Nat → Nat → Int32} {bk : Nat → Nat → Int32} (hn : n ≤ 4) : KX3_toldOf l D ca ad [.ref 0, .int 3, .int 2] (MW (Int32.ofNat n) (Int32.ofNat vs) wo un h bo ta tr ro ot Bm bk) (some (.int (tdM n (Bm 6) 3 2))) (MW (Int32.ofNat n) (Int32.ofNat vs) wo un h bo ta tr ro ot Bm bk) := by
  refine PX3_toldOf (Nat.le_of_ble_eq_true rfl) ?_
  intro G hT hC hR
  refine mB hT 5 rfl ?_
  refine hC.1 _ 0 [_, _] _ _ _ _ _ (m_main_6_3) rfl rfl (Nat.le_of_ble_eq_true rfl) rfl ?_
  exact hR _ (by decide) _ _ _ rfl rfl
set_option maxRecDepth 20000 in
theorem m_toldOf_3_3 {n vs : Nat} {wo un h : Int64} {bo : Nat → Int32} {ta tr ro ot : Nat → Int64} {Bm : Nat → Nat → Nat → Int32} {bk : Nat → Nat → Int32} (hn : n ≤ 4) : KX3_toldOf l D ca ad [.ref 0, .int 3, .int 3] (MW (Int32.ofNat n) (Int32.ofNat vs) wo un h bo ta tr ro ot Bm bk) (some (.int (tdM n (Bm 6) 3 3))) (MW (Int32.ofNat n) (Int32.ofNat vs) wo un h bo ta tr ro ot Bm bk) := by
  refine PX3_toldOf (Nat.le_of_ble_eq_true rfl) ?_
  intro G hT hC hR
  refine mB hT 5 rfl ?_
  refine hC.2 _ 0 [_, _] _ _ _ _ _ (m_all_6_3 hn) rfl rfl (Nat.le_of_ble_eq_true rfl) rfl ?_
  exact hR _ (by decide) _ _ _ rfl rfl
set_option maxRecDepth 20000 in
theorem m_toldOf_3_4 {n vs : Nat} {wo un h : Int64} {bo : Nat → Int32} {ta tr ro ot : Nat → Int64} {Bm : Nat → Nat → Nat → Int32} {bk : Nat → Nat → Int32} (hn : n ≤ 4) : KX3_toldOf l D ca ad [.ref 0, .int 3, .int 4] (MW (Int32.ofNat n) (Int32.ofNat vs) wo un h bo ta tr ro ot Bm bk) (some (.int (tdM n (Bm 6) 3 4))) (MW (Int32.ofNat n) (Int32.ofNat vs) wo un h bo ta tr ro ot Bm bk) := by
  refine PX3_toldOf (Nat.le_of_ble_eq_true rfl) ?_
  intro G hT hC hR
  refine mB hT 18 rfl ?_
  exact hR _ (by decide) _ _ _ rfl rfl
set_option maxRecDepth 20000 in
theorem m_toldOf_3_5 {n vs : Nat} {wo un h : Int64} {bo : Nat → Int32} {ta tr ro ot : Nat → Int64} {Bm : Nat → Nat → Nat → Int32} {bk : Nat → Nat → Int32} (hn : n ≤ 4) : KX3_toldOf l D ca ad [.ref 0, .int 3, .int 5] (MW (Int32.ofNat n) (Int32.ofNat vs) wo un h bo ta tr ro ot Bm bk) (some (.int (tdM n (Bm 6) 3 5))) (MW (Int32.ofNat n) (Int32.ofNat vs) wo un h bo ta tr ro ot Bm bk) := by
  refine PX3_toldOf (Nat.le_of_ble_eq_true rfl) ?_
  intro G hT hC hR
  refine mB hT 18 rfl ?_
  exact hR _ (by decide) _ _ _ rfl rfl
set_option maxRecDepth 20000 in
theorem m_toldOf_3_6 {n vs : Nat} {wo un h : Int64} {bo : Nat → Int32} {ta tr ro ot : Nat → Int64} {Bm : Nat → Nat → Nat → Int32} {bk : Nat → Nat → Int32} (hn : n ≤ 4) : KX3_toldOf l D ca ad [.ref 0, .int 3, .int 6] (MW (Int32.ofNat n) (Int32.ofNat vs) wo un h bo ta tr ro ot Bm bk) (some (.int (tdM n (Bm 6) 3 6))) (MW (Int32.ofNat n) (Int32.ofNat vs) wo un h bo ta tr ro ot Bm bk) := by
  refine PX3_toldOf (Nat.le_of_ble_eq_true rfl) ?_
  intro G hT hC hR
  refine mB hT 18 rfl ?_
  exact hR _ (by decide) _ _ _ rfl rfl
set_option maxRecDepth 20000 in
theorem m_toldOf_3_7 {n vs : Nat} {wo un h : Int64} {bo : Nat → Int32} {ta tr ro ot : Nat → Int64} {Bm : Nat → Nat → Nat → Int32} {bk : Nat → Nat → Int32} (hn : n ≤ 4) : KX3_toldOf l D ca ad [.ref 0, .int 3, .int 7] (MW (Int32.ofNat n) (Int32.ofNat vs) wo un h bo ta tr ro ot Bm bk) (some (.int (tdM n (Bm 6) 3 7))) (MW (Int32.ofNat n) (Int32.ofNat vs) wo un h bo ta tr ro ot Bm bk) := by
  refine PX3_toldOf (Nat.le_of_ble_eq_true rfl) ?_
  intro G hT hC hR
  refine mB hT 18 rfl ?_
  exact hR _ (by decide) _ _ _ rfl rfl
set_option maxRecDepth 20000 in
theorem m_toldOf_3_8 {n vs : Nat} {wo un h : Int64} {bo : Nat → Int32} {ta tr ro ot : Nat → Int64} {Bm : Nat → Nat → Nat → Int32} {bk : Nat → Nat → Int32} (hn : n ≤ 4) : KX3_toldOf l D ca ad [.ref 0, .int 3, .int 8] (MW (Int32.ofNat n) (Int32.ofNat vs) wo un h bo ta tr ro ot Bm bk) (some (.int (tdM n (Bm 6) 3 8))) (MW (Int32.ofNat n) (Int32.ofNat vs) wo un h bo ta tr ro ot Bm bk) := by
  refine PX3_toldOf (Nat.le_of_ble_eq_true rfl) ?_
  intro G hT hC hR
  refine mB hT 21 rfl ?_
  exact hR _ (by decide) _ _ _ rfl rfl
set_option maxRecDepth 20000 in
theorem m_toldOf_3_9 {n vs : Nat} {wo un h : Int64} {bo : Nat → Int32} {ta tr ro ot : Nat → Int64} {Bm : Nat → Nat → Nat → Int32} {bk : Nat → Nat → Int32} (hn : n ≤ 4) : KX3_toldOf l D ca ad [.ref 0, .int 3, .int 9] (MW (Int32.ofNat n) (Int32.ofNat vs) wo un h bo ta tr ro ot Bm bk) (some (.int (tdM n (Bm 6) 3 9))) (MW (Int32.ofNat n) (Int32.ofNat vs) wo un h bo ta tr ro ot Bm bk) := by
  refine PX3_toldOf (Nat.le_of_ble_eq_true rfl) ?_
  intro G hT hC hR
  refine mB hT 21 rfl ?_
  exact hR _ (by decide) _ _ _ rfl rfl
set_option maxRecDepth 20000 in
theorem m_toldOf_3_10 {n vs : Nat} {wo un h : Int64} {bo : Nat → Int32} {ta tr ro ot : Nat → Int64} {Bm : Nat → Nat → Nat → Int32} {bk : Nat → Nat → Int32} (hn : n ≤ 4) : KX3_toldOf l D ca ad [.ref 0, .int 3, .int 10] (MW (Int32.ofNat n) (Int32.ofNat vs) wo un h bo ta tr ro ot Bm bk) (some (.int (tdM n (Bm 6) 3 10))) (MW (Int32.ofNat n) (Int32.ofNat vs) wo un h bo ta tr ro ot Bm bk) := by
  refine PX3_toldOf (Nat.le_of_ble_eq_true rfl) ?_
  intro G hT hC hR
  refine mB hT 21 rfl ?_
  exact hR _ (by decide) _ _ _ rfl rfl
set_option maxRecDepth 20000 in
theorem m_toldOf_3_11 {n vs : Nat} {wo un h : Int64} {bo : Nat → Int32} {ta tr ro ot : Nat → Int64} {Bm : Nat → Nat → Nat → Int32} {bk : Nat → Nat → Int32} (hn : n ≤ 4) : KX3_toldOf l D ca ad [.ref 0, .int 3, .int 11] (MW (Int32.ofNat n) (Int32.ofNat vs) wo un h bo ta tr ro ot Bm bk) (some (.int (tdM n (Bm 6) 3 11))) (MW (Int32.ofNat n) (Int32.ofNat vs) wo un h bo ta tr ro ot Bm bk) := by
  refine PX3_toldOf (Nat.le_of_ble_eq_true rfl) ?_
  intro G hT hC hR
  refine mB hT 21 rfl ?_
  exact hR _ (by decide) _ _ _ rfl rfl
set_option maxRecDepth 20000 in
theorem m_toldOf_3_12 {n vs : Nat} {wo un h : Int64} {bo : Nat → Int32} {ta tr ro ot : Nat → Int64} {Bm : Nat → Nat → Nat → Int32} {bk : Nat → Nat → Int32} (hn : n ≤ 4) : KX3_toldOf l D ca ad [.ref 0, .int 3, .int 12] (MW (Int32.ofNat n) (Int32.ofNat vs) wo un h bo ta tr ro ot Bm bk) (some (.int (tdM n (Bm 6) 3 12))) (MW (Int32.ofNat n) (Int32.ofNat vs) wo un h bo ta tr ro ot Bm bk) := by
  refine PX3_toldOf (Nat.le_of_ble_eq_true rfl) ?_
  intro G hT hC hR
  refine mB hT 20 rfl ?_
  exact hR _ (by decide) _ _ _ rfl rfl
set_option maxRecDepth 20000 in
theorem m_toldOf_3_13 {n vs : Nat} {wo un h : Int64} {bo : Nat → Int32} {ta tr ro ot : Nat → Int64} {Bm : Nat → Nat → Nat → Int32} {bk : Nat → Nat → Int32} (hn : n ≤ 4) : KX3_toldOf l D ca ad [.ref 0, .int 3, .int 13] (MW (Int32.ofNat n) (Int32.ofNat vs) wo un h bo ta tr ro ot Bm bk) (some (.int (tdM n (Bm 6) 3 13))) (MW (Int32.ofNat n) (Int32.ofNat vs) wo un h bo ta tr ro ot Bm bk) := by
  refine PX3_toldOf (Nat.le_of_ble_eq_true rfl) ?_
  intro G hT hC hR
  refine mB hT 20 rfl ?_
  exact hR _ (by decide) _ _ _ rfl rfl
set_option maxRecDepth 20000 in
theorem m_toldOf_3_14 {n vs : Nat} {wo un h : Int64} {bo : Nat → Int32} {ta tr ro ot : Nat → Int64} {Bm : Nat → Nat → Nat → Int32} {bk : Nat → Nat → Int32} (hn : n ≤ 4) : KX3_toldOf l D ca ad [.ref 0, .int 3, .int 14] (MW (Int32.ofNat n) (Int32.ofNat vs) wo un h bo ta tr ro ot Bm bk) (some (.int (tdM n (Bm 6) 3 14))) (MW (Int32.ofNat n) (Int32.ofNat vs) wo un h bo ta tr ro ot Bm bk) := by
  refine PX3_toldOf (Nat.le_of_ble_eq_true rfl) ?_
  intro G hT hC hR
  refine mB hT 20 rfl ?_
  exact hR _ (by decide) _ _ _ rfl rfl
set_option maxRecDepth 20000 in
theorem m_toldOf_3_15 {n vs : Nat} {wo un h : Int64} {bo : Nat → Int32} {ta tr ro ot : Nat → Int64} {Bm : Nat → Nat → Nat → Int32} {bk : Nat → Nat → Int32} (hn : n ≤ 4) : KX3_toldOf l D ca ad [.ref 0, .int 3, .int 15] (MW (Int32.ofNat n) (Int32.ofNat vs) wo un h bo ta tr ro ot Bm bk) (some (.int (tdM n (Bm 6) 3 15))) (MW (Int32.ofNat n) (Int32.ofNat vs) wo un h bo ta tr ro ot Bm bk) := by
  refine PX3_toldOf (Nat.le_of_ble_eq_true rfl) ?_
  intro G hT hC hR
  refine mB hT 20 rfl ?_
  exact hR _ (by decide) _ _ _ rfl rfl
set_option maxRecDepth 20000 in
theorem m_toldOf_3_16 {n vs : Nat} {wo un h : Int64} {bo : Nat → Int32} {ta tr ro ot : Nat → Int64} {Bm : Nat → Nat → Nat → Int32} {bk : Nat → Nat → Int32} (hn : n ≤ 4) : KX3_toldOf l D ca ad [.ref 0, .int 3, .int 16] (MW (Int32.ofNat n) (Int32.ofNat vs) wo un h bo ta tr ro ot Bm bk) (some (.int (tdM n (Bm 6) 3 16))) (MW (Int32.ofNat n) (Int32.ofNat vs) wo un h bo ta tr ro ot Bm bk) := by
  refine PX3_toldOf (Nat.le_of_ble_eq_true rfl) ?_
  intro G hT hC hR
  refine mB hT 20 rfl ?_
  exact hR _ (by decide) _ _ _ rfl rfl
set_option maxRecDepth 20000 in
theorem m_toldOf_3_17 {n vs : Nat} {wo un h : Int64} {bo : Nat → Int32} {ta tr ro ot : Nat → Int64} {Bm : Nat → Nat → Nat → Int32} {bk : Nat → Nat → Int32} (hn : n ≤ 4) : KX3_toldOf l D ca ad [.ref 0, .int 3, .int 17] (MW (Int32.ofNat n) (Int32.ofNat vs) wo un h bo ta tr ro ot Bm bk) (some (.int (tdM n (Bm 6) 3 17))) (MW (Int32.ofNat n) (Int32.ofNat vs) wo un h bo ta tr ro ot Bm bk) := by
  refine PX3_toldOf (Nat.le_of_ble_eq_true rfl) ?_
  intro G hT hC hR
  refine mB hT 20 rfl ?_
  exact hR _ (by decide) _ _ _ rfl rfl
set_option maxRecDepth 20000 in
theorem m_toldOf_3_18 {n vs : Nat} {wo un h : Int64} {bo : Nat → Int32} {ta tr ro ot : Nat → Int64} {Bm : Nat → Nat → Nat → Int32} {bk : Nat → Nat → Int32} (hn : n ≤ 4) : KX3_toldOf l D ca ad [.ref 0, .int 3, .int 18] (MW (Int32.ofNat n) (Int32.ofNat vs) wo un h bo ta tr ro ot Bm bk) (some (.int (tdM n (Bm 6) 3 18))) (MW (Int32.ofNat n) (Int32.ofNat vs) wo un h bo ta tr ro ot Bm bk) := by
  refine PX3_toldOf (Nat.le_of_ble_eq_true rfl) ?_
  intro G hT hC hR
  refine mB hT 20 rfl ?_
  exact hR _ (by decide) _ _ _ rfl rfl
set_option maxRecDepth 20000 in
theorem m_toldOf_3_19 {n vs : Nat} {wo un h : Int64} {bo : Nat → Int32} {ta tr ro ot : Nat → Int64} {Bm : Nat → Nat → Nat → Int32} {bk : Nat → Nat → Int32} (hn : n ≤ 4) : KX3_toldOf l D ca ad [.ref 0, .int 3, .int 19] (MW (Int32.ofNat n) (Int32.ofNat vs) wo un h bo ta tr ro ot Bm bk) (some (.int (tdM n (Bm 6) 3 19))) (MW (Int32.ofNat n) (Int32.ofNat vs) wo un h bo ta tr ro ot Bm bk) := by
  refine PX3_toldOf (Nat.le_of_ble_eq_true rfl) ?_
  intro G hT hC hR
  refine mB hT 20 rfl ?_
  exact hR _ (by decide) _ _ _ rfl rfl
set_option maxRecDepth 20000 in
theorem m_toldOf_3_20 {n vs : Nat} {wo un h : Int64} {bo : Nat → Int32} {ta tr ro ot : Nat → Int64} {Bm : Nat → Nat → Nat → Int32} {bk : Nat → Nat → Int32} (hn : n ≤ 4) : KX3_toldOf l D ca ad [.ref 0, .int 3, .int 20] (MW (Int32.ofNat n) (Int32.ofNat vs) wo un h bo ta tr ro ot Bm bk) (some (.int (tdM n (Bm 6) 3 20))) (MW (Int32.ofNat n) (Int32.ofNat vs) wo un h bo ta tr ro ot Bm bk) := by
  refine PX3_toldOf (Nat.le_of_ble_eq_true rfl) ?_
  intro G hT hC hR
  refine mB hT 20 rfl ?_
  exact hR _ (by decide) _ _ _ rfl rfl
set_option maxRecDepth 20000 in
theorem m_toldOf_3_21 {n vs : Nat} {wo un h : Int64} {bo : Nat → Int32} {ta tr ro ot : Nat → Int64} {Bm : Nat → Nat → Nat → Int32} {bk : Nat → Nat → Int32} (hn : n ≤ 4) : KX3_toldOf l D ca ad [.ref 0, .int 3, .int 21] (MW (Int32.ofNat n) (Int32.ofNat vs) wo un h bo ta tr ro ot Bm bk) (some (.int (tdM n (Bm 6) 3 21))) (MW (Int32.ofNat n) (Int32.ofNat vs) wo un h bo ta tr ro ot Bm bk) := by
  refine PX3_toldOf (Nat.le_of_ble_eq_true rfl) ?_
  intro G hT hC hR
  refine mB hT 8 rfl ?_
  exact hR _ (by decide) _ _ _ rfl rfl
set_option maxRecDepth 20000 in
theorem m_toldOf_3_22 {n vs : Nat} {wo un h : Int64} {bo : Nat → Int32} {ta tr ro ot : Nat → Int64} {Bm : Nat → Nat → Nat → Int32} {bk : Nat → Nat → Int32} (hn : n ≤ 4) : KX3_toldOf l D ca ad [.ref 0, .int 3, .int 22] (MW (Int32.ofNat n) (Int32.ofNat vs) wo un h bo ta tr ro ot Bm bk) (some (.int (tdM n (Bm 6) 3 22))) (MW (Int32.ofNat n) (Int32.ofNat vs) wo un h bo ta tr ro ot Bm bk) := by
  refine PX3_toldOf (Nat.le_of_ble_eq_true rfl) ?_
  intro G hT hC hR
  refine mB hT 8 rfl ?_
  exact hR _ (by decide) _ _ _ rfl rfl
theorem m_toldOf {n vs : Nat} {wo un h : Int64} {bo : Nat → Int32} {ta tr ro ot : Nat → Int64} {Bm : Nat → Nat → Nat → Int32} {bk : Nat → Nat → Int32} {i q : Nat} (hi : i < 4) (hn : n ≤ 4) (hq : q < 23) : KX3_toldOf l D ca ad [.ref 0, .int (Int32.ofNat i), .int (Int32.ofNat q)] (MW (Int32.ofNat n) (Int32.ofNat vs) wo un h bo ta tr ro ot Bm bk) (some (.int (tdM n (Bm 6) i q))) (MW (Int32.ofNat n) (Int32.ofNat vs) wo un h bo ta tr ro ot Bm bk) := by
  match i, hi with
  | 0, _ =>
    match q, hq with
    | 0, _ => exact m_toldOf_0_0 hn
    | 1, _ => exact m_toldOf_0_1 hn
    | 2, _ => exact m_toldOf_0_2 hn
    | 3, _ => exact m_toldOf_0_3 hn
    | 4, _ => exact m_toldOf_0_4 hn
    | 5, _ => exact m_toldOf_0_5 hn
    | 6, _ => exact m_toldOf_0_6 hn
    | 7, _ => exact m_toldOf_0_7 hn
    | 8, _ => exact m_toldOf_0_8 hn
    | 9, _ => exact m_toldOf_0_9 hn
    | 10, _ => exact m_toldOf_0_10 hn
    | 11, _ => exact m_toldOf_0_11 hn
    | 12, _ => exact m_toldOf_0_12 hn
    | 13, _ => exact m_toldOf_0_13 hn
    | 14, _ => exact m_toldOf_0_14 hn
    | 15, _ => exact m_toldOf_0_15 hn
    | 16, _ => exact m_toldOf_0_16 hn
    | 17, _ => exact m_toldOf_0_17 hn
    | 18, _ => exact m_toldOf_0_18 hn
    | 19, _ => exact m_toldOf_0_19 hn
    | 20, _ => exact m_toldOf_0_20 hn
    | 21, _ => exact m_toldOf_0_21 hn
    | 22, _ => exact m_toldOf_0_22 hn
    | q + 23, hq => omega
  | 1, _ =>
    match q, hq with
    | 0, _ => exact m_toldOf_1_0 hn
    | 1, _ => exact m_toldOf_1_1 hn
    | 2, _ => exact m_toldOf_1_2 hn
    | 3, _ => exact m_toldOf_1_3 hn
    | 4, _ => exact m_toldOf_1_4 hn
    | 5, _ => exact m_toldOf_1_5 hn
    | 6, _ => exact m_toldOf_1_6 hn
    | 7, _ => exact m_toldOf_1_7 hn
    | 8, _ => exact m_toldOf_1_8 hn
    | 9, _ => exact m_toldOf_1_9 hn
    | 10, _ => exact m_toldOf_1_10 hn
    | 11, _ => exact m_toldOf_1_11 hn
    | 12, _ => exact m_toldOf_1_12 hn
    | 13, _ => exact m_toldOf_1_13 hn
    | 14, _ => exact m_toldOf_1_14 hn
    | 15, _ => exact m_toldOf_1_15 hn
    | 16, _ => exact m_toldOf_1_16 hn
    | 17, _ => exact m_toldOf_1_17 hn
    | 18, _ => exact m_toldOf_1_18 hn
    | 19, _ => exact m_toldOf_1_19 hn
    | 20, _ => exact m_toldOf_1_20 hn
    | 21, _ => exact m_toldOf_1_21 hn
    | 22, _ => exact m_toldOf_1_22 hn
    | q + 23, hq => omega
  | 2, _ =>
    match q, hq with
    | 0, _ => exact m_toldOf_2_0 hn
    | 1, _ => exact m_toldOf_2_1 hn
    | 2, _ => exact m_toldOf_2_2 hn
    | 3, _ => exact m_toldOf_2_3 hn
    | 4, _ => exact m_toldOf_2_4 hn
    | 5, _ => exact m_toldOf_2_5 hn
    | 6, _ => exact m_toldOf_2_6 hn
    | 7, _ => exact m_toldOf_2_7 hn
    | 8, _ => exact m_toldOf_2_8 hn
    | 9, _ => exact m_toldOf_2_9 hn
    | 10, _ => exact m_toldOf_2_10 hn
    | 11, _ => exact m_toldOf_2_11 hn
    | 12, _ => exact m_toldOf_2_12 hn
    | 13, _ => exact m_toldOf_2_13 hn
    | 14, _ => exact m_toldOf_2_14 hn
    | 15, _ => exact m_toldOf_2_15 hn
    | 16, _ => exact m_toldOf_2_16 hn
    | 17, _ => exact m_toldOf_2_17 hn
    | 18, _ => exact m_toldOf_2_18 hn
    | 19, _ => exact m_toldOf_2_19 hn
    | 20, _ => exact m_toldOf_2_20 hn
    | 21, _ => exact m_toldOf_2_21 hn
    | 22, _ => exact m_toldOf_2_22 hn
    | q + 23, hq => omega
  | 3, _ =>
    match q, hq with
    | 0, _ => exact m_toldOf_3_0 hn
    | 1, _ => exact m_toldOf_3_1 hn
    | 2, _ => exact m_toldOf_3_2 hn
    | 3, _ => exact m_toldOf_3_3 hn
    | 4, _ => exact m_toldOf_3_4 hn
    | 5, _ => exact m_toldOf_3_5 hn
    | 6, _ => exact m_toldOf_3_6 hn
    | 7, _ => exact m_toldOf_3_7 hn
    | 8, _ => exact m_toldOf_3_8 hn
    | 9, _ => exact m_toldOf_3_9 hn
    | 10, _ => exact m_toldOf_3_10 hn
    | 11, _ => exact m_toldOf_3_11 hn
    | 12, _ => exact m_toldOf_3_12 hn
    | 13, _ => exact m_toldOf_3_13 hn
    | 14, _ => exact m_toldOf_3_14 hn
    | 15, _ => exact m_toldOf_3_15 hn
    | 16, _ => exact m_toldOf_3_16 hn
    | 17, _ => exact m_toldOf_3_17 hn
    | 18, _ => exact m_toldOf_3_18 hn
    | 19, _ => exact m_toldOf_3_19 hn
    | 20, _ => exact m_toldOf_3_20 hn
    | 21, _ => exact m_toldOf_3_21 hn
    | 22, _ => exact m_toldOf_3_22 hn
    | q + 23, hq => omega
set_option maxRecDepth 20000 in
theorem m_told {n vs : Nat} {wo un h : Int64} {bo : Nat → Int32} {ta tr ro ot : Nat → Int64} {Bm : Nat → Nat → Nat → Int32} {bk : Nat → Nat → Int32} {i q : Nat} (hi : i < n) (hn : n ≤ 4) (hq : q < 23) : KX3_told l D ca ad [.ref 0, .int (Int32.ofNat i), .int (Int32.ofNat q)] (MW (Int32.ofNat n) (Int32.ofNat vs) wo un h bo ta tr ro ot Bm bk) (some (.int (tdM n (Bm 6) i q))) (MW (Int32.ofNat n) (Int32.ofNat vs) wo un h bo ta tr ro ot Bm bk) := by
  refine PX3_told (Nat.le_of_ble_eq_true rfl) ?_
  intro G hT hC hR
  refine mB hT 2 rfl ?_
  refine hC.1 _ 0 [_] _ _ _ _ _ (m_isMaking_t hi hn) rfl rfl (Nat.le_of_ble_eq_true rfl) rfl ?_
  refine mB hT 4 rfl ?_
  refine hC.2.1 _ [_, _, _] _ _ _ _ (m_in_t (nI_pos' (by omega)) (nI_le (b := 22) (by omega) (by omega))) rfl (Nat.le_of_ble_eq_true rfl) rfl ?_
  refine mB hT 4 rfl ?_
  refine hC.2.2 _ 0 [_, _] _ _ _ _ _ (m_toldOf (by omega) hn hq) rfl rfl (Nat.le_of_ble_eq_true rfl) rfl ?_
  refine mB hT 1 rfl ?_
  exact hR _ (by decide) _ _ _ rfl rfl
theorem m_eo {n vs : Nat} {wo un h : Int64} {bo : Nat → Int32} {ta tr ro ot : Nat → Int64} {Bm : Nat → Nat → Nat → Int32} {bk : Nat → Nat → Int32} {j i : Nat} (hj : j < 4) (hi : i < 4) (hn : n ≤ 4) : KX3_entryOf l D ca ad [.ref 0, .int 6, .int (Int32.ofNat j), .int (Int32.ofNat i)] (MW (Int32.ofNat n) (Int32.ofNat vs) wo un h bo ta tr ro ot Bm bk) (some (.int (ceM n (Bm 6) i j))) (MW (Int32.ofNat n) (Int32.ofNat vs) wo un h bo ta tr ro ot Bm bk) := by
  match j, hj, i, hi with
  | 0, _, 0, _ => exact m_entryOf_6_0_0 hn
  | 0, _, 1, _ => exact m_entryOf_6_0_1 hn
  | 0, _, 2, _ => exact m_entryOf_6_0_2 hn
  | 0, _, 3, _ => exact m_entryOf_6_0_3 hn
  | 1, _, 0, _ => exact m_entryOf_6_1_0 hn
  | 1, _, 1, _ => exact m_entryOf_6_1_1 hn
  | 1, _, 2, _ => exact m_entryOf_6_1_2 hn
  | 1, _, 3, _ => exact m_entryOf_6_1_3 hn
  | 2, _, 0, _ => exact m_entryOf_6_2_0 hn
  | 2, _, 1, _ => exact m_entryOf_6_2_1 hn
  | 2, _, 2, _ => exact m_entryOf_6_2_2 hn
  | 2, _, 3, _ => exact m_entryOf_6_2_3 hn
  | 3, _, 0, _ => exact m_entryOf_6_3_0 hn
  | 3, _, 1, _ => exact m_entryOf_6_3_1 hn
  | 3, _, 2, _ => exact m_entryOf_6_3_2 hn
  | 3, _, 3, _ => exact m_entryOf_6_3_3 hn
set_option maxRecDepth 20000 in
theorem m_entry {n vs : Nat} {wo un h : Int64} {bo : Nat → Int32} {ta tr ro ot : Nat → Int64} {Bm : Nat → Nat → Nat → Int32} {bk : Nat → Nat → Int32} {i j : Nat} (hj : j < n) (hi : i < n) (hn : n ≤ 4) : KX3_entry l D ca ad [.ref 0, .int (Int32.ofNat j), .int (Int32.ofNat i)] (MW (Int32.ofNat n) (Int32.ofNat vs) wo un h bo ta tr ro ot Bm bk) (some (.int (ceM n (Bm 6) i j))) (MW (Int32.ofNat n) (Int32.ofNat vs) wo un h bo ta tr ro ot Bm bk) := by
  refine PX3_entry (Nat.le_of_ble_eq_true rfl) ?_
  intro G hT hC hR
  refine mB hT 2 rfl ?_
  refine hC.1 _ 0 [_] _ _ _ _ _ (m_isMaking_t hj hn) rfl rfl (Nat.le_of_ble_eq_true rfl) rfl ?_
  refine mB hT 3 rfl ?_
  refine hC.2.1 _ 0 [_] _ _ _ _ _ (m_isMaking_t hi hn) rfl rfl (Nat.le_of_ble_eq_true rfl) rfl ?_
  refine mB hT 5 rfl ?_
  refine hC.2.2 _ 0 [_, _, _] _ _ _ _ _ (m_eo (by omega) (by omega) hn) rfl rfl (Nat.le_of_ble_eq_true rfl) rfl ?_
  refine mB hT 1 rfl ?_
  exact hR _ (by decide) _ _ _ rfl rfl
set_option maxRecDepth 20000 in
theorem m_put_0_0 {n vs : Nat} {wo un h : Int64} {bo : Nat → Int32} {ta tr ro ot : Nat → Int64} {Bm : Nat → Nat → Nat → Int32} {bk : Nat → Nat → Int32} (hj : 0 < n) (hn : n ≤ 4) {v : Int32} (h1 : 0 ≤ v) (h2 : v ≤ 20) : KX3_put l D ca ad [.ref 0, .int 0, .int 0, .int v] (MW (Int32.ofNat n) (Int32.ofNat vs) wo un h bo ta tr ro ot Bm bk) (some (.int (bk 0 0))) (MW (Int32.ofNat n) (Int32.ofNat vs) wo un h bo ta tr ro ot Bm (up bk 0 (up (bk 0) 0 v))) := by
  refine PX3_put (Nat.le_of_ble_eq_true rfl) ?_
  intro G hT hC hR
  refine mB hT 1 rfl ?_
  refine hC.1 _ [_] _ _ _ _ (m_isBasket_t (i := 0) (by decide)) rfl (Nat.le_of_ble_eq_true rfl) rfl ?_
  refine mB hT 3 rfl ?_
  refine hC.2.1 _ 0 [_] _ _ _ _ _ (m_isMaking_t (i := 0) hj hn) rfl rfl (Nat.le_of_ble_eq_true rfl) rfl ?_
  refine mB hT 4 rfl ?_
  refine hC.2.2 _ [_, _, _] _ _ _ _ (m_in_t h1 h2) rfl (Nat.le_of_ble_eq_true rfl) rfl ?_
  refine mB hT 20 rfl ?_
  exact hR _ (by decide) _ _ _ rfl rfl
set_option maxRecDepth 20000 in
theorem m_put_0_1 {n vs : Nat} {wo un h : Int64} {bo : Nat → Int32} {ta tr ro ot : Nat → Int64} {Bm : Nat → Nat → Nat → Int32} {bk : Nat → Nat → Int32} (hj : 1 < n) (hn : n ≤ 4) {v : Int32} (h1 : 0 ≤ v) (h2 : v ≤ 20) : KX3_put l D ca ad [.ref 0, .int 0, .int 1, .int v] (MW (Int32.ofNat n) (Int32.ofNat vs) wo un h bo ta tr ro ot Bm bk) (some (.int (bk 0 1))) (MW (Int32.ofNat n) (Int32.ofNat vs) wo un h bo ta tr ro ot Bm (up bk 0 (up (bk 0) 1 v))) := by
  refine PX3_put (Nat.le_of_ble_eq_true rfl) ?_
  intro G hT hC hR
  refine mB hT 1 rfl ?_
  refine hC.1 _ [_] _ _ _ _ (m_isBasket_t (i := 0) (by decide)) rfl (Nat.le_of_ble_eq_true rfl) rfl ?_
  refine mB hT 3 rfl ?_
  refine hC.2.1 _ 0 [_] _ _ _ _ _ (m_isMaking_t (i := 1) hj hn) rfl rfl (Nat.le_of_ble_eq_true rfl) rfl ?_
  refine mB hT 4 rfl ?_
  refine hC.2.2 _ [_, _, _] _ _ _ _ (m_in_t h1 h2) rfl (Nat.le_of_ble_eq_true rfl) rfl ?_
  refine mB hT 20 rfl ?_
  exact hR _ (by decide) _ _ _ rfl rfl
set_option maxRecDepth 20000 in
theorem m_put_0_2 {n vs : Nat} {wo un h : Int64} {bo : Nat → Int32} {ta tr ro ot : Nat → Int64} {Bm : Nat → Nat → Nat → Int32} {bk : Nat → Nat → Int32} (hj : 2 < n) (hn : n ≤ 4) {v : Int32} (h1 : 0 ≤ v) (h2 : v ≤ 20) : KX3_put l D ca ad [.ref 0, .int 0, .int 2, .int v] (MW (Int32.ofNat n) (Int32.ofNat vs) wo un h bo ta tr ro ot Bm bk) (some (.int (bk 0 2))) (MW (Int32.ofNat n) (Int32.ofNat vs) wo un h bo ta tr ro ot Bm (up bk 0 (up (bk 0) 2 v))) := by
  refine PX3_put (Nat.le_of_ble_eq_true rfl) ?_
  intro G hT hC hR
  refine mB hT 1 rfl ?_
  refine hC.1 _ [_] _ _ _ _ (m_isBasket_t (i := 0) (by decide)) rfl (Nat.le_of_ble_eq_true rfl) rfl ?_
  refine mB hT 3 rfl ?_
  refine hC.2.1 _ 0 [_] _ _ _ _ _ (m_isMaking_t (i := 2) hj hn) rfl rfl (Nat.le_of_ble_eq_true rfl) rfl ?_
  refine mB hT 4 rfl ?_
  refine hC.2.2 _ [_, _, _] _ _ _ _ (m_in_t h1 h2) rfl (Nat.le_of_ble_eq_true rfl) rfl ?_
  refine mB hT 20 rfl ?_
  exact hR _ (by decide) _ _ _ rfl rfl
set_option maxRecDepth 20000 in
theorem m_put_0_3 {n vs : Nat} {wo un h : Int64} {bo : Nat → Int32} {ta tr ro ot : Nat → Int64} {Bm : Nat → Nat → Nat → Int32} {bk : Nat → Nat → Int32} (hj : 3 < n) (hn : n ≤ 4) {v : Int32} (h1 : 0 ≤ v) (h2 : v ≤ 20) : KX3_put l D ca ad [.ref 0, .int 0, .int 3, .int v] (MW (Int32.ofNat n) (Int32.ofNat vs) wo un h bo ta tr ro ot Bm bk) (some (.int (bk 0 3))) (MW (Int32.ofNat n) (Int32.ofNat vs) wo un h bo ta tr ro ot Bm (up bk 0 (up (bk 0) 3 v))) := by
  refine PX3_put (Nat.le_of_ble_eq_true rfl) ?_
  intro G hT hC hR
  refine mB hT 1 rfl ?_
  refine hC.1 _ [_] _ _ _ _ (m_isBasket_t (i := 0) (by decide)) rfl (Nat.le_of_ble_eq_true rfl) rfl ?_
  refine mB hT 3 rfl ?_
  refine hC.2.1 _ 0 [_] _ _ _ _ _ (m_isMaking_t (i := 3) hj hn) rfl rfl (Nat.le_of_ble_eq_true rfl) rfl ?_
  refine mB hT 4 rfl ?_
  refine hC.2.2 _ [_, _, _] _ _ _ _ (m_in_t h1 h2) rfl (Nat.le_of_ble_eq_true rfl) rfl ?_
  refine mB hT 20 rfl ?_
  exact hR _ (by decide) _ _ _ rfl rfl
set_option maxRecDepth 20000 in
theorem m_put_1_0 {n vs : Nat} {wo un h : Int64} {bo : Nat → Int32} {ta tr ro ot : Nat → Int64} {Bm : Nat → Nat → Nat → Int32} {bk : Nat → Nat → Int32} (hj : 0 < n) (hn : n ≤ 4) {v : Int32} (h1 : 0 ≤ v) (h2 : v ≤ 20) : KX3_put l D ca ad [.ref 0, .int 1, .int 0, .int v] (MW (Int32.ofNat n) (Int32.ofNat vs) wo un h bo ta tr ro ot Bm bk) (some (.int (bk 1 0))) (MW (Int32.ofNat n) (Int32.ofNat vs) wo un h bo ta tr ro ot Bm (up bk 1 (up (bk 1) 0 v))) := by
  refine PX3_put (Nat.le_of_ble_eq_true rfl) ?_
  intro G hT hC hR
  refine mB hT 1 rfl ?_
  refine hC.1 _ [_] _ _ _ _ (m_isBasket_t (i := 1) (by decide)) rfl (Nat.le_of_ble_eq_true rfl) rfl ?_
  refine mB hT 3 rfl ?_
  refine hC.2.1 _ 0 [_] _ _ _ _ _ (m_isMaking_t (i := 0) hj hn) rfl rfl (Nat.le_of_ble_eq_true rfl) rfl ?_
  refine mB hT 4 rfl ?_
  refine hC.2.2 _ [_, _, _] _ _ _ _ (m_in_t h1 h2) rfl (Nat.le_of_ble_eq_true rfl) rfl ?_
  refine mB hT 20 rfl ?_
  exact hR _ (by decide) _ _ _ rfl rfl
set_option maxRecDepth 20000 in
theorem m_put_1_1 {n vs : Nat} {wo un h : Int64} {bo : Nat → Int32} {ta tr ro ot : Nat → Int64} {Bm : Nat → Nat → Nat → Int32} {bk : Nat → Nat → Int32} (hj : 1 < n) (hn : n ≤ 4) {v : Int32} (h1 : 0 ≤ v) (h2 : v ≤ 20) : KX3_put l D ca ad [.ref 0, .int 1, .int 1, .int v] (MW (Int32.ofNat n) (Int32.ofNat vs) wo un h bo ta tr ro ot Bm bk) (some (.int (bk 1 1))) (MW (Int32.ofNat n) (Int32.ofNat vs) wo un h bo ta tr ro ot Bm (up bk 1 (up (bk 1) 1 v))) := by
  refine PX3_put (Nat.le_of_ble_eq_true rfl) ?_
  intro G hT hC hR
  refine mB hT 1 rfl ?_
  refine hC.1 _ [_] _ _ _ _ (m_isBasket_t (i := 1) (by decide)) rfl (Nat.le_of_ble_eq_true rfl) rfl ?_
  refine mB hT 3 rfl ?_
  refine hC.2.1 _ 0 [_] _ _ _ _ _ (m_isMaking_t (i := 1) hj hn) rfl rfl (Nat.le_of_ble_eq_true rfl) rfl ?_
  refine mB hT 4 rfl ?_
  refine hC.2.2 _ [_, _, _] _ _ _ _ (m_in_t h1 h2) rfl (Nat.le_of_ble_eq_true rfl) rfl ?_
  refine mB hT 20 rfl ?_
  exact hR _ (by decide) _ _ _ rfl rfl
set_option maxRecDepth 20000 in
theorem m_put_1_2 {n vs : Nat} {wo un h : Int64} {bo : Nat → Int32} {ta tr ro ot : Nat → Int64} {Bm : Nat → Nat → Nat → Int32} {bk : Nat → Nat → Int32} (hj : 2 < n) (hn : n ≤ 4) {v : Int32} (h1 : 0 ≤ v) (h2 : v ≤ 20) : KX3_put l D ca ad [.ref 0, .int 1, .int 2, .int v] (MW (Int32.ofNat n) (Int32.ofNat vs) wo un h bo ta tr ro ot Bm bk) (some (.int (bk 1 2))) (MW (Int32.ofNat n) (Int32.ofNat vs) wo un h bo ta tr ro ot Bm (up bk 1 (up (bk 1) 2 v))) := by
  refine PX3_put (Nat.le_of_ble_eq_true rfl) ?_
  intro G hT hC hR
  refine mB hT 1 rfl ?_
  refine hC.1 _ [_] _ _ _ _ (m_isBasket_t (i := 1) (by decide)) rfl (Nat.le_of_ble_eq_true rfl) rfl ?_
  refine mB hT 3 rfl ?_
  refine hC.2.1 _ 0 [_] _ _ _ _ _ (m_isMaking_t (i := 2) hj hn) rfl rfl (Nat.le_of_ble_eq_true rfl) rfl ?_
  refine mB hT 4 rfl ?_
  refine hC.2.2 _ [_, _, _] _ _ _ _ (m_in_t h1 h2) rfl (Nat.le_of_ble_eq_true rfl) rfl ?_
  refine mB hT 20 rfl ?_
  exact hR _ (by decide) _ _ _ rfl rfl
set_option maxRecDepth 20000 in
theorem m_put_1_3 {n vs : Nat} {wo un h : Int64} {bo : Nat → Int32} {ta tr ro ot : Nat → Int64} {Bm : Nat → Nat → Nat → Int32} {bk : Nat → Nat → Int32} (hj : 3 < n) (hn : n ≤ 4) {v : Int32} (h1 : 0 ≤ v) (h2 : v ≤ 20) : KX3_put l D ca ad [.ref 0, .int 1, .int 3, .int v] (MW (Int32.ofNat n) (Int32.ofNat vs) wo un h bo ta tr ro ot Bm bk) (some (.int (bk 1 3))) (MW (Int32.ofNat n) (Int32.ofNat vs) wo un h bo ta tr ro ot Bm (up bk 1 (up (bk 1) 3 v))) := by
  refine PX3_put (Nat.le_of_ble_eq_true rfl) ?_
  intro G hT hC hR
  refine mB hT 1 rfl ?_
  refine hC.1 _ [_] _ _ _ _ (m_isBasket_t (i := 1) (by decide)) rfl (Nat.le_of_ble_eq_true rfl) rfl ?_
  refine mB hT 3 rfl ?_
  refine hC.2.1 _ 0 [_] _ _ _ _ _ (m_isMaking_t (i := 3) hj hn) rfl rfl (Nat.le_of_ble_eq_true rfl) rfl ?_
  refine mB hT 4 rfl ?_
  refine hC.2.2 _ [_, _, _] _ _ _ _ (m_in_t h1 h2) rfl (Nat.le_of_ble_eq_true rfl) rfl ?_
  refine mB hT 20 rfl ?_
  exact hR _ (by decide) _ _ _ rfl rfl
set_option maxRecDepth 20000 in
theorem m_put_2_0 {n vs : Nat} {wo un h : Int64} {bo : Nat → Int32} {ta tr ro ot : Nat → Int64} {Bm : Nat → Nat → Nat → Int32} {bk : Nat → Nat → Int32} (hj : 0 < n) (hn : n ≤ 4) {v : Int32} (h1 : 0 ≤ v) (h2 : v ≤ 20) : KX3_put l D ca ad [.ref 0, .int 2, .int 0, .int v] (MW (Int32.ofNat n) (Int32.ofNat vs) wo un h bo ta tr ro ot Bm bk) (some (.int (bk 2 0))) (MW (Int32.ofNat n) (Int32.ofNat vs) wo un h bo ta tr ro ot Bm (up bk 2 (up (bk 2) 0 v))) := by
  refine PX3_put (Nat.le_of_ble_eq_true rfl) ?_
  intro G hT hC hR
  refine mB hT 1 rfl ?_
  refine hC.1 _ [_] _ _ _ _ (m_isBasket_t (i := 2) (by decide)) rfl (Nat.le_of_ble_eq_true rfl) rfl ?_
  refine mB hT 3 rfl ?_
  refine hC.2.1 _ 0 [_] _ _ _ _ _ (m_isMaking_t (i := 0) hj hn) rfl rfl (Nat.le_of_ble_eq_true rfl) rfl ?_
  refine mB hT 4 rfl ?_
  refine hC.2.2 _ [_, _, _] _ _ _ _ (m_in_t h1 h2) rfl (Nat.le_of_ble_eq_true rfl) rfl ?_
  refine mB hT 20 rfl ?_
  exact hR _ (by decide) _ _ _ rfl rfl
set_option maxRecDepth 20000 in
theorem m_put_2_1 {n vs : Nat} {wo un h : Int64} {bo : Nat → Int32} {ta tr ro ot : Nat → Int64} {Bm : Nat → Nat → Nat → Int32} {bk : Nat → Nat → Int32} (hj : 1 < n) (hn : n ≤ 4) {v : Int32} (h1 : 0 ≤ v) (h2 : v ≤ 20) : KX3_put l D ca ad [.ref 0, .int 2, .int 1, .int v] (MW (Int32.ofNat n) (Int32.ofNat vs) wo un h bo ta tr ro ot Bm bk) (some (.int (bk 2 1))) (MW (Int32.ofNat n) (Int32.ofNat vs) wo un h bo ta tr ro ot Bm (up bk 2 (up (bk 2) 1 v))) := by
  refine PX3_put (Nat.le_of_ble_eq_true rfl) ?_
  intro G hT hC hR
  refine mB hT 1 rfl ?_
  refine hC.1 _ [_] _ _ _ _ (m_isBasket_t (i := 2) (by decide)) rfl (Nat.le_of_ble_eq_true rfl) rfl ?_
  refine mB hT 3 rfl ?_
  refine hC.2.1 _ 0 [_] _ _ _ _ _ (m_isMaking_t (i := 1) hj hn) rfl rfl (Nat.le_of_ble_eq_true rfl) rfl ?_
  refine mB hT 4 rfl ?_
  refine hC.2.2 _ [_, _, _] _ _ _ _ (m_in_t h1 h2) rfl (Nat.le_of_ble_eq_true rfl) rfl ?_
  refine mB hT 20 rfl ?_
  exact hR _ (by decide) _ _ _ rfl rfl
set_option maxRecDepth 20000 in
theorem m_put_2_2 {n vs : Nat} {wo un h : Int64} {bo : Nat → Int32} {ta tr ro ot : Nat → Int64} {Bm : Nat → Nat → Nat → Int32} {bk : Nat → Nat → Int32} (hj : 2 < n) (hn : n ≤ 4) {v : Int32} (h1 : 0 ≤ v) (h2 : v ≤ 20) : KX3_put l D ca ad [.ref 0, .int 2, .int 2, .int v] (MW (Int32.ofNat n) (Int32.ofNat vs) wo un h bo ta tr ro ot Bm bk) (some (.int (bk 2 2))) (MW (Int32.ofNat n) (Int32.ofNat vs) wo un h bo ta tr ro ot Bm (up bk 2 (up (bk 2) 2 v))) := by
  refine PX3_put (Nat.le_of_ble_eq_true rfl) ?_
  intro G hT hC hR
  refine mB hT 1 rfl ?_
  refine hC.1 _ [_] _ _ _ _ (m_isBasket_t (i := 2) (by decide)) rfl (Nat.le_of_ble_eq_true rfl) rfl ?_
  refine mB hT 3 rfl ?_
  refine hC.2.1 _ 0 [_] _ _ _ _ _ (m_isMaking_t (i := 2) hj hn) rfl rfl (Nat.le_of_ble_eq_true rfl) rfl ?_
  refine mB hT 4 rfl ?_
  refine hC.2.2 _ [_, _, _] _ _ _ _ (m_in_t h1 h2) rfl (Nat.le_of_ble_eq_true rfl) rfl ?_
  refine mB hT 20 rfl ?_
  exact hR _ (by decide) _ _ _ rfl rfl
set_option maxRecDepth 20000 in
theorem m_put_2_3 {n vs : Nat} {wo un h : Int64} {bo : Nat → Int32} {ta tr ro ot : Nat → Int64} {Bm : Nat → Nat → Nat → Int32} {bk : Nat → Nat → Int32} (hj : 3 < n) (hn : n ≤ 4) {v : Int32} (h1 : 0 ≤ v) (h2 : v ≤ 20) : KX3_put l D ca ad [.ref 0, .int 2, .int 3, .int v] (MW (Int32.ofNat n) (Int32.ofNat vs) wo un h bo ta tr ro ot Bm bk) (some (.int (bk 2 3))) (MW (Int32.ofNat n) (Int32.ofNat vs) wo un h bo ta tr ro ot Bm (up bk 2 (up (bk 2) 3 v))) := by
  refine PX3_put (Nat.le_of_ble_eq_true rfl) ?_
  intro G hT hC hR
  refine mB hT 1 rfl ?_
  refine hC.1 _ [_] _ _ _ _ (m_isBasket_t (i := 2) (by decide)) rfl (Nat.le_of_ble_eq_true rfl) rfl ?_
  refine mB hT 3 rfl ?_
  refine hC.2.1 _ 0 [_] _ _ _ _ _ (m_isMaking_t (i := 3) hj hn) rfl rfl (Nat.le_of_ble_eq_true rfl) rfl ?_
  refine mB hT 4 rfl ?_
  refine hC.2.2 _ [_, _, _] _ _ _ _ (m_in_t h1 h2) rfl (Nat.le_of_ble_eq_true rfl) rfl ?_
  refine mB hT 20 rfl ?_
  exact hR _ (by decide) _ _ _ rfl rfl
set_option maxRecDepth 20000 in
theorem m_put_3_0 {n vs : Nat} {wo un h : Int64} {bo : Nat → Int32} {ta tr ro ot : Nat → Int64} {Bm : Nat → Nat → Nat → Int32} {bk : Nat → Nat → Int32} (hj : 0 < n) (hn : n ≤ 4) {v : Int32} (h1 : 0 ≤ v) (h2 : v ≤ 20) : KX3_put l D ca ad [.ref 0, .int 3, .int 0, .int v] (MW (Int32.ofNat n) (Int32.ofNat vs) wo un h bo ta tr ro ot Bm bk) (some (.int (bk 3 0))) (MW (Int32.ofNat n) (Int32.ofNat vs) wo un h bo ta tr ro ot Bm (up bk 3 (up (bk 3) 0 v))) := by
  refine PX3_put (Nat.le_of_ble_eq_true rfl) ?_
  intro G hT hC hR
  refine mB hT 1 rfl ?_
  refine hC.1 _ [_] _ _ _ _ (m_isBasket_t (i := 3) (by decide)) rfl (Nat.le_of_ble_eq_true rfl) rfl ?_
  refine mB hT 3 rfl ?_
  refine hC.2.1 _ 0 [_] _ _ _ _ _ (m_isMaking_t (i := 0) hj hn) rfl rfl (Nat.le_of_ble_eq_true rfl) rfl ?_
  refine mB hT 4 rfl ?_
  refine hC.2.2 _ [_, _, _] _ _ _ _ (m_in_t h1 h2) rfl (Nat.le_of_ble_eq_true rfl) rfl ?_
  refine mB hT 20 rfl ?_
  exact hR _ (by decide) _ _ _ rfl rfl
set_option maxRecDepth 20000 in
theorem m_put_3_1 {n vs : Nat} {wo un h : Int64} {bo : Nat → Int32} {ta tr ro ot : Nat → Int64} {Bm : Nat → Nat → Nat → Int32} {bk : Nat → Nat → Int32} (hj : 1 < n) (hn : n ≤ 4) {v : Int32} (h1 : 0 ≤ v) (h2 : v ≤ 20) : KX3_put l D ca ad [.ref 0, .int 3, .int 1, .int v] (MW (Int32.ofNat n) (Int32.ofNat vs) wo un h bo ta tr ro ot Bm bk) (some (.int (bk 3 1))) (MW (Int32.ofNat n) (Int32.ofNat vs) wo un h bo ta tr ro ot Bm (up bk 3 (up (bk 3) 1 v))) := by
  refine PX3_put (Nat.le_of_ble_eq_true rfl) ?_
  intro G hT hC hR
  refine mB hT 1 rfl ?_
  refine hC.1 _ [_] _ _ _ _ (m_isBasket_t (i := 3) (by decide)) rfl (Nat.le_of_ble_eq_true rfl) rfl ?_
  refine mB hT 3 rfl ?_
  refine hC.2.1 _ 0 [_] _ _ _ _ _ (m_isMaking_t (i := 1) hj hn) rfl rfl (Nat.le_of_ble_eq_true rfl) rfl ?_
  refine mB hT 4 rfl ?_
  refine hC.2.2 _ [_, _, _] _ _ _ _ (m_in_t h1 h2) rfl (Nat.le_of_ble_eq_true rfl) rfl ?_
  refine mB hT 20 rfl ?_
  exact hR _ (by decide) _ _ _ rfl rfl
set_option maxRecDepth 20000 in
theorem m_put_3_2 {n vs : Nat} {wo un h : Int64} {bo : Nat → Int32} {ta tr ro ot : Nat → Int64} {Bm : Nat → Nat → Nat → Int32} {bk : Nat → Nat → Int32} (hj : 2 < n) (hn : n ≤ 4) {v : Int32} (h1 : 0 ≤ v) (h2 : v ≤ 20) : KX3_put l D ca ad [.ref 0, .int 3, .int 2, .int v] (MW (Int32.ofNat n) (Int32.ofNat vs) wo un h bo ta tr ro ot Bm bk) (some (.int (bk 3 2))) (MW (Int32.ofNat n) (Int32.ofNat vs) wo un h bo ta tr ro ot Bm (up bk 3 (up (bk 3) 2 v))) := by
  refine PX3_put (Nat.le_of_ble_eq_true rfl) ?_
  intro G hT hC hR
  refine mB hT 1 rfl ?_
  refine hC.1 _ [_] _ _ _ _ (m_isBasket_t (i := 3) (by decide)) rfl (Nat.le_of_ble_eq_true rfl) rfl ?_
  refine mB hT 3 rfl ?_
  refine hC.2.1 _ 0 [_] _ _ _ _ _ (m_isMaking_t (i := 2) hj hn) rfl rfl (Nat.le_of_ble_eq_true rfl) rfl ?_
  refine mB hT 4 rfl ?_
  refine hC.2.2 _ [_, _, _] _ _ _ _ (m_in_t h1 h2) rfl (Nat.le_of_ble_eq_true rfl) rfl ?_
  refine mB hT 20 rfl ?_
  exact hR _ (by decide) _ _ _ rfl rfl
set_option maxRecDepth 20000 in
theorem m_put_3_3 {n vs : Nat} {wo un h : Int64} {bo : Nat → Int32} {ta tr ro ot : Nat → Int64} {Bm : Nat → Nat → Nat → Int32} {bk : Nat → Nat → Int32} (hj : 3 < n) (hn : n ≤ 4) {v : Int32} (h1 : 0 ≤ v) (h2 : v ≤ 20) : KX3_put l D ca ad [.ref 0, .int 3, .int 3, .int v] (MW (Int32.ofNat n) (Int32.ofNat vs) wo un h bo ta tr ro ot Bm bk) (some (.int (bk 3 3))) (MW (Int32.ofNat n) (Int32.ofNat vs) wo un h bo ta tr ro ot Bm (up bk 3 (up (bk 3) 3 v))) := by
  refine PX3_put (Nat.le_of_ble_eq_true rfl) ?_
  intro G hT hC hR
  refine mB hT 1 rfl ?_
  refine hC.1 _ [_] _ _ _ _ (m_isBasket_t (i := 3) (by decide)) rfl (Nat.le_of_ble_eq_true rfl) rfl ?_
  refine mB hT 3 rfl ?_
  refine hC.2.1 _ 0 [_] _ _ _ _ _ (m_isMaking_t (i := 3) hj hn) rfl rfl (Nat.le_of_ble_eq_true rfl) rfl ?_
  refine mB hT 4 rfl ?_
  refine hC.2.2 _ [_, _, _] _ _ _ _ (m_in_t h1 h2) rfl (Nat.le_of_ble_eq_true rfl) rfl ?_
  refine mB hT 20 rfl ?_
  exact hR _ (by decide) _ _ _ rfl rfl
theorem m_put {n vs : Nat} {wo un h : Int64} {bo : Nat → Int32} {ta tr ro ot : Nat → Int64} {Bm : Nat → Nat → Nat → Int32} {bk : Nat → Nat → Int32} {b j : Nat} (hb : b < 4) (hj : j < n) (hn : n ≤ 4) {v : Int32} (h1 : 0 ≤ v) (h2 : v ≤ 20) : KX3_put l D ca ad [.ref 0, .int (Int32.ofNat b), .int (Int32.ofNat j), .int v] (MW (Int32.ofNat n) (Int32.ofNat vs) wo un h bo ta tr ro ot Bm bk) (some (.int (bk b j))) (MW (Int32.ofNat n) (Int32.ofNat vs) wo un h bo ta tr ro ot Bm (up bk b (up (bk b) j v))) := by
  match b, hb, j, hj with
  | 0, _, 0, hj => exact m_put_0_0 hj hn h1 h2
  | 0, _, 1, hj => exact m_put_0_1 hj hn h1 h2
  | 0, _, 2, hj => exact m_put_0_2 hj hn h1 h2
  | 0, _, 3, hj => exact m_put_0_3 hj hn h1 h2
  | 1, _, 0, hj => exact m_put_1_0 hj hn h1 h2
  | 1, _, 1, hj => exact m_put_1_1 hj hn h1 h2
  | 1, _, 2, hj => exact m_put_1_2 hj hn h1 h2
  | 1, _, 3, hj => exact m_put_1_3 hj hn h1 h2
  | 2, _, 0, hj => exact m_put_2_0 hj hn h1 h2
  | 2, _, 1, hj => exact m_put_2_1 hj hn h1 h2
  | 2, _, 2, hj => exact m_put_2_2 hj hn h1 h2
  | 2, _, 3, hj => exact m_put_2_3 hj hn h1 h2
  | 3, _, 0, hj => exact m_put_3_0 hj hn h1 h2
  | 3, _, 1, hj => exact m_put_3_1 hj hn h1 h2
  | 3, _, 2, hj => exact m_put_3_2 hj hn h1 h2
  | 3, _, 3, hj => exact m_put_3_3 hj hn h1 h2
  | _, _, j + 4, hj => omega
  | b + 4, hb, _, _ => omega
end
