theorem mIaldB {G : mS → Prop} {tb : List (Nat × mR)} (hT : mTb G tb) {pc m : Nat} (hm : (pc, r_iald m) ∈ tb) {lv : mL} {st : List Value} {b a : Nat} (hb : b < 4) (ha : a < 4) {n vs : Int32} {wo un h : Int64} {bo : Nat → Int32} {ta tr ro ot : Nat → Int64} {Bm : Nat → Nat → Nat → Int32} {bk : Nat → Nat → Int32} (k : G (m, lv, .int (bk b a) :: st, MW n vs wo un h bo ta tr ro ot Bm bk)) : G (pc, lv, .int (4 * Int32.ofNat b + Int32.ofNat a) :: .ref 8 :: st, MW n vs wo un h bo ta tr ro ot Bm bk) := by
  rcases (show b = 0 ∨ b = 1 ∨ b = 2 ∨ b = 3 by omega) with e | e | e | e <;> rcases (show a = 0 ∨ a = 1 ∨ a = 2 ∨ a = 3 by omega) with e2 | e2 | e2 | e2 <;> subst e <;> subst e2 <;> exact hT.1 _ hm _ _ _ _ rfl k
theorem neg_ne {x : Int64} (h : ¬ x = 0) : ¬ -x = 0 := fun q => h (by rw [← @Int64.neg_neg x, q]; rfl)
theorem mLaldA {G : mS → Prop} {tb : List (Nat × mR)} (hT : mTb G tb) {pc m : Nat} (hm : (pc, r_lald m) ∈ tb) {lv : mL} {st : List Value} {a : Nat} (ha : a < 4) {n vs : Int32} {wo un h : Int64} {bo : Nat → Int32} {ta tr ro ot : Nat → Int64} {Bm : Nat → Nat → Nat → Int32} {bk : Nat → Nat → Int32} (k : G (m, lv, .long (ta (5 * a)) :: st, MW n vs wo un h bo ta tr ro ot Bm bk)) : G (pc, lv, .int (5 * Int32.ofNat a) :: .ref 10 :: st, MW n vs wo un h bo ta tr ro ot Bm bk) := by
  rcases (show a = 0 ∨ a = 1 ∨ a = 2 ∨ a = 3 by omega) with e | e | e | e <;> subst e <;> exact hT.1 _ hm _ _ _ _ rfl k
theorem mLaldB {G : mS → Prop} {tb : List (Nat × mR)} (hT : mTb G tb) {pc m : Nat} (hm : (pc, r_lald m) ∈ tb) {lv : mL} {st : List Value} {b a : Nat} (hb : b < 4) (ha : a < 4) {n vs : Int32} {wo un h : Int64} {bo : Nat → Int32} {ta tr ro ot : Nat → Int64} {Bm : Nat → Nat → Nat → Int32} {bk : Nat → Nat → Int32} (k : G (m, lv, .long (ta (4 * b + a)) :: st, MW n vs wo un h bo ta tr ro ot Bm bk)) : G (pc, lv, .int (4 * Int32.ofNat b + Int32.ofNat a) :: .ref 10 :: st, MW n vs wo un h bo ta tr ro ot Bm bk) := by
  rcases (show b = 0 ∨ b = 1 ∨ b = 2 ∨ b = 3 by omega) with e | e | e | e <;> rcases (show a = 0 ∨ a = 1 ∨ a = 2 ∨ a = 3 by omega) with e2 | e2 | e2 | e2 <;> subst e <;> subst e2 <;> exact hT.1 _ hm _ _ _ _ rfl k
section
variable {l : Launch} {D : va_G} {ca : Nat → ClassId} {ad : Nat → Nat}

set_option maxRecDepth 20000 in
theorem m_way_U1 {n vs : Nat} {wo un h : Int64} {bo : Nat → Int32} {ta tr ro ot : Nat → Int64} {Bm : Nat → Nat → Nat → Int32} {bk : Nat → Nat → Int32} {b k a p c : Int32} (hfb : ¬ (0 ≤ b ∧ b < 4)) : KX3_way l D ca ad [.ref 0, .int b, .int k, .int a, .int p, .int c] (MW (Int32.ofNat n) (Int32.ofNat vs) wo un h bo ta tr ro ot Bm bk) (some (.long (-9000000000000000001))) (MW (Int32.ofNat n) (Int32.ofNat vs) wo un h bo ta tr ro ot Bm bk) := by
  refine PX3_way (Nat.le_of_ble_eq_true rfl) ?_
  intro G hT hC hR
  refine mB hT 1 rfl ?_
  refine hC.1 _ [_] _ _ _ _ (m_isBasket_f hfb) rfl (Nat.le_of_ble_eq_true rfl) rfl ?_
  refine mB hT 2 rfl ?_
  exact hR _ (by decide) _ _ _ rfl rfl
set_option maxRecDepth 20000 in
theorem m_way_U2 {n vs : Nat} {wo un h : Int64} {bo : Nat → Int32} {ta tr ro ot : Nat → Int64} {Bm : Nat → Nat → Nat → Int32} {bk : Nat → Nat → Int32} {b : Nat} (hb : b < 4) {k a p c : Int32} (hfk : ¬ (0 ≤ k ∧ k < 3)) : KX3_way l D ca ad [.ref 0, .int (Int32.ofNat b), .int k, .int a, .int p, .int c] (MW (Int32.ofNat n) (Int32.ofNat vs) wo un h bo ta tr ro ot Bm bk) (some (.long (-9000000000000000001))) (MW (Int32.ofNat n) (Int32.ofNat vs) wo un h bo ta tr ro ot Bm bk) := by
  refine PX3_way (Nat.le_of_ble_eq_true rfl) ?_
  intro G hT hC hR
  refine mB hT 1 rfl ?_
  refine hC.1 _ [_] _ _ _ _ (m_isBasket_t hb) rfl (Nat.le_of_ble_eq_true rfl) rfl ?_
  refine mB hT 2 rfl ?_
  refine hC.2.1 _ [_] _ _ _ _ (m_isStuff_f hfk) rfl (Nat.le_of_ble_eq_true rfl) rfl ?_
  refine mB hT 2 rfl ?_
  exact hR _ (by decide) _ _ _ rfl rfl
set_option maxRecDepth 20000 in
theorem m_way_U3 {n vs : Nat} {wo un h : Int64} {bo : Nat → Int32} {ta tr ro ot : Nat → Int64} {Bm : Nat → Nat → Nat → Int32} {bk : Nat → Nat → Int32} {b : Nat} (hb : b < 4) {k : Nat} (hk : k < 3) (hn : n ≤ 4) {a p c : Int32} (hfa : ¬ (0 ≤ a ∧ a < Int32.ofNat n)) : KX3_way l D ca ad [.ref 0, .int (Int32.ofNat b), .int (Int32.ofNat k), .int a, .int p, .int c] (MW (Int32.ofNat n) (Int32.ofNat vs) wo un h bo ta tr ro ot Bm bk) (some (.long (-9000000000000000001))) (MW (Int32.ofNat n) (Int32.ofNat vs) wo un h bo ta tr ro ot Bm bk) := by
  refine PX3_way (Nat.le_of_ble_eq_true rfl) ?_
  intro G hT hC hR
  refine mB hT 1 rfl ?_
  refine hC.1 _ [_] _ _ _ _ (m_isBasket_t hb) rfl (Nat.le_of_ble_eq_true rfl) rfl ?_
  refine mB hT 2 rfl ?_
  refine hC.2.1 _ [_] _ _ _ _ (m_isStuff_t hk) rfl (Nat.le_of_ble_eq_true rfl) rfl ?_
  refine mB hT 3 rfl ?_
  refine hC.2.2.1 _ 0 [_] _ _ _ _ _ (m_isMaking_f hn hfa) rfl rfl (Nat.le_of_ble_eq_true rfl) rfl ?_
  refine mB hT 2 rfl ?_
  exact hR _ (by decide) _ _ _ rfl rfl
set_option maxRecDepth 20000 in
theorem m_way_U4 {n vs : Nat} {wo un h : Int64} {bo : Nat → Int32} {ta tr ro ot : Nat → Int64} {Bm : Nat → Nat → Nat → Int32} {bk : Nat → Nat → Int32} {b : Nat} (hb : b < 4) {k : Nat} (hk : k < 3) {a : Nat} (ha : a < n) (hn : n ≤ 4) {p c : Int32} (hm : ¬ p = -1) (hfp : ¬ (0 ≤ p ∧ p < Int32.ofNat n)) : KX3_way l D ca ad [.ref 0, .int (Int32.ofNat b), .int (Int32.ofNat k), .int (Int32.ofNat a), .int p, .int c] (MW (Int32.ofNat n) (Int32.ofNat vs) wo un h bo ta tr ro ot Bm bk) (some (.long (-9000000000000000001))) (MW (Int32.ofNat n) (Int32.ofNat vs) wo un h bo ta tr ro ot Bm bk) := by
  refine PX3_way (Nat.le_of_ble_eq_true rfl) ?_
  intro G hT hC hR
  refine mB hT 1 rfl ?_
  refine hC.1 _ [_] _ _ _ _ (m_isBasket_t hb) rfl (Nat.le_of_ble_eq_true rfl) rfl ?_
  refine mB hT 2 rfl ?_
  refine hC.2.1 _ [_] _ _ _ _ (m_isStuff_t hk) rfl (Nat.le_of_ble_eq_true rfl) rfl ?_
  refine mB hT 3 rfl ?_
  refine hC.2.2.1 _ 0 [_] _ _ _ _ _ (m_isMaking_t ha hn) rfl rfl (Nat.le_of_ble_eq_true rfl) rfl ?_
  refine mB hT 4 rfl ?_
  refine mIf (fun hp => absurd hp hm) (fun _ => ?_)
  refine mB hT 2 rfl ?_
  refine hC.2.2.2.1 _ 0 [_] _ _ _ _ _ (m_isMaking_f hn hfp) rfl rfl (Nat.le_of_ble_eq_true rfl) rfl ?_
  refine mB hT 2 rfl ?_
  exact hR _ (by decide) _ _ _ rfl rfl
set_option maxRecDepth 20000 in
theorem m_way_U5n {n vs : Nat} {wo un h : Int64} {bo : Nat → Int32} {ta tr ro ot : Nat → Int64} {Bm : Nat → Nat → Nat → Int32} {bk : Nat → Nat → Int32} {b : Nat} (hb : b < 4) {k : Nat} (hk : k < 3) {a : Nat} (ha : a < n) (hn : n ≤ 4) {c : Int32} (hm : ¬ c = -1) (hfc : ¬ (0 ≤ c ∧ c < Int32.ofNat n)) : KX3_way l D ca ad [.ref 0, .int (Int32.ofNat b), .int (Int32.ofNat k), .int (Int32.ofNat a), .int (-1), .int c] (MW (Int32.ofNat n) (Int32.ofNat vs) wo un h bo ta tr ro ot Bm bk) (some (.long (-9000000000000000001))) (MW (Int32.ofNat n) (Int32.ofNat vs) wo un h bo ta tr ro ot Bm bk) := by
  refine PX3_way (Nat.le_of_ble_eq_true rfl) ?_
  intro G hT hC hR
  refine mB hT 1 rfl ?_
  refine hC.1 _ [_] _ _ _ _ (m_isBasket_t hb) rfl (Nat.le_of_ble_eq_true rfl) rfl ?_
  refine mB hT 2 rfl ?_
  refine hC.2.1 _ [_] _ _ _ _ (m_isStuff_t hk) rfl (Nat.le_of_ble_eq_true rfl) rfl ?_
  refine mB hT 3 rfl ?_
  refine hC.2.2.1 _ 0 [_] _ _ _ _ _ (m_isMaking_t ha hn) rfl rfl (Nat.le_of_ble_eq_true rfl) rfl ?_
  refine mB hT 7 rfl ?_
  refine mIf (fun hp => absurd hp hm) (fun _ => ?_)
  refine mB hT 2 rfl ?_
  refine hC.2.2.2.2.1 _ 0 [_] _ _ _ _ _ (m_isMaking_f hn hfc) rfl rfl (Nat.le_of_ble_eq_true rfl) rfl ?_
  refine mB hT 2 rfl ?_
  exact hR _ (by decide) _ _ _ rfl rfl
set_option maxRecDepth 20000 in
theorem m_way_U5 {n vs : Nat} {wo un h : Int64} {bo : Nat → Int32} {ta tr ro ot : Nat → Int64} {Bm : Nat → Nat → Nat → Int32} {bk : Nat → Nat → Int32} {b : Nat} (hb : b < 4) {k : Nat} (hk : k < 3) {a : Nat} (ha : a < n) (hn : n ≤ 4) {p : Nat} (hp : p < n) {c : Int32} (hm : ¬ c = -1) (hfc : ¬ (0 ≤ c ∧ c < Int32.ofNat n)) : KX3_way l D ca ad [.ref 0, .int (Int32.ofNat b), .int (Int32.ofNat k), .int (Int32.ofNat a), .int (Int32.ofNat p), .int c] (MW (Int32.ofNat n) (Int32.ofNat vs) wo un h bo ta tr ro ot Bm bk) (some (.long (-9000000000000000001))) (MW (Int32.ofNat n) (Int32.ofNat vs) wo un h bo ta tr ro ot Bm bk) := by
  refine PX3_way (Nat.le_of_ble_eq_true rfl) ?_
  intro G hT hC hR
  refine mB hT 1 rfl ?_
  refine hC.1 _ [_] _ _ _ _ (m_isBasket_t hb) rfl (Nat.le_of_ble_eq_true rfl) rfl ?_
  refine mB hT 2 rfl ?_
  refine hC.2.1 _ [_] _ _ _ _ (m_isStuff_t hk) rfl (Nat.le_of_ble_eq_true rfl) rfl ?_
  refine mB hT 3 rfl ?_
  refine hC.2.2.1 _ 0 [_] _ _ _ _ _ (m_isMaking_t ha hn) rfl rfl (Nat.le_of_ble_eq_true rfl) rfl ?_
  refine mB hT 4 rfl ?_
  refine mIf (fun hp => absurd hp (ofNat_ne_m1 (by omega))) (fun _ => ?_)
  refine mB hT 2 rfl ?_
  refine hC.2.2.2.1 _ 0 [_] _ _ _ _ _ (m_isMaking_t hp hn) rfl rfl (Nat.le_of_ble_eq_true rfl) rfl ?_
  refine mB hT 4 rfl ?_
  refine mIf (fun hp => absurd hp hm) (fun _ => ?_)
  refine mB hT 2 rfl ?_
  refine hC.2.2.2.2.1 _ 0 [_] _ _ _ _ _ (m_isMaking_f hn hfc) rfl rfl (Nat.le_of_ble_eq_true rfl) rfl ?_
  refine mB hT 2 rfl ?_
  exact hR _ (by decide) _ _ _ rfl rfl
set_option maxRecDepth 20000 in
theorem m_way_O1 {n vs : Nat} {wo un h : Int64} {bo : Nat → Int32} {ta tr ro ot : Nat → Int64} {Bm : Nat → Nat → Nat → Int32} {bk : Nat → Nat → Int32} {b : Nat} (hb : b < 4) {k : Nat} (hk : k < 3) {a : Nat} (ha : a < n) (hn : n ≤ 4) {c : Nat} (hc : c < n) : KX3_way l D ca ad [.ref 0, .int (Int32.ofNat b), .int (Int32.ofNat k), .int (Int32.ofNat a), .int (-1), .int (Int32.ofNat c)] (MW (Int32.ofNat n) (Int32.ofNat vs) wo un h bo ta tr ro ot Bm bk) (some (.long (-9000000000000000002))) (MW (Int32.ofNat n) (Int32.ofNat vs) wo un h bo ta tr ro ot Bm bk) := by
  refine PX3_way (Nat.le_of_ble_eq_true rfl) ?_
  intro G hT hC hR
  refine mB hT 1 rfl ?_
  refine hC.1 _ [_] _ _ _ _ (m_isBasket_t hb) rfl (Nat.le_of_ble_eq_true rfl) rfl ?_
  refine mB hT 2 rfl ?_
  refine hC.2.1 _ [_] _ _ _ _ (m_isStuff_t hk) rfl (Nat.le_of_ble_eq_true rfl) rfl ?_
  refine mB hT 3 rfl ?_
  refine hC.2.2.1 _ 0 [_] _ _ _ _ _ (m_isMaking_t ha hn) rfl rfl (Nat.le_of_ble_eq_true rfl) rfl ?_
  refine mB hT 7 rfl ?_
  refine mIf (fun hp => absurd hp (ofNat_ne_m1 (by omega))) (fun _ => ?_)
  refine mB hT 2 rfl ?_
  refine hC.2.2.2.2.1 _ 0 [_] _ _ _ _ _ (m_isMaking_t hc hn) rfl rfl (Nat.le_of_ble_eq_true rfl) rfl ?_
  refine mB hT 7 rfl ?_
  refine mIf (fun hp => absurd hp (ofNat_ne_m1 (by omega))) (fun _ => ?_)
  refine mB hT 1 rfl ?_
  exact hR _ (by decide) _ _ _ rfl rfl
set_option maxRecDepth 20000 in
theorem m_way_O2n {n vs : Nat} {wo un h : Int64} {bo : Nat → Int32} {ta tr ro ot : Nat → Int64} {Bm : Nat → Nat → Nat → Int32} {bk : Nat → Nat → Int32} {b : Nat} (hb : b < 4) {k : Nat} (hk : k < 3) {a : Nat} (ha : a < n) (hn : n ≤ 4) : KX3_way l D ca ad [.ref 0, .int (Int32.ofNat b), .int (Int32.ofNat k), .int (Int32.ofNat a), .int (Int32.ofNat a), .int (-1)] (MW (Int32.ofNat n) (Int32.ofNat vs) wo un h bo ta tr ro ot Bm bk) (some (.long (-9000000000000000002))) (MW (Int32.ofNat n) (Int32.ofNat vs) wo un h bo ta tr ro ot Bm bk) := by
  refine PX3_way (Nat.le_of_ble_eq_true rfl) ?_
  intro G hT hC hR
  refine mB hT 1 rfl ?_
  refine hC.1 _ [_] _ _ _ _ (m_isBasket_t hb) rfl (Nat.le_of_ble_eq_true rfl) rfl ?_
  refine mB hT 2 rfl ?_
  refine hC.2.1 _ [_] _ _ _ _ (m_isStuff_t hk) rfl (Nat.le_of_ble_eq_true rfl) rfl ?_
  refine mB hT 3 rfl ?_
  refine hC.2.2.1 _ 0 [_] _ _ _ _ _ (m_isMaking_t ha hn) rfl rfl (Nat.le_of_ble_eq_true rfl) rfl ?_
  refine mB hT 4 rfl ?_
  refine mIf (fun hp => absurd hp (ofNat_ne_m1 (by omega))) (fun _ => ?_)
  refine mB hT 2 rfl ?_
  refine hC.2.2.2.1 _ 0 [_] _ _ _ _ _ (m_isMaking_t ha hn) rfl rfl (Nat.le_of_ble_eq_true rfl) rfl ?_
  refine mB hT 7 rfl ?_
  refine mIf (fun hp => absurd hp (ofNat_ne_m1 (by omega))) (fun _ => ?_)
  refine mB hT 3 rfl ?_
  refine mIf (fun _ => ?_) (fun hn => absurd rfl hn)
  refine mB hT 1 rfl ?_
  exact hR _ (by decide) _ _ _ rfl rfl
set_option maxRecDepth 20000 in
theorem m_way_O2 {n vs : Nat} {wo un h : Int64} {bo : Nat → Int32} {ta tr ro ot : Nat → Int64} {Bm : Nat → Nat → Nat → Int32} {bk : Nat → Nat → Int32} {b : Nat} (hb : b < 4) {k : Nat} (hk : k < 3) {a : Nat} (ha : a < n) (hn : n ≤ 4) {c : Nat} (hc : c < n) : KX3_way l D ca ad [.ref 0, .int (Int32.ofNat b), .int (Int32.ofNat k), .int (Int32.ofNat a), .int (Int32.ofNat a), .int (Int32.ofNat c)] (MW (Int32.ofNat n) (Int32.ofNat vs) wo un h bo ta tr ro ot Bm bk) (some (.long (-9000000000000000002))) (MW (Int32.ofNat n) (Int32.ofNat vs) wo un h bo ta tr ro ot Bm bk) := by
  refine PX3_way (Nat.le_of_ble_eq_true rfl) ?_
  intro G hT hC hR
  refine mB hT 1 rfl ?_
  refine hC.1 _ [_] _ _ _ _ (m_isBasket_t hb) rfl (Nat.le_of_ble_eq_true rfl) rfl ?_
  refine mB hT 2 rfl ?_
  refine hC.2.1 _ [_] _ _ _ _ (m_isStuff_t hk) rfl (Nat.le_of_ble_eq_true rfl) rfl ?_
  refine mB hT 3 rfl ?_
  refine hC.2.2.1 _ 0 [_] _ _ _ _ _ (m_isMaking_t ha hn) rfl rfl (Nat.le_of_ble_eq_true rfl) rfl ?_
  refine mB hT 4 rfl ?_
  refine mIf (fun hp => absurd hp (ofNat_ne_m1 (by omega))) (fun _ => ?_)
  refine mB hT 2 rfl ?_
  refine hC.2.2.2.1 _ 0 [_] _ _ _ _ _ (m_isMaking_t ha hn) rfl rfl (Nat.le_of_ble_eq_true rfl) rfl ?_
  refine mB hT 4 rfl ?_
  refine mIf (fun hp => absurd hp (ofNat_ne_m1 (by omega))) (fun _ => ?_)
  refine mB hT 2 rfl ?_
  refine hC.2.2.2.2.1 _ 0 [_] _ _ _ _ _ (m_isMaking_t hc hn) rfl rfl (Nat.le_of_ble_eq_true rfl) rfl ?_
  refine mB hT 4 rfl ?_
  refine mIf (fun hp => absurd hp (ofNat_ne_m1 (by omega))) (fun _ => ?_)
  refine mB hT 3 rfl ?_
  refine mIf (fun _ => ?_) (fun hn => absurd rfl hn)
  refine mB hT 1 rfl ?_
  exact hR _ (by decide) _ _ _ rfl rfl
set_option maxRecDepth 20000 in
theorem m_way_O3 {n vs : Nat} {wo un h : Int64} {bo : Nat → Int32} {ta tr ro ot : Nat → Int64} {Bm : Nat → Nat → Nat → Int32} {bk : Nat → Nat → Int32} {b : Nat} (hb : b < 4) {k : Nat} (hk : k < 3) {a : Nat} (ha : a < n) (hn : n ≤ 4) {p : Nat} (hp : p < n) (hap : a ≠ p) : KX3_way l D ca ad [.ref 0, .int (Int32.ofNat b), .int (Int32.ofNat k), .int (Int32.ofNat a), .int (Int32.ofNat p), .int (Int32.ofNat p)] (MW (Int32.ofNat n) (Int32.ofNat vs) wo un h bo ta tr ro ot Bm bk) (some (.long (-9000000000000000002))) (MW (Int32.ofNat n) (Int32.ofNat vs) wo un h bo ta tr ro ot Bm bk) := by
  refine PX3_way (Nat.le_of_ble_eq_true rfl) ?_
  intro G hT hC hR
  refine mB hT 1 rfl ?_
  refine hC.1 _ [_] _ _ _ _ (m_isBasket_t hb) rfl (Nat.le_of_ble_eq_true rfl) rfl ?_
  refine mB hT 2 rfl ?_
  refine hC.2.1 _ [_] _ _ _ _ (m_isStuff_t hk) rfl (Nat.le_of_ble_eq_true rfl) rfl ?_
  refine mB hT 3 rfl ?_
  refine hC.2.2.1 _ 0 [_] _ _ _ _ _ (m_isMaking_t ha hn) rfl rfl (Nat.le_of_ble_eq_true rfl) rfl ?_
  refine mB hT 4 rfl ?_
  refine mIf (fun hp => absurd hp (ofNat_ne_m1 (by omega))) (fun _ => ?_)
  refine mB hT 2 rfl ?_
  refine hC.2.2.2.1 _ 0 [_] _ _ _ _ _ (m_isMaking_t hp hn) rfl rfl (Nat.le_of_ble_eq_true rfl) rfl ?_
  refine mB hT 4 rfl ?_
  refine mIf (fun hp => absurd hp (ofNat_ne_m1 (by omega))) (fun _ => ?_)
  refine mB hT 2 rfl ?_
  refine hC.2.2.2.2.1 _ 0 [_] _ _ _ _ _ (m_isMaking_t hp hn) rfl rfl (Nat.le_of_ble_eq_true rfl) rfl ?_
  refine mB hT 4 rfl ?_
  refine mIf (fun hp => absurd hp (ofNat_ne_m1 (by omega))) (fun _ => ?_)
  refine mB hT 3 rfl ?_
  refine mIf (fun hp => absurd hp (ofNat_ne (by omega) (by omega) hap)) (fun _ => ?_)
  refine mB hT 3 rfl ?_
  refine mIf (fun hp => absurd hp (ofNat_ne_m1 (by omega))) (fun _ => ?_)
  refine mB hT 3 rfl ?_
  refine mIf (fun _ => ?_) (fun hn => absurd rfl hn)
  refine mB hT 1 rfl ?_
  exact hR _ (by decide) _ _ _ rfl rfl
set_option maxRecDepth 20000 in
theorem m_way_Ba {n vs : Nat} {wo un h : Int64} {bo : Nat → Int32} {ta tr ro ot : Nat → Int64} {Bm : Nat → Nat → Nat → Int32} {bk : Nat → Nat → Int32} {b : Nat} (hb : b < 4) {k : Nat} (hk : k < 3) {a : Nat} (ha : a < n) (hn : n ≤ 4) (h0 : ((TnM n Bm 4 0) (5 * a)) = 0) : ∃ (wo2 : Int64) (bo2 : Nat → Int32) (ta2 tr2 : Nat → Int64), KX3_way l D ca ad [.ref 0, .int (Int32.ofNat b), .int (Int32.ofNat k), .int (Int32.ofNat a), .int (-1), .int (-1)] (MW (Int32.ofNat n) (Int32.ofNat vs) wo un h bo ta tr ro ot Bm bk) (some (.long (-9000000000000000004))) (MW (Int32.ofNat n) (Int32.ofNat vs) wo2 un h bo2 ta2 tr2 ro ot Bm bk) := by
  obtain ⟨tt, ett⟩ : ∃ z, z = TnM n Bm 4 0 := ⟨_, rfl⟩
  obtain ⟨dt, edt⟩ : ∃ z, z = dtM tt := ⟨_, rfl⟩
  rw [← ett] at h0
  refine ⟨dt, boX 4 0, tt, tt, ?_⟩
  refine PX3_way (Nat.le_of_ble_eq_true rfl) ?_
  intro G hT hC hR
  refine mB hT 1 rfl ?_
  refine hC.1 _ [_] _ _ _ _ (m_isBasket_t hb) rfl (Nat.le_of_ble_eq_true rfl) rfl ?_
  refine mB hT 2 rfl ?_
  refine hC.2.1 _ [_] _ _ _ _ (m_isStuff_t hk) rfl (Nat.le_of_ble_eq_true rfl) rfl ?_
  refine mB hT 3 rfl ?_
  refine hC.2.2.1 _ 0 [_] _ _ _ _ _ (m_isMaking_t ha hn) rfl rfl (Nat.le_of_ble_eq_true rfl) rfl ?_
  refine mB hT 16 rfl ?_
  refine mIf (fun hp => absurd hp (ofNat_ne_m1 (by omega))) (fun _ => ?_)
  refine mB hT 4 rfl ?_
  refine hC.2.2.2.2.2.1 _ 0 [] _ _ _ _ _ (show KX3_layNow l D ca ad _ _ none (MW (Int32.ofNat n) (Int32.ofNat vs) dt un h (boX 4 0) tt tt ro ot Bm bk) from (by rw [edt, ett]; exact m_layNow hn)) rfl rfl (Nat.le_of_ble_eq_true rfl) rfl ?_
  refine mB hT 7 rfl ?_
  refine mIaldB hT (List.mem_of_getElem? (i := 44) rfl) hb (by omega) ?_
  refine mB hT 7 rfl ?_
  refine mLaldA hT (List.mem_of_getElem? (i := 52) rfl) (by omega) ?_
  refine mB hT 13 rfl ?_
  refine mIf (fun _ => ?_) (fun hn => absurd (lc_eq.mpr h0) hn)
  refine mNf (lv2 := [(10, .int (Int32.ofNat a)), (8, .long (tt (5 * a))), (6, .long ((bk b a).toInt64)), (0, .ref 0), (1, .int (Int32.ofNat b)), (2, .int (Int32.ofNat k)), (3, .int (Int32.ofNat a)), (4, .int (-1)), (5, .int (-1))]) (st2 := []) rfl rfl ?_
  refine mB hT 1 rfl ?_
  exact hR _ (by decide) _ _ _ rfl rfl
set_option maxRecDepth 20000 in
theorem m_way_a {n vs : Nat} {wo un h : Int64} {bo : Nat → Int32} {ta tr ro ot : Nat → Int64} {Bm : Nat → Nat → Nat → Int32} {bk : Nat → Nat → Int32} {b : Nat} (hb : b < 4) {k : Nat} (hk : k < 3) {a : Nat} (ha : a < n) (hn : n ≤ 4) (h0 : ¬ ((TnM n Bm 4 0) (5 * a)) = 0) : ∃ (wo2 : Int64) (bo2 : Nat → Int32) (ta2 tr2 : Nat → Int64), KX3_way l D ca ad [.ref 0, .int (Int32.ofNat b), .int (Int32.ofNat k), .int (Int32.ofNat a), .int (-1), .int (-1)] (MW (Int32.ofNat n) (Int32.ofNat vs) wo un h bo ta tr ro ot Bm bk) (some (.long (wyM (((bk b a).toInt64) * (emM (Bm (bkM 4 0 a) a) k 1)) ((TnM n Bm 4 0) (5 * a))))) (MW (Int32.ofNat n) (Int32.ofNat vs) wo2 un h bo2 ta2 tr2 ro ot Bm bk) := by
  obtain ⟨tt, ett⟩ : ∃ z, z = TnM n Bm 4 0 := ⟨_, rfl⟩
  obtain ⟨dt, edt⟩ : ∃ z, z = dtM tt := ⟨_, rfl⟩
  rw [← ett] at h0
  rw [← ett]
  refine ⟨dt, boX 4 0, tt, tt, ?_⟩
  refine PX3_way (Nat.le_of_ble_eq_true rfl) ?_
  intro G hT hC hR
  refine mB hT 1 rfl ?_
  refine hC.1 _ [_] _ _ _ _ (m_isBasket_t hb) rfl (Nat.le_of_ble_eq_true rfl) rfl ?_
  refine mB hT 2 rfl ?_
  refine hC.2.1 _ [_] _ _ _ _ (m_isStuff_t hk) rfl (Nat.le_of_ble_eq_true rfl) rfl ?_
  refine mB hT 3 rfl ?_
  refine hC.2.2.1 _ 0 [_] _ _ _ _ _ (m_isMaking_t ha hn) rfl rfl (Nat.le_of_ble_eq_true rfl) rfl ?_
  refine mB hT 16 rfl ?_
  refine mIf (fun hp => absurd hp (ofNat_ne_m1 (by omega))) (fun _ => ?_)
  refine mB hT 4 rfl ?_
  refine hC.2.2.2.2.2.1 _ 0 [] _ _ _ _ _ (show KX3_layNow l D ca ad _ _ none (MW (Int32.ofNat n) (Int32.ofNat vs) dt un h (boX 4 0) tt tt ro ot Bm bk) from (by rw [edt, ett]; exact m_layNow hn)) rfl rfl (Nat.le_of_ble_eq_true rfl) rfl ?_
  refine mB hT 7 rfl ?_
  refine mIaldB hT (List.mem_of_getElem? (i := 44) rfl) hb (by omega) ?_
  refine mB hT 7 rfl ?_
  refine mLaldA hT (List.mem_of_getElem? (i := 52) rfl) (by omega) ?_
  refine mB hT 13 rfl ?_
  refine mIf (fun hp => absurd hp (fun q => h0 (lc_eq.mp q))) (fun _ => ?_)
  refine mNf (lv2 := [(10, .int (Int32.ofNat a)), (8, .long (tt (5 * a))), (6, .long ((bk b a).toInt64)), (0, .ref 0), (1, .int (Int32.ofNat b)), (2, .int (Int32.ofNat k)), (3, .int (Int32.ofNat a)), (4, .int (-1)), (5, .int (-1))]) (st2 := []) rfl rfl ?_
  refine mB hT 5 rfl ?_
  refine hC.2.2.2.2.2.2.1 _ 0 [_, _, _] _ _ _ _ _ (m_emi_4_0 k hk a 1 (by omega) (by decide)) rfl rfl (Nat.le_of_ble_eq_true rfl) rfl ?_
  refine mB hT 6 rfl ?_
  refine mIf (fun h1 => ?_) (fun h1 => ?_)
  · refine mB hT 2 rfl ?_
    refine hC.2.2.2.2.2.2.2.2 _ [_, _] _ _ _ _ (m_th h0) rfl (Nat.le_of_ble_eq_true rfl) rfl ?_
    exact hR _ (by decide) _ _ _ (congrArg (fun z => [Value.long z]) (if_neg (Int64.not_lt.mpr (lc_ge.mp h1))).symm) rfl
  · refine mB hT 4 rfl ?_
    refine hC.2.2.2.2.2.2.2.1 _ [_, _] _ _ _ _ (m_th (neg_ne h0)) rfl (Nat.le_of_ble_eq_true rfl) rfl ?_
    refine mB hT 1 rfl ?_
    exact hR _ (by decide) _ _ _ (congrArg (fun z => [Value.long z]) (if_pos (Int64.not_le.mp (fun q => h1 (lc_ge.mpr q)))).symm) rfl
set_option maxRecDepth 20000 in
theorem m_way_Bb {n vs : Nat} {wo un h : Int64} {bo : Nat → Int32} {ta tr ro ot : Nat → Int64} {Bm : Nat → Nat → Nat → Int32} {bk : Nat → Nat → Int32} {b : Nat} (hb : b < 4) {k : Nat} (hk : k < 3) {a : Nat} (ha : a < n) (hn : n ≤ 4) {p : Nat} (hp : p < n) (hap : a ≠ p) (h0 : (((TnM n Bm 4 0) (5 * a)) * ((TnM n Bm 4 0) (5 * p))) = 0) : ∃ (wo2 : Int64) (bo2 : Nat → Int32) (ta2 tr2 : Nat → Int64), KX3_way l D ca ad [.ref 0, .int (Int32.ofNat b), .int (Int32.ofNat k), .int (Int32.ofNat a), .int (Int32.ofNat p), .int (-1)] (MW (Int32.ofNat n) (Int32.ofNat vs) wo un h bo ta tr ro ot Bm bk) (some (.long (-9000000000000000004))) (MW (Int32.ofNat n) (Int32.ofNat vs) wo2 un h bo2 ta2 tr2 ro ot Bm bk) := by
  obtain ⟨tt, ett⟩ : ∃ z, z = TnM n Bm 4 0 := ⟨_, rfl⟩
  obtain ⟨dt, edt⟩ : ∃ z, z = dtM tt := ⟨_, rfl⟩
  rw [← ett] at h0
  refine ⟨dt, boX 4 0, tt, tt, ?_⟩
  refine PX3_way (Nat.le_of_ble_eq_true rfl) ?_
  intro G hT hC hR
  refine mB hT 1 rfl ?_
  refine hC.1 _ [_] _ _ _ _ (m_isBasket_t hb) rfl (Nat.le_of_ble_eq_true rfl) rfl ?_
  refine mB hT 2 rfl ?_
  refine hC.2.1 _ [_] _ _ _ _ (m_isStuff_t hk) rfl (Nat.le_of_ble_eq_true rfl) rfl ?_
  refine mB hT 3 rfl ?_
  refine hC.2.2.1 _ 0 [_] _ _ _ _ _ (m_isMaking_t ha hn) rfl rfl (Nat.le_of_ble_eq_true rfl) rfl ?_
  refine mB hT 4 rfl ?_
  refine mIf (fun hp => absurd hp (ofNat_ne_m1 (by omega))) (fun _ => ?_)
  refine mB hT 2 rfl ?_
  refine hC.2.2.2.1 _ 0 [_] _ _ _ _ _ (m_isMaking_t hp hn) rfl rfl (Nat.le_of_ble_eq_true rfl) rfl ?_
  refine mB hT 7 rfl ?_
  refine mIf (fun hp => absurd hp (ofNat_ne_m1 (by omega))) (fun _ => ?_)
  refine mB hT 3 rfl ?_
  refine mIf (fun hp => absurd hp (ofNat_ne (by omega) (by omega) hap)) (fun _ => ?_)
  refine mB hT 3 rfl ?_
  refine mIf (fun hp => absurd hp (ofNat_ne_m1 (by omega))) (fun _ => ?_)
  refine mB hT 3 rfl ?_
  refine mIf (fun hp => absurd hp (ofNat_ne_m1 (by omega))) (fun _ => ?_)
  refine mB hT 1 rfl ?_
  refine hC.2.2.2.2.2.1 _ 0 [] _ _ _ _ _ (show KX3_layNow l D ca ad _ _ none (MW (Int32.ofNat n) (Int32.ofNat vs) dt un h (boX 4 0) tt tt ro ot Bm bk) from (by rw [edt, ett]; exact m_layNow hn)) rfl rfl (Nat.le_of_ble_eq_true rfl) rfl ?_
  refine mB hT 7 rfl ?_
  refine mIaldB hT (List.mem_of_getElem? (i := 44) rfl) hb (by omega) ?_
  refine mB hT 7 rfl ?_
  refine mLaldA hT (List.mem_of_getElem? (i := 52) rfl) (by omega) ?_
  refine mB hT 6 rfl ?_
  refine mIf (fun hp => absurd hp (ofNat_ne_m1 (by omega))) (fun _ => ?_)
  refine mNf (lv2 := [(10, .int (Int32.ofNat a)), (8, .long (tt (5 * a))), (6, .long ((bk b a).toInt64)), (0, .ref 0), (1, .int (Int32.ofNat b)), (2, .int (Int32.ofNat k)), (3, .int (Int32.ofNat a)), (4, .int (Int32.ofNat p)), (5, .int (-1))]) (st2 := []) rfl rfl ?_
  refine mB hT 8 rfl ?_
  refine mLaldB hT (List.mem_of_getElem? (i := 67) rfl) (by omega) (by omega) ?_
  refine mB hT 9 rfl ?_
  refine mLaldA hT (List.mem_of_getElem? (i := 77) rfl) (by omega) ?_
  refine mB hT 11 rfl ?_
  refine mIf (fun _ => ?_) (fun hn => absurd (lc_eq.mpr h0) hn)
  refine mNf (lv2 := [(10, .int (Int32.ofNat p)), (8, .long ((tt (5 * a)) * (tt (5 * p)))), (6, .long (((bk b a).toInt64) * (-(tt (4 * p + a))))), (0, .ref 0), (1, .int (Int32.ofNat b)), (2, .int (Int32.ofNat k)), (3, .int (Int32.ofNat a)), (4, .int (Int32.ofNat p)), (5, .int (-1))]) (st2 := []) rfl rfl ?_
  refine mB hT 1 rfl ?_
  exact hR _ (by decide) _ _ _ rfl rfl
set_option maxRecDepth 20000 in
theorem m_way_b {n vs : Nat} {wo un h : Int64} {bo : Nat → Int32} {ta tr ro ot : Nat → Int64} {Bm : Nat → Nat → Nat → Int32} {bk : Nat → Nat → Int32} {b : Nat} (hb : b < 4) {k : Nat} (hk : k < 3) {a : Nat} (ha : a < n) (hn : n ≤ 4) {p : Nat} (hp : p < n) (hap : a ≠ p) (h0 : ¬ (((TnM n Bm 4 0) (5 * a)) * ((TnM n Bm 4 0) (5 * p))) = 0) : ∃ (wo2 : Int64) (bo2 : Nat → Int32) (ta2 tr2 : Nat → Int64), KX3_way l D ca ad [.ref 0, .int (Int32.ofNat b), .int (Int32.ofNat k), .int (Int32.ofNat a), .int (Int32.ofNat p), .int (-1)] (MW (Int32.ofNat n) (Int32.ofNat vs) wo un h bo ta tr ro ot Bm bk) (some (.long (wyM ((((bk b a).toInt64) * (-((TnM n Bm 4 0) (4 * p + a)))) * (emM (Bm (bkM 4 0 p) p) k 1)) (((TnM n Bm 4 0) (5 * a)) * ((TnM n Bm 4 0) (5 * p)))))) (MW (Int32.ofNat n) (Int32.ofNat vs) wo2 un h bo2 ta2 tr2 ro ot Bm bk) := by
  obtain ⟨tt, ett⟩ : ∃ z, z = TnM n Bm 4 0 := ⟨_, rfl⟩
  obtain ⟨dt, edt⟩ : ∃ z, z = dtM tt := ⟨_, rfl⟩
  rw [← ett] at h0
  rw [← ett]
  refine ⟨dt, boX 4 0, tt, tt, ?_⟩
  refine PX3_way (Nat.le_of_ble_eq_true rfl) ?_
  intro G hT hC hR
  refine mB hT 1 rfl ?_
  refine hC.1 _ [_] _ _ _ _ (m_isBasket_t hb) rfl (Nat.le_of_ble_eq_true rfl) rfl ?_
  refine mB hT 2 rfl ?_
  refine hC.2.1 _ [_] _ _ _ _ (m_isStuff_t hk) rfl (Nat.le_of_ble_eq_true rfl) rfl ?_
  refine mB hT 3 rfl ?_
  refine hC.2.2.1 _ 0 [_] _ _ _ _ _ (m_isMaking_t ha hn) rfl rfl (Nat.le_of_ble_eq_true rfl) rfl ?_
  refine mB hT 4 rfl ?_
  refine mIf (fun hp => absurd hp (ofNat_ne_m1 (by omega))) (fun _ => ?_)
  refine mB hT 2 rfl ?_
  refine hC.2.2.2.1 _ 0 [_] _ _ _ _ _ (m_isMaking_t hp hn) rfl rfl (Nat.le_of_ble_eq_true rfl) rfl ?_
  refine mB hT 7 rfl ?_
  refine mIf (fun hp => absurd hp (ofNat_ne_m1 (by omega))) (fun _ => ?_)
  refine mB hT 3 rfl ?_
  refine mIf (fun hp => absurd hp (ofNat_ne (by omega) (by omega) hap)) (fun _ => ?_)
  refine mB hT 3 rfl ?_
  refine mIf (fun hp => absurd hp (ofNat_ne_m1 (by omega))) (fun _ => ?_)
  refine mB hT 3 rfl ?_
  refine mIf (fun hp => absurd hp (ofNat_ne_m1 (by omega))) (fun _ => ?_)
  refine mB hT 1 rfl ?_
  refine hC.2.2.2.2.2.1 _ 0 [] _ _ _ _ _ (show KX3_layNow l D ca ad _ _ none (MW (Int32.ofNat n) (Int32.ofNat vs) dt un h (boX 4 0) tt tt ro ot Bm bk) from (by rw [edt, ett]; exact m_layNow hn)) rfl rfl (Nat.le_of_ble_eq_true rfl) rfl ?_
  refine mB hT 7 rfl ?_
  refine mIaldB hT (List.mem_of_getElem? (i := 44) rfl) hb (by omega) ?_
  refine mB hT 7 rfl ?_
  refine mLaldA hT (List.mem_of_getElem? (i := 52) rfl) (by omega) ?_
  refine mB hT 6 rfl ?_
  refine mIf (fun hp => absurd hp (ofNat_ne_m1 (by omega))) (fun _ => ?_)
  refine mNf (lv2 := [(10, .int (Int32.ofNat a)), (8, .long (tt (5 * a))), (6, .long ((bk b a).toInt64)), (0, .ref 0), (1, .int (Int32.ofNat b)), (2, .int (Int32.ofNat k)), (3, .int (Int32.ofNat a)), (4, .int (Int32.ofNat p)), (5, .int (-1))]) (st2 := []) rfl rfl ?_
  refine mB hT 8 rfl ?_
  refine mLaldB hT (List.mem_of_getElem? (i := 67) rfl) (by omega) (by omega) ?_
  refine mB hT 9 rfl ?_
  refine mLaldA hT (List.mem_of_getElem? (i := 77) rfl) (by omega) ?_
  refine mB hT 11 rfl ?_
  refine mIf (fun hp => absurd hp (fun q => h0 (lc_eq.mp q))) (fun _ => ?_)
  refine mNf (lv2 := [(10, .int (Int32.ofNat p)), (8, .long ((tt (5 * a)) * (tt (5 * p)))), (6, .long (((bk b a).toInt64) * (-(tt (4 * p + a))))), (0, .ref 0), (1, .int (Int32.ofNat b)), (2, .int (Int32.ofNat k)), (3, .int (Int32.ofNat a)), (4, .int (Int32.ofNat p)), (5, .int (-1))]) (st2 := []) rfl rfl ?_
  refine mB hT 5 rfl ?_
  refine hC.2.2.2.2.2.2.1 _ 0 [_, _, _] _ _ _ _ _ (m_emi_4_0 k hk p 1 (by omega) (by decide)) rfl rfl (Nat.le_of_ble_eq_true rfl) rfl ?_
  refine mB hT 6 rfl ?_
  refine mIf (fun h1 => ?_) (fun h1 => ?_)
  · refine mB hT 2 rfl ?_
    refine hC.2.2.2.2.2.2.2.2 _ [_, _] _ _ _ _ (m_th h0) rfl (Nat.le_of_ble_eq_true rfl) rfl ?_
    exact hR _ (by decide) _ _ _ (congrArg (fun z => [Value.long z]) (if_neg (Int64.not_lt.mpr (lc_ge.mp h1))).symm) rfl
  · refine mB hT 4 rfl ?_
    refine hC.2.2.2.2.2.2.2.1 _ [_, _] _ _ _ _ (m_th (neg_ne h0)) rfl (Nat.le_of_ble_eq_true rfl) rfl ?_
    refine mB hT 1 rfl ?_
    exact hR _ (by decide) _ _ _ (congrArg (fun z => [Value.long z]) (if_pos (Int64.not_le.mp (fun q => h1 (lc_ge.mpr q)))).symm) rfl
set_option maxRecDepth 20000 in
theorem m_way_Bc {n vs : Nat} {wo un h : Int64} {bo : Nat → Int32} {ta tr ro ot : Nat → Int64} {Bm : Nat → Nat → Nat → Int32} {bk : Nat → Nat → Int32} {b : Nat} (hb : b < 4) {k : Nat} (hk : k < 3) {a : Nat} (ha : a < n) (hn : n ≤ 4) {p : Nat} (hp : p < n) (hap : a ≠ p) {c : Nat} (hc : c < n) (hpc : p ≠ c) (h0 : ((((TnM n Bm 4 0) (5 * a)) * ((TnM n Bm 4 0) (5 * p))) * ((TnM n Bm 4 0) (5 * c))) = 0) : ∃ (wo2 : Int64) (bo2 : Nat → Int32) (ta2 tr2 : Nat → Int64), KX3_way l D ca ad [.ref 0, .int (Int32.ofNat b), .int (Int32.ofNat k), .int (Int32.ofNat a), .int (Int32.ofNat p), .int (Int32.ofNat c)] (MW (Int32.ofNat n) (Int32.ofNat vs) wo un h bo ta tr ro ot Bm bk) (some (.long (-9000000000000000004))) (MW (Int32.ofNat n) (Int32.ofNat vs) wo2 un h bo2 ta2 tr2 ro ot Bm bk) := by
  obtain ⟨tt, ett⟩ : ∃ z, z = TnM n Bm 4 0 := ⟨_, rfl⟩
  obtain ⟨dt, edt⟩ : ∃ z, z = dtM tt := ⟨_, rfl⟩
  rw [← ett] at h0
  refine ⟨dt, boX 4 0, tt, tt, ?_⟩
  refine PX3_way (Nat.le_of_ble_eq_true rfl) ?_
  intro G hT hC hR
  refine mB hT 1 rfl ?_
  refine hC.1 _ [_] _ _ _ _ (m_isBasket_t hb) rfl (Nat.le_of_ble_eq_true rfl) rfl ?_
  refine mB hT 2 rfl ?_
  refine hC.2.1 _ [_] _ _ _ _ (m_isStuff_t hk) rfl (Nat.le_of_ble_eq_true rfl) rfl ?_
  refine mB hT 3 rfl ?_
  refine hC.2.2.1 _ 0 [_] _ _ _ _ _ (m_isMaking_t ha hn) rfl rfl (Nat.le_of_ble_eq_true rfl) rfl ?_
  refine mB hT 4 rfl ?_
  refine mIf (fun hp => absurd hp (ofNat_ne_m1 (by omega))) (fun _ => ?_)
  refine mB hT 2 rfl ?_
  refine hC.2.2.2.1 _ 0 [_] _ _ _ _ _ (m_isMaking_t hp hn) rfl rfl (Nat.le_of_ble_eq_true rfl) rfl ?_
  refine mB hT 4 rfl ?_
  refine mIf (fun hp => absurd hp (ofNat_ne_m1 (by omega))) (fun _ => ?_)
  refine mB hT 2 rfl ?_
  refine hC.2.2.2.2.1 _ 0 [_] _ _ _ _ _ (m_isMaking_t hc hn) rfl rfl (Nat.le_of_ble_eq_true rfl) rfl ?_
  refine mB hT 4 rfl ?_
  refine mIf (fun hp => absurd hp (ofNat_ne_m1 (by omega))) (fun _ => ?_)
  refine mB hT 3 rfl ?_
  refine mIf (fun hp => absurd hp (ofNat_ne (by omega) (by omega) hap)) (fun _ => ?_)
  refine mB hT 3 rfl ?_
  refine mIf (fun hp => absurd hp (ofNat_ne_m1 (by omega))) (fun _ => ?_)
  refine mB hT 3 rfl ?_
  refine mIf (fun hp => absurd hp (ofNat_ne (by omega) (by omega) hpc)) (fun _ => ?_)
  refine mB hT 1 rfl ?_
  refine hC.2.2.2.2.2.1 _ 0 [] _ _ _ _ _ (show KX3_layNow l D ca ad _ _ none (MW (Int32.ofNat n) (Int32.ofNat vs) dt un h (boX 4 0) tt tt ro ot Bm bk) from (by rw [edt, ett]; exact m_layNow hn)) rfl rfl (Nat.le_of_ble_eq_true rfl) rfl ?_
  refine mB hT 7 rfl ?_
  refine mIaldB hT (List.mem_of_getElem? (i := 44) rfl) hb (by omega) ?_
  refine mB hT 7 rfl ?_
  refine mLaldA hT (List.mem_of_getElem? (i := 52) rfl) (by omega) ?_
  refine mB hT 6 rfl ?_
  refine mIf (fun hp => absurd hp (ofNat_ne_m1 (by omega))) (fun _ => ?_)
  refine mNf (lv2 := [(10, .int (Int32.ofNat a)), (8, .long (tt (5 * a))), (6, .long ((bk b a).toInt64)), (0, .ref 0), (1, .int (Int32.ofNat b)), (2, .int (Int32.ofNat k)), (3, .int (Int32.ofNat a)), (4, .int (Int32.ofNat p)), (5, .int (Int32.ofNat c))]) (st2 := []) rfl rfl ?_
  refine mB hT 8 rfl ?_
  refine mLaldB hT (List.mem_of_getElem? (i := 67) rfl) (by omega) (by omega) ?_
  refine mB hT 9 rfl ?_
  refine mLaldA hT (List.mem_of_getElem? (i := 77) rfl) (by omega) ?_
  refine mB hT 7 rfl ?_
  refine mIf (fun hp => absurd hp (ofNat_ne_m1 (by omega))) (fun _ => ?_)
  refine mNf (lv2 := [(10, .int (Int32.ofNat p)), (8, .long ((tt (5 * a)) * (tt (5 * p)))), (6, .long (((bk b a).toInt64) * (-(tt (4 * p + a))))), (0, .ref 0), (1, .int (Int32.ofNat b)), (2, .int (Int32.ofNat k)), (3, .int (Int32.ofNat a)), (4, .int (Int32.ofNat p)), (5, .int (Int32.ofNat c))]) (st2 := []) rfl rfl ?_
  refine mB hT 8 rfl ?_
  refine mLaldB hT (List.mem_of_getElem? (i := 93) rfl) (by omega) (by omega) ?_
  refine mB hT 9 rfl ?_
  refine mLaldA hT (List.mem_of_getElem? (i := 103) rfl) (by omega) ?_
  refine mB hT 8 rfl ?_
  refine mIf (fun _ => ?_) (fun hn => absurd (lc_eq.mpr h0) hn)
  refine mNf (lv2 := [(10, .int (Int32.ofNat c)), (8, .long (((tt (5 * a)) * (tt (5 * p))) * (tt (5 * c)))), (6, .long ((((bk b a).toInt64) * (-(tt (4 * p + a)))) * (-(tt (4 * c + p))))), (0, .ref 0), (1, .int (Int32.ofNat b)), (2, .int (Int32.ofNat k)), (3, .int (Int32.ofNat a)), (4, .int (Int32.ofNat p)), (5, .int (Int32.ofNat c))]) (st2 := []) rfl rfl ?_
  refine mB hT 1 rfl ?_
  exact hR _ (by decide) _ _ _ rfl rfl
set_option maxRecDepth 20000 in
theorem m_way_c {n vs : Nat} {wo un h : Int64} {bo : Nat → Int32} {ta tr ro ot : Nat → Int64} {Bm : Nat → Nat → Nat → Int32} {bk : Nat → Nat → Int32} {b : Nat} (hb : b < 4) {k : Nat} (hk : k < 3) {a : Nat} (ha : a < n) (hn : n ≤ 4) {p : Nat} (hp : p < n) (hap : a ≠ p) {c : Nat} (hc : c < n) (hpc : p ≠ c) (h0 : ¬ ((((TnM n Bm 4 0) (5 * a)) * ((TnM n Bm 4 0) (5 * p))) * ((TnM n Bm 4 0) (5 * c))) = 0) : ∃ (wo2 : Int64) (bo2 : Nat → Int32) (ta2 tr2 : Nat → Int64), KX3_way l D ca ad [.ref 0, .int (Int32.ofNat b), .int (Int32.ofNat k), .int (Int32.ofNat a), .int (Int32.ofNat p), .int (Int32.ofNat c)] (MW (Int32.ofNat n) (Int32.ofNat vs) wo un h bo ta tr ro ot Bm bk) (some (.long (wyM (((((bk b a).toInt64) * (-((TnM n Bm 4 0) (4 * p + a)))) * (-((TnM n Bm 4 0) (4 * c + p)))) * (emM (Bm (bkM 4 0 c) c) k 1)) ((((TnM n Bm 4 0) (5 * a)) * ((TnM n Bm 4 0) (5 * p))) * ((TnM n Bm 4 0) (5 * c)))))) (MW (Int32.ofNat n) (Int32.ofNat vs) wo2 un h bo2 ta2 tr2 ro ot Bm bk) := by
  obtain ⟨tt, ett⟩ : ∃ z, z = TnM n Bm 4 0 := ⟨_, rfl⟩
  obtain ⟨dt, edt⟩ : ∃ z, z = dtM tt := ⟨_, rfl⟩
  rw [← ett] at h0
  rw [← ett]
  refine ⟨dt, boX 4 0, tt, tt, ?_⟩
  refine PX3_way (Nat.le_of_ble_eq_true rfl) ?_
  intro G hT hC hR
  refine mB hT 1 rfl ?_
  refine hC.1 _ [_] _ _ _ _ (m_isBasket_t hb) rfl (Nat.le_of_ble_eq_true rfl) rfl ?_
  refine mB hT 2 rfl ?_
  refine hC.2.1 _ [_] _ _ _ _ (m_isStuff_t hk) rfl (Nat.le_of_ble_eq_true rfl) rfl ?_
  refine mB hT 3 rfl ?_
  refine hC.2.2.1 _ 0 [_] _ _ _ _ _ (m_isMaking_t ha hn) rfl rfl (Nat.le_of_ble_eq_true rfl) rfl ?_
  refine mB hT 4 rfl ?_
  refine mIf (fun hp => absurd hp (ofNat_ne_m1 (by omega))) (fun _ => ?_)
  refine mB hT 2 rfl ?_
  refine hC.2.2.2.1 _ 0 [_] _ _ _ _ _ (m_isMaking_t hp hn) rfl rfl (Nat.le_of_ble_eq_true rfl) rfl ?_
  refine mB hT 4 rfl ?_
  refine mIf (fun hp => absurd hp (ofNat_ne_m1 (by omega))) (fun _ => ?_)
  refine mB hT 2 rfl ?_
  refine hC.2.2.2.2.1 _ 0 [_] _ _ _ _ _ (m_isMaking_t hc hn) rfl rfl (Nat.le_of_ble_eq_true rfl) rfl ?_
  refine mB hT 4 rfl ?_
  refine mIf (fun hp => absurd hp (ofNat_ne_m1 (by omega))) (fun _ => ?_)
  refine mB hT 3 rfl ?_
  refine mIf (fun hp => absurd hp (ofNat_ne (by omega) (by omega) hap)) (fun _ => ?_)
  refine mB hT 3 rfl ?_
  refine mIf (fun hp => absurd hp (ofNat_ne_m1 (by omega))) (fun _ => ?_)
  refine mB hT 3 rfl ?_
  refine mIf (fun hp => absurd hp (ofNat_ne (by omega) (by omega) hpc)) (fun _ => ?_)
  refine mB hT 1 rfl ?_
  refine hC.2.2.2.2.2.1 _ 0 [] _ _ _ _ _ (show KX3_layNow l D ca ad _ _ none (MW (Int32.ofNat n) (Int32.ofNat vs) dt un h (boX 4 0) tt tt ro ot Bm bk) from (by rw [edt, ett]; exact m_layNow hn)) rfl rfl (Nat.le_of_ble_eq_true rfl) rfl ?_
  refine mB hT 7 rfl ?_
  refine mIaldB hT (List.mem_of_getElem? (i := 44) rfl) hb (by omega) ?_
  refine mB hT 7 rfl ?_
  refine mLaldA hT (List.mem_of_getElem? (i := 52) rfl) (by omega) ?_
  refine mB hT 6 rfl ?_
  refine mIf (fun hp => absurd hp (ofNat_ne_m1 (by omega))) (fun _ => ?_)
  refine mNf (lv2 := [(10, .int (Int32.ofNat a)), (8, .long (tt (5 * a))), (6, .long ((bk b a).toInt64)), (0, .ref 0), (1, .int (Int32.ofNat b)), (2, .int (Int32.ofNat k)), (3, .int (Int32.ofNat a)), (4, .int (Int32.ofNat p)), (5, .int (Int32.ofNat c))]) (st2 := []) rfl rfl ?_
  refine mB hT 8 rfl ?_
  refine mLaldB hT (List.mem_of_getElem? (i := 67) rfl) (by omega) (by omega) ?_
  refine mB hT 9 rfl ?_
  refine mLaldA hT (List.mem_of_getElem? (i := 77) rfl) (by omega) ?_
  refine mB hT 7 rfl ?_
  refine mIf (fun hp => absurd hp (ofNat_ne_m1 (by omega))) (fun _ => ?_)
  refine mNf (lv2 := [(10, .int (Int32.ofNat p)), (8, .long ((tt (5 * a)) * (tt (5 * p)))), (6, .long (((bk b a).toInt64) * (-(tt (4 * p + a))))), (0, .ref 0), (1, .int (Int32.ofNat b)), (2, .int (Int32.ofNat k)), (3, .int (Int32.ofNat a)), (4, .int (Int32.ofNat p)), (5, .int (Int32.ofNat c))]) (st2 := []) rfl rfl ?_
  refine mB hT 8 rfl ?_
  refine mLaldB hT (List.mem_of_getElem? (i := 93) rfl) (by omega) (by omega) ?_
  refine mB hT 9 rfl ?_
  refine mLaldA hT (List.mem_of_getElem? (i := 103) rfl) (by omega) ?_
  refine mB hT 8 rfl ?_
  refine mIf (fun hp => absurd hp (fun q => h0 (lc_eq.mp q))) (fun _ => ?_)
  refine mNf (lv2 := [(10, .int (Int32.ofNat c)), (8, .long (((tt (5 * a)) * (tt (5 * p))) * (tt (5 * c)))), (6, .long ((((bk b a).toInt64) * (-(tt (4 * p + a)))) * (-(tt (4 * c + p))))), (0, .ref 0), (1, .int (Int32.ofNat b)), (2, .int (Int32.ofNat k)), (3, .int (Int32.ofNat a)), (4, .int (Int32.ofNat p)), (5, .int (Int32.ofNat c))]) (st2 := []) rfl rfl ?_
  refine mB hT 5 rfl ?_
  refine hC.2.2.2.2.2.2.1 _ 0 [_, _, _] _ _ _ _ _ (m_emi_4_0 k hk c 1 (by omega) (by decide)) rfl rfl (Nat.le_of_ble_eq_true rfl) rfl ?_
  refine mB hT 6 rfl ?_
  refine mIf (fun h1 => ?_) (fun h1 => ?_)
  · refine mB hT 2 rfl ?_
    refine hC.2.2.2.2.2.2.2.2 _ [_, _] _ _ _ _ (m_th h0) rfl (Nat.le_of_ble_eq_true rfl) rfl ?_
    exact hR _ (by decide) _ _ _ (congrArg (fun z => [Value.long z]) (if_neg (Int64.not_lt.mpr (lc_ge.mp h1))).symm) rfl
  · refine mB hT 4 rfl ?_
    refine hC.2.2.2.2.2.2.2.1 _ [_, _] _ _ _ _ (m_th (neg_ne h0)) rfl (Nat.le_of_ble_eq_true rfl) rfl ?_
    refine mB hT 1 rfl ?_
    exact hR _ (by decide) _ _ _ (congrArg (fun z => [Value.long z]) (if_pos (Int64.not_le.mp (fun q => h1 (lc_ge.mpr q)))).symm) rfl
end
