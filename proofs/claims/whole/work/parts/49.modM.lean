def cgS : Nat → (Nat → Int32) → Int32
  | 0, _ => 0
  | m + 1, row => cgS m row + row (8 + m)
def cgM : Nat → Nat → (Nat → Nat → Int32) → Int32
  | 0, _, _ => 0
  | m + 1, n, rows => cgM m n rows + (if cgS n (rows m) ≤ 0 then 0 else 1)
def ceM2 : List Int32 → Int32 → Int32
  | [], f => f
  | c :: L, f => ceM2 L (f + if c = 0 then 0 else 1)
section
variable {l : Launch} {D : va_G} {ca : Nat → ClassId} {ad : Nat → Nat}

set_option maxRecDepth 20000 in
theorem m_count_0 {n vs : Nat} {wo un h : Int64} {bo : Nat → Int32} {ta tr ro ot : Nat → Int64} {Bm : Nat → Nat → Nat → Int32} {bk : Nat → Nat → Int32} : KX3_count l D ca ad [.ref 0, .int 0] (MW (Int32.ofNat n) (Int32.ofNat vs) wo un h bo ta tr ro ot Bm bk) (some (.int (Int32.ofNat n))) (MW (Int32.ofNat n) (Int32.ofNat vs) wo un h bo ta tr ro ot Bm bk) := by
  refine PX3_count (Nat.le_of_ble_eq_true rfl) ?_
  intro G hT hC hR
  refine mB hT 6 rfl ?_
  exact hR _ (by decide) _ _ _ rfl rfl
set_option maxRecDepth 20000 in
theorem m_count_1 {n vs : Nat} {wo un h : Int64} {bo : Nat → Int32} {ta tr ro ot : Nat → Int64} {Bm : Nat → Nat → Nat → Int32} {bk : Nat → Nat → Int32} : KX3_count l D ca ad [.ref 0, .int 1] (MW (Int32.ofNat n) (Int32.ofNat vs) wo un h bo ta tr ro ot Bm bk) (some (.int (Int32.ofNat vs))) (MW (Int32.ofNat n) (Int32.ofNat vs) wo un h bo ta tr ro ot Bm bk) := by
  refine PX3_count (Nat.le_of_ble_eq_true rfl) ?_
  intro G hT hC hR
  refine mB hT 6 rfl ?_
  exact hR _ (by decide) _ _ _ rfl rfl
theorem m_count_O {n vs : Nat} {wo un h : Int64} {bo : Nat → Int32} {ta tr ro ot : Nat → Int64} {Bm : Nat → Nat → Nat → Int32} {bk : Nat → Nat → Int32} {q : Int32} (hq : ¬ (0 ≤ q ∧ q < 4)) : KX3_count l D ca ad [.ref 0, .int q] (MW (Int32.ofNat n) (Int32.ofNat vs) wo un h bo ta tr ro ot Bm bk) (some (.int (-102))) (MW (Int32.ofNat n) (Int32.ofNat vs) wo un h bo ta tr ro ot Bm bk) := by
  refine PX3_count (Nat.le_of_ble_eq_true rfl) ?_
  intro G hT hC hR
  refine mB hT 3 rfl ?_
  refine hT.1 _ (List.mem_of_getElem? (i := 3) rfl) _ _ _ _ (if_pos (sw_out hq)) ?_
  refine mB hT 1 rfl ?_
  exact hR _ (by decide) _ _ _ rfl rfl
set_option maxRecDepth 20000 in
theorem m_count2_0 {vs : Nat} {wo un h : Int64} {bo : Nat → Int32} {ta tr ro ot : Nat → Int64} {Bm : Nat → Nat → Nat → Int32} {bk : Nat → Nat → Int32} : KX3_count l D ca ad [.ref 0, .int 2] (MW 0 (Int32.ofNat vs) wo un h bo ta tr ro ot Bm bk) (some (.int (cgM 0 0 (Bm 6)))) (MW 0 (Int32.ofNat vs) wo un h bo ta tr ro ot Bm bk) := by
  refine PX3_count (Nat.le_of_ble_eq_true rfl) ?_
  intro G hT hC hR
  refine mB hT 11 rfl ?_
  exact hR _ (by decide) _ _ _ (by rfl) rfl
def c3M_0 (c : Nat → Int32) : Int32 := 0
set_option maxRecDepth 20000 in
theorem m_c3_0 {vs : Nat} {wo un h : Int64} {bo : Nat → Int32} {ta tr ro ot : Nat → Int64} {Bm : Nat → Nat → Nat → Int32} {bk : Nat → Nat → Int32} {c : Nat → Int32} (hc : ∀ q : Nat, c q = [].getD q 0) : KX3_count l D ca ad [.ref 0, .int 3] (MW 0 (Int32.ofNat vs) wo un h bo ta tr ro ot Bm bk) (some (.int (c3M_0 c))) (MW 0 (Int32.ofNat vs) wo un h bo ta tr ro ot Bm bk) := by
  refine PX3_count (Nat.le_of_ble_eq_true rfl) ?_
  intro G hT hC hR
  refine mB hT 40 rfl ?_
  refine mNf (lv2 := [(3, .int 2), (2, .int 0), (0, .ref 0), (1, .int 3)]) (st2 := [.int 0]) rfl rfl ?_
  refine mB hT 40 rfl ?_
  refine mNf (lv2 := [(3, .int 5), (2, .int 0), (0, .ref 0), (1, .int 3)]) (st2 := []) rfl rfl ?_
  refine mB hT 40 rfl ?_
  refine mNf (lv2 := [(3, .int 7), (2, .int 0), (0, .ref 0), (1, .int 3)]) (st2 := [.int 0, .int 1, .int 0]) rfl rfl ?_
  refine mB hT 40 rfl ?_
  refine mNf (lv2 := [(3, .int 10), (2, .int 0), (0, .ref 0), (1, .int 3)]) (st2 := [.int 0]) rfl rfl ?_
  refine mB hT 40 rfl ?_
  refine mNf (lv2 := [(3, .int 13), (2, .int 0), (0, .ref 0), (1, .int 3)]) (st2 := []) rfl rfl ?_
  refine mB hT 40 rfl ?_
  refine mNf (lv2 := [(3, .int 15), (2, .int 0), (0, .ref 0), (1, .int 3)]) (st2 := [.int 0, .int 3, .int 0]) rfl rfl ?_
  refine mB hT 10 rfl ?_
  exact hR _ (by decide) _ _ _ (by rfl) rfl
set_option maxRecDepth 20000 in
theorem m_count2_1 {vs : Nat} {wo un h : Int64} {bo : Nat → Int32} {ta tr ro ot : Nat → Int64} {Bm : Nat → Nat → Nat → Int32} {bk : Nat → Nat → Int32} : KX3_count l D ca ad [.ref 0, .int 2] (MW 1 (Int32.ofNat vs) wo un h bo ta tr ro ot Bm bk) (some (.int (cgM 1 1 (Bm 6)))) (MW 1 (Int32.ofNat vs) wo un h bo ta tr ro ot Bm bk) := by
  refine PX3_count (Nat.le_of_ble_eq_true rfl) ?_
  intro G hT hC hR
  refine mB hT 40 rfl ?_
  have J0 : ∀ t0 : Int32, t0 = (if cgS 1 (Bm 6 0) ≤ 0 then 0 else 1) → G (103, [(5, .int 1), (4, .int (0 + (Bm 6 0 8))), (3, .int 0), (2, .int 0), (0, .ref 0), (1, .int 2)], [.int t0, .int 0], (MW 1 (Int32.ofNat vs) wo un h bo ta tr ro ot Bm bk)) := by
    intro t0 et0
    refine mB hT 9 rfl ?_
    exact hR _ (by decide) _ _ _ (by subst et0; rfl) rfl
  refine mIf (fun h => ?_) (fun h => ?_)
  · refine mB hT 1 rfl ?_
    exact J0 0 (if_pos h).symm
  · refine mB hT 2 rfl ?_
    exact J0 1 (if_neg h).symm
def c3M_1 (c : Nat → Int32) : Int32 := ((((((((((((((((0 + (if c 0 = 0 then 0 else 1)) + 0) + 0) + 0) + 0) + 0) + 0) + 0) + 0) + 0) + 0) + 0) + 0) + 0) + 0) + 0)
set_option maxRecDepth 20000 in
theorem m_c3_1 {vs : Nat} {wo un h : Int64} {bo : Nat → Int32} {ta tr ro ot : Nat → Int64} {Bm : Nat → Nat → Nat → Int32} {bk : Nat → Nat → Int32} {c : Nat → Int32} (hc : ∀ q : Nat, c q = [ceM 1 (Bm 6) 0 0].getD q 0) : KX3_count l D ca ad [.ref 0, .int 3] (MW 1 (Int32.ofNat vs) wo un h bo ta tr ro ot Bm bk) (some (.int (c3M_1 c))) (MW 1 (Int32.ofNat vs) wo un h bo ta tr ro ot Bm bk) := by
  refine PX3_count (Nat.le_of_ble_eq_true rfl) ?_
  intro G hT hC hR
  refine mB hT 30 rfl ?_
  refine mNf (lv2 := [(3, .int 0), (2, .int 0), (0, .ref 0), (1, .int 3)]) (st2 := [.int 0, .int 0, .int 6, .ref 0, .int 0]) rfl rfl ?_
  refine hC _ 0 [_, _, _] _ _ _ _ _ (show KX3_entryOf l D ca ad _ _ (some (.int (c 0))) _ from (by rw [hc 0]; exact m_entryOf_6_0_0 (n := 1) (by decide))) rfl rfl (Nat.le_of_ble_eq_true rfl) rfl ?_
  refine mB hT 1 rfl ?_
  have J0 : ∀ t0 : Int32, t0 = (if c 0 = 0 then 0 else 1) → G (162, [(3, .int 0), (2, .int 0), (0, .ref 0), (1, .int 3)], [.int t0, .int 0], (MW 1 (Int32.ofNat vs) wo un h bo ta tr ro ot Bm bk)) := by
    intro t0 et0
    refine mB hT 40 rfl ?_
    refine mNf (lv2 := [(3, .int 2), (2, .int ((0 + t0) + 0)), (0, .ref 0), (1, .int 3)]) (st2 := [.int 1, .int 2, .int ((0 + t0) + 0)]) rfl rfl ?_
    refine mB hT 40 rfl ?_
    refine mNf (lv2 := [(2, .int (((((0 + t0) + 0) + 0) + 0) + 0)), (3, .int 4), (0, .ref 0), (1, .int 3)]) (st2 := []) rfl rfl ?_
    refine mB hT 40 rfl ?_
    refine mNf (lv2 := [(3, .int 7), (2, .int (((((((0 + t0) + 0) + 0) + 0) + 0) + 0) + 0)), (0, .ref 0), (1, .int 3)]) (st2 := [.ref 0, .int 1, .int (((((((0 + t0) + 0) + 0) + 0) + 0) + 0) + 0)]) rfl rfl ?_
    refine mB hT 40 rfl ?_
    refine mNf (lv2 := [(3, .int 10), (2, .int ((((((((((0 + t0) + 0) + 0) + 0) + 0) + 0) + 0) + 0) + 0) + 0)), (0, .ref 0), (1, .int 3)]) (st2 := []) rfl rfl ?_
    refine mB hT 40 rfl ?_
    refine mNf (lv2 := [(2, .int (((((((((((((0 + t0) + 0) + 0) + 0) + 0) + 0) + 0) + 0) + 0) + 0) + 0) + 0) + 0)), (3, .int 12), (0, .ref 0), (1, .int 3)]) (st2 := []) rfl rfl ?_
    refine mB hT 40 rfl ?_
    refine mNf (lv2 := [(3, .int 15), (2, .int (((((((((((((((0 + t0) + 0) + 0) + 0) + 0) + 0) + 0) + 0) + 0) + 0) + 0) + 0) + 0) + 0) + 0)), (0, .ref 0), (1, .int 3)]) (st2 := [.ref 0, .int 3, .int (((((((((((((((0 + t0) + 0) + 0) + 0) + 0) + 0) + 0) + 0) + 0) + 0) + 0) + 0) + 0) + 0) + 0)]) rfl rfl ?_
    refine mB hT 11 rfl ?_
    exact hR _ (by decide) _ _ _ (by subst et0; rfl) rfl
  refine mIf (fun h => ?_) (fun h => ?_)
  · refine mB hT 1 rfl ?_
    exact J0 0 (if_pos h).symm
  · refine mB hT 2 rfl ?_
    exact J0 1 (if_neg h).symm
set_option maxRecDepth 20000 in
theorem m_count2_2 {vs : Nat} {wo un h : Int64} {bo : Nat → Int32} {ta tr ro ot : Nat → Int64} {Bm : Nat → Nat → Nat → Int32} {bk : Nat → Nat → Int32} : KX3_count l D ca ad [.ref 0, .int 2] (MW 2 (Int32.ofNat vs) wo un h bo ta tr ro ot Bm bk) (some (.int (cgM 2 2 (Bm 6)))) (MW 2 (Int32.ofNat vs) wo un h bo ta tr ro ot Bm bk) := by
  refine PX3_count (Nat.le_of_ble_eq_true rfl) ?_
  intro G hT hC hR
  refine mB hT 40 rfl ?_
  refine mNf (lv2 := [(5, .int 1), (4, .int (0 + (Bm 6 0 8))), (3, .int 0), (2, .int 0), (0, .ref 0), (1, .int 2)]) (st2 := [.ref 6, .int (0 + (Bm 6 0 8))]) rfl rfl ?_
  refine mB hT 19 rfl ?_
  have J0 : ∀ t0 : Int32, t0 = (if cgS 2 (Bm 6 0) ≤ 0 then 0 else 1) → G (103, [(5, .int 2), (4, .int ((0 + (Bm 6 0 8)) + (Bm 6 0 9))), (3, .int 0), (2, .int 0), (0, .ref 0), (1, .int 2)], [.int t0, .int 0], (MW 2 (Int32.ofNat vs) wo un h bo ta tr ro ot Bm bk)) := by
    intro t0 et0
    refine mB hT 40 rfl ?_
    refine mNf (lv2 := [(5, .int 1), (4, .int (0 + (Bm 6 1 8))), (3, .int 1), (2, .int (0 + t0)), (0, .ref 0), (1, .int 2)]) (st2 := [.int 4, .int 96, .ref 6, .int (0 + (Bm 6 1 8))]) rfl rfl ?_
    refine mB hT 17 rfl ?_
    have J1 : ∀ t1 : Int32, t1 = (if cgS 2 (Bm 6 1) ≤ 0 then 0 else 1) → G (103, [(5, .int 2), (4, .int ((0 + (Bm 6 1 8)) + (Bm 6 1 9))), (3, .int 1), (2, .int (0 + t0)), (0, .ref 0), (1, .int 2)], [.int t1, .int (0 + t0)], (MW 2 (Int32.ofNat vs) wo un h bo ta tr ro ot Bm bk)) := by
      intro t1 et1
      refine mB hT 9 rfl ?_
      exact hR _ (by decide) _ _ _ (by subst et0 et1; rfl) rfl
    refine mIf (fun h => ?_) (fun h => ?_)
    · refine mB hT 1 rfl ?_
      exact J1 0 (if_pos h).symm
    · refine mB hT 2 rfl ?_
      exact J1 1 (if_neg h).symm
  refine mIf (fun h => ?_) (fun h => ?_)
  · refine mB hT 1 rfl ?_
    exact J0 0 (if_pos h).symm
  · refine mB hT 2 rfl ?_
    exact J0 1 (if_neg h).symm
def c3M_2 (c : Nat → Int32) : Int32 := ((((((((((((((((0 + (if c 0 = 0 then 0 else 1)) + (if c 1 = 0 then 0 else 1)) + 0) + 0) + (if c 2 = 0 then 0 else 1)) + (if c 3 = 0 then 0 else 1)) + 0) + 0) + 0) + 0) + 0) + 0) + 0) + 0) + 0) + 0)
set_option maxRecDepth 20000 in
theorem m_c3_2 {vs : Nat} {wo un h : Int64} {bo : Nat → Int32} {ta tr ro ot : Nat → Int64} {Bm : Nat → Nat → Nat → Int32} {bk : Nat → Nat → Int32} {c : Nat → Int32} (hc : ∀ q : Nat, c q = [ceM 2 (Bm 6) 0 0, ceM 2 (Bm 6) 1 0, ceM 2 (Bm 6) 0 1, ceM 2 (Bm 6) 1 1].getD q 0) : KX3_count l D ca ad [.ref 0, .int 3] (MW 2 (Int32.ofNat vs) wo un h bo ta tr ro ot Bm bk) (some (.int (c3M_2 c))) (MW 2 (Int32.ofNat vs) wo un h bo ta tr ro ot Bm bk) := by
  refine PX3_count (Nat.le_of_ble_eq_true rfl) ?_
  intro G hT hC hR
  refine mB hT 30 rfl ?_
  refine mNf (lv2 := [(3, .int 0), (2, .int 0), (0, .ref 0), (1, .int 3)]) (st2 := [.int 0, .int 0, .int 6, .ref 0, .int 0]) rfl rfl ?_
  refine hC _ 0 [_, _, _] _ _ _ _ _ (show KX3_entryOf l D ca ad _ _ (some (.int (c 0))) _ from (by rw [hc 0]; exact m_entryOf_6_0_0 (n := 2) (by decide))) rfl rfl (Nat.le_of_ble_eq_true rfl) rfl ?_
  refine mB hT 1 rfl ?_
  have J0 : ∀ t0 : Int32, t0 = (if c 0 = 0 then 0 else 1) → G (162, [(3, .int 0), (2, .int 0), (0, .ref 0), (1, .int 3)], [.int t0, .int 0], (MW 2 (Int32.ofNat vs) wo un h bo ta tr ro ot Bm bk)) := by
    intro t0 et0
    refine mB hT 28 rfl ?_
    refine mNf (lv2 := [(3, .int 1), (2, .int (0 + t0)), (0, .ref 0), (1, .int 3)]) (st2 := [.int 1, .int 0, .int 6, .ref 0, .int (0 + t0)]) rfl rfl ?_
    refine hC _ 0 [_, _, _] _ _ _ _ _ (show KX3_entryOf l D ca ad _ _ (some (.int (c 1))) _ from (by rw [hc 1]; exact m_entryOf_6_0_1 (n := 2) (by decide))) rfl rfl (Nat.le_of_ble_eq_true rfl) rfl ?_
    refine mB hT 1 rfl ?_
    have J1 : ∀ t1 : Int32, t1 = (if c 1 = 0 then 0 else 1) → G (162, [(3, .int 1), (2, .int (0 + t0)), (0, .ref 0), (1, .int 3)], [.int t1, .int (0 + t0)], (MW 2 (Int32.ofNat vs) wo un h bo ta tr ro ot Bm bk)) := by
      intro t1 et1
      refine mB hT 40 rfl ?_
      refine mNf (lv2 := [(3, .int 3), (2, .int (((0 + t0) + t1) + 0)), (0, .ref 0), (1, .int 3)]) (st2 := [.int 2, .int 3, .int (((0 + t0) + t1) + 0)]) rfl rfl ?_
      refine mB hT 30 rfl ?_
      refine mNf (lv2 := [(3, .int 4), (2, .int ((((0 + t0) + t1) + 0) + 0)), (0, .ref 0), (1, .int 3)]) (st2 := [.int 0, .int 1, .int 6, .ref 0, .int ((((0 + t0) + t1) + 0) + 0)]) rfl rfl ?_
      refine hC _ 0 [_, _, _] _ _ _ _ _ (show KX3_entryOf l D ca ad _ _ (some (.int (c 2))) _ from (by rw [hc 2]; exact m_entryOf_6_1_0 (n := 2) (by decide))) rfl rfl (Nat.le_of_ble_eq_true rfl) rfl ?_
      refine mB hT 1 rfl ?_
      have J2 : ∀ t2 : Int32, t2 = (if c 2 = 0 then 0 else 1) → G (162, [(3, .int 4), (2, .int ((((0 + t0) + t1) + 0) + 0)), (0, .ref 0), (1, .int 3)], [.int t2, .int ((((0 + t0) + t1) + 0) + 0)], (MW 2 (Int32.ofNat vs) wo un h bo ta tr ro ot Bm bk)) := by
        intro t2 et2
        refine mB hT 28 rfl ?_
        refine mNf (lv2 := [(3, .int 5), (2, .int (((((0 + t0) + t1) + 0) + 0) + t2)), (0, .ref 0), (1, .int 3)]) (st2 := [.int 1, .int 1, .int 6, .ref 0, .int (((((0 + t0) + t1) + 0) + 0) + t2)]) rfl rfl ?_
        refine hC _ 0 [_, _, _] _ _ _ _ _ (show KX3_entryOf l D ca ad _ _ (some (.int (c 3))) _ from (by rw [hc 3]; exact m_entryOf_6_1_1 (n := 2) (by decide))) rfl rfl (Nat.le_of_ble_eq_true rfl) rfl ?_
        refine mB hT 1 rfl ?_
        have J3 : ∀ t3 : Int32, t3 = (if c 3 = 0 then 0 else 1) → G (162, [(3, .int 5), (2, .int (((((0 + t0) + t1) + 0) + 0) + t2)), (0, .ref 0), (1, .int 3)], [.int t3, .int (((((0 + t0) + t1) + 0) + 0) + t2)], (MW 2 (Int32.ofNat vs) wo un h bo ta tr ro ot Bm bk)) := by
          intro t3 et3
          refine mB hT 40 rfl ?_
          refine mNf (lv2 := [(3, .int 7), (2, .int (((((((0 + t0) + t1) + 0) + 0) + t2) + t3) + 0)), (0, .ref 0), (1, .int 3)]) (st2 := [.int 2, .int 3, .int (((((((0 + t0) + t1) + 0) + 0) + t2) + t3) + 0)]) rfl rfl ?_
          refine mB hT 40 rfl ?_
          refine mNf (lv2 := [(3, .int 10), (2, .int ((((((((((0 + t0) + t1) + 0) + 0) + t2) + t3) + 0) + 0) + 0) + 0)), (0, .ref 0), (1, .int 3)]) (st2 := [.int ((((((((((0 + t0) + t1) + 0) + 0) + t2) + t3) + 0) + 0) + 0) + 0)]) rfl rfl ?_
          refine mB hT 40 rfl ?_
          refine mNf (lv2 := [(3, .int 13), (2, .int (((((((((((((0 + t0) + t1) + 0) + 0) + t2) + t3) + 0) + 0) + 0) + 0) + 0) + 0) + 0)), (0, .ref 0), (1, .int 3)]) (st2 := []) rfl rfl ?_
          refine mB hT 40 rfl ?_
          refine mNf (lv2 := [(3, .int 15), (2, .int (((((((((((((((0 + t0) + t1) + 0) + 0) + t2) + t3) + 0) + 0) + 0) + 0) + 0) + 0) + 0) + 0) + 0)), (0, .ref 0), (1, .int 3)]) (st2 := [.int 2, .int 3, .int (((((((((((((((0 + t0) + t1) + 0) + 0) + t2) + t3) + 0) + 0) + 0) + 0) + 0) + 0) + 0) + 0) + 0)]) rfl rfl ?_
          refine mB hT 10 rfl ?_
          exact hR _ (by decide) _ _ _ (by subst et0 et1 et2 et3; rfl) rfl
        refine mIf (fun h => ?_) (fun h => ?_)
        · refine mB hT 1 rfl ?_
          exact J3 0 (if_pos h).symm
        · refine mB hT 2 rfl ?_
          exact J3 1 (if_neg h).symm
      refine mIf (fun h => ?_) (fun h => ?_)
      · refine mB hT 1 rfl ?_
        exact J2 0 (if_pos h).symm
      · refine mB hT 2 rfl ?_
        exact J2 1 (if_neg h).symm
    refine mIf (fun h => ?_) (fun h => ?_)
    · refine mB hT 1 rfl ?_
      exact J1 0 (if_pos h).symm
    · refine mB hT 2 rfl ?_
      exact J1 1 (if_neg h).symm
  refine mIf (fun h => ?_) (fun h => ?_)
  · refine mB hT 1 rfl ?_
    exact J0 0 (if_pos h).symm
  · refine mB hT 2 rfl ?_
    exact J0 1 (if_neg h).symm
set_option maxRecDepth 20000 in
theorem m_count2_3 {vs : Nat} {wo un h : Int64} {bo : Nat → Int32} {ta tr ro ot : Nat → Int64} {Bm : Nat → Nat → Nat → Int32} {bk : Nat → Nat → Int32} : KX3_count l D ca ad [.ref 0, .int 2] (MW 3 (Int32.ofNat vs) wo un h bo ta tr ro ot Bm bk) (some (.int (cgM 3 3 (Bm 6)))) (MW 3 (Int32.ofNat vs) wo un h bo ta tr ro ot Bm bk) := by
  refine PX3_count (Nat.le_of_ble_eq_true rfl) ?_
  intro G hT hC hR
  refine mB hT 40 rfl ?_
  refine mNf (lv2 := [(5, .int 1), (4, .int (0 + (Bm 6 0 8))), (3, .int 0), (2, .int 0), (0, .ref 0), (1, .int 2)]) (st2 := [.ref 6, .int (0 + (Bm 6 0 8))]) rfl rfl ?_
  refine mB hT 38 rfl ?_
  have J0 : ∀ t0 : Int32, t0 = (if cgS 3 (Bm 6 0) ≤ 0 then 0 else 1) → G (103, [(5, .int 3), (4, .int (((0 + (Bm 6 0 8)) + (Bm 6 0 9)) + (Bm 6 0 10))), (3, .int 0), (2, .int 0), (0, .ref 0), (1, .int 2)], [.int t0, .int 0], (MW 3 (Int32.ofNat vs) wo un h bo ta tr ro ot Bm bk)) := by
    intro t0 et0
    refine mB hT 40 rfl ?_
    refine mNf (lv2 := [(5, .int 1), (4, .int (0 + (Bm 6 1 8))), (3, .int 1), (2, .int (0 + t0)), (0, .ref 0), (1, .int 2)]) (st2 := [.int 4, .int 96, .ref 6, .int (0 + (Bm 6 1 8))]) rfl rfl ?_
    refine mB hT 36 rfl ?_
    have J1 : ∀ t1 : Int32, t1 = (if cgS 3 (Bm 6 1) ≤ 0 then 0 else 1) → G (103, [(5, .int 3), (4, .int (((0 + (Bm 6 1 8)) + (Bm 6 1 9)) + (Bm 6 1 10))), (3, .int 1), (2, .int (0 + t0)), (0, .ref 0), (1, .int 2)], [.int t1, .int (0 + t0)], (MW 3 (Int32.ofNat vs) wo un h bo ta tr ro ot Bm bk)) := by
      intro t1 et1
      refine mB hT 40 rfl ?_
      refine mNf (lv2 := [(5, .int 1), (4, .int (0 + (Bm 6 2 8))), (3, .int 2), (2, .int ((0 + t0) + t1)), (0, .ref 0), (1, .int 2)]) (st2 := [.int 4, .int 96, .ref 6, .int (0 + (Bm 6 2 8))]) rfl rfl ?_
      refine mB hT 36 rfl ?_
      have J2 : ∀ t2 : Int32, t2 = (if cgS 3 (Bm 6 2) ≤ 0 then 0 else 1) → G (103, [(5, .int 3), (4, .int (((0 + (Bm 6 2 8)) + (Bm 6 2 9)) + (Bm 6 2 10))), (3, .int 2), (2, .int ((0 + t0) + t1)), (0, .ref 0), (1, .int 2)], [.int t2, .int ((0 + t0) + t1)], (MW 3 (Int32.ofNat vs) wo un h bo ta tr ro ot Bm bk)) := by
        intro t2 et2
        refine mB hT 9 rfl ?_
        exact hR _ (by decide) _ _ _ (by subst et0 et1 et2; rfl) rfl
      refine mIf (fun h => ?_) (fun h => ?_)
      · refine mB hT 1 rfl ?_
        exact J2 0 (if_pos h).symm
      · refine mB hT 2 rfl ?_
        exact J2 1 (if_neg h).symm
    refine mIf (fun h => ?_) (fun h => ?_)
    · refine mB hT 1 rfl ?_
      exact J1 0 (if_pos h).symm
    · refine mB hT 2 rfl ?_
      exact J1 1 (if_neg h).symm
  refine mIf (fun h => ?_) (fun h => ?_)
  · refine mB hT 1 rfl ?_
    exact J0 0 (if_pos h).symm
  · refine mB hT 2 rfl ?_
    exact J0 1 (if_neg h).symm
def c3M_3 (c : Nat → Int32) : Int32 := ((((((((((((((((0 + (if c 0 = 0 then 0 else 1)) + (if c 1 = 0 then 0 else 1)) + (if c 2 = 0 then 0 else 1)) + 0) + (if c 3 = 0 then 0 else 1)) + (if c 4 = 0 then 0 else 1)) + (if c 5 = 0 then 0 else 1)) + 0) + (if c 6 = 0 then 0 else 1)) + (if c 7 = 0 then 0 else 1)) + (if c 8 = 0 then 0 else 1)) + 0) + 0) + 0) + 0) + 0)
set_option maxRecDepth 20000 in
theorem m_c3_3 {vs : Nat} {wo un h : Int64} {bo : Nat → Int32} {ta tr ro ot : Nat → Int64} {Bm : Nat → Nat → Nat → Int32} {bk : Nat → Nat → Int32} {c : Nat → Int32} (hc : ∀ q : Nat, c q = [ceM 3 (Bm 6) 0 0, ceM 3 (Bm 6) 1 0, ceM 3 (Bm 6) 2 0, ceM 3 (Bm 6) 0 1, ceM 3 (Bm 6) 1 1, ceM 3 (Bm 6) 2 1, ceM 3 (Bm 6) 0 2, ceM 3 (Bm 6) 1 2, ceM 3 (Bm 6) 2 2].getD q 0) : KX3_count l D ca ad [.ref 0, .int 3] (MW 3 (Int32.ofNat vs) wo un h bo ta tr ro ot Bm bk) (some (.int (c3M_3 c))) (MW 3 (Int32.ofNat vs) wo un h bo ta tr ro ot Bm bk) := by
  refine PX3_count (Nat.le_of_ble_eq_true rfl) ?_
  intro G hT hC hR
  refine mB hT 30 rfl ?_
  refine mNf (lv2 := [(3, .int 0), (2, .int 0), (0, .ref 0), (1, .int 3)]) (st2 := [.int 0, .int 0, .int 6, .ref 0, .int 0]) rfl rfl ?_
  refine hC _ 0 [_, _, _] _ _ _ _ _ (show KX3_entryOf l D ca ad _ _ (some (.int (c 0))) _ from (by rw [hc 0]; exact m_entryOf_6_0_0 (n := 3) (by decide))) rfl rfl (Nat.le_of_ble_eq_true rfl) rfl ?_
  refine mB hT 1 rfl ?_
  have J0 : ∀ t0 : Int32, t0 = (if c 0 = 0 then 0 else 1) → G (162, [(3, .int 0), (2, .int 0), (0, .ref 0), (1, .int 3)], [.int t0, .int 0], (MW 3 (Int32.ofNat vs) wo un h bo ta tr ro ot Bm bk)) := by
    intro t0 et0
    refine mB hT 28 rfl ?_
    refine mNf (lv2 := [(3, .int 1), (2, .int (0 + t0)), (0, .ref 0), (1, .int 3)]) (st2 := [.int 1, .int 0, .int 6, .ref 0, .int (0 + t0)]) rfl rfl ?_
    refine hC _ 0 [_, _, _] _ _ _ _ _ (show KX3_entryOf l D ca ad _ _ (some (.int (c 1))) _ from (by rw [hc 1]; exact m_entryOf_6_0_1 (n := 3) (by decide))) rfl rfl (Nat.le_of_ble_eq_true rfl) rfl ?_
    refine mB hT 1 rfl ?_
    have J1 : ∀ t1 : Int32, t1 = (if c 1 = 0 then 0 else 1) → G (162, [(3, .int 1), (2, .int (0 + t0)), (0, .ref 0), (1, .int 3)], [.int t1, .int (0 + t0)], (MW 3 (Int32.ofNat vs) wo un h bo ta tr ro ot Bm bk)) := by
      intro t1 et1
      refine mB hT 28 rfl ?_
      refine mNf (lv2 := [(3, .int 2), (2, .int ((0 + t0) + t1)), (0, .ref 0), (1, .int 3)]) (st2 := [.int 2, .int 0, .int 6, .ref 0, .int ((0 + t0) + t1)]) rfl rfl ?_
      refine hC _ 0 [_, _, _] _ _ _ _ _ (show KX3_entryOf l D ca ad _ _ (some (.int (c 2))) _ from (by rw [hc 2]; exact m_entryOf_6_0_2 (n := 3) (by decide))) rfl rfl (Nat.le_of_ble_eq_true rfl) rfl ?_
      refine mB hT 1 rfl ?_
      have J2 : ∀ t2 : Int32, t2 = (if c 2 = 0 then 0 else 1) → G (162, [(3, .int 2), (2, .int ((0 + t0) + t1)), (0, .ref 0), (1, .int 3)], [.int t2, .int ((0 + t0) + t1)], (MW 3 (Int32.ofNat vs) wo un h bo ta tr ro ot Bm bk)) := by
        intro t2 et2
        refine mB hT 40 rfl ?_
        refine mNf (lv2 := [(3, .int 4), (2, .int ((((0 + t0) + t1) + t2) + 0)), (0, .ref 0), (1, .int 3)]) (st2 := [.int 3, .int 0, .int ((((0 + t0) + t1) + t2) + 0)]) rfl rfl ?_
        refine mB hT 9 rfl ?_
        refine hC _ 0 [_, _, _] _ _ _ _ _ (show KX3_entryOf l D ca ad _ _ (some (.int (c 3))) _ from (by rw [hc 3]; exact m_entryOf_6_1_0 (n := 3) (by decide))) rfl rfl (Nat.le_of_ble_eq_true rfl) rfl ?_
        refine mB hT 1 rfl ?_
        have J3 : ∀ t3 : Int32, t3 = (if c 3 = 0 then 0 else 1) → G (162, [(3, .int 4), (2, .int ((((0 + t0) + t1) + t2) + 0)), (0, .ref 0), (1, .int 3)], [.int t3, .int ((((0 + t0) + t1) + t2) + 0)], (MW 3 (Int32.ofNat vs) wo un h bo ta tr ro ot Bm bk)) := by
          intro t3 et3
          refine mB hT 28 rfl ?_
          refine mNf (lv2 := [(3, .int 5), (2, .int (((((0 + t0) + t1) + t2) + 0) + t3)), (0, .ref 0), (1, .int 3)]) (st2 := [.int 1, .int 1, .int 6, .ref 0, .int (((((0 + t0) + t1) + t2) + 0) + t3)]) rfl rfl ?_
          refine hC _ 0 [_, _, _] _ _ _ _ _ (show KX3_entryOf l D ca ad _ _ (some (.int (c 4))) _ from (by rw [hc 4]; exact m_entryOf_6_1_1 (n := 3) (by decide))) rfl rfl (Nat.le_of_ble_eq_true rfl) rfl ?_
          refine mB hT 1 rfl ?_
          have J4 : ∀ t4 : Int32, t4 = (if c 4 = 0 then 0 else 1) → G (162, [(3, .int 5), (2, .int (((((0 + t0) + t1) + t2) + 0) + t3)), (0, .ref 0), (1, .int 3)], [.int t4, .int (((((0 + t0) + t1) + t2) + 0) + t3)], (MW 3 (Int32.ofNat vs) wo un h bo ta tr ro ot Bm bk)) := by
            intro t4 et4
            refine mB hT 28 rfl ?_
            refine mNf (lv2 := [(3, .int 6), (2, .int ((((((0 + t0) + t1) + t2) + 0) + t3) + t4)), (0, .ref 0), (1, .int 3)]) (st2 := [.int 2, .int 1, .int 6, .ref 0, .int ((((((0 + t0) + t1) + t2) + 0) + t3) + t4)]) rfl rfl ?_
            refine hC _ 0 [_, _, _] _ _ _ _ _ (show KX3_entryOf l D ca ad _ _ (some (.int (c 5))) _ from (by rw [hc 5]; exact m_entryOf_6_1_2 (n := 3) (by decide))) rfl rfl (Nat.le_of_ble_eq_true rfl) rfl ?_
            refine mB hT 1 rfl ?_
            have J5 : ∀ t5 : Int32, t5 = (if c 5 = 0 then 0 else 1) → G (162, [(3, .int 6), (2, .int ((((((0 + t0) + t1) + t2) + 0) + t3) + t4)), (0, .ref 0), (1, .int 3)], [.int t5, .int ((((((0 + t0) + t1) + t2) + 0) + t3) + t4)], (MW 3 (Int32.ofNat vs) wo un h bo ta tr ro ot Bm bk)) := by
              intro t5 et5
              refine mB hT 40 rfl ?_
              refine mNf (lv2 := [(3, .int 8), (2, .int ((((((((0 + t0) + t1) + t2) + 0) + t3) + t4) + t5) + 0)), (0, .ref 0), (1, .int 3)]) (st2 := [.int 3, .int 0, .int ((((((((0 + t0) + t1) + t2) + 0) + t3) + t4) + t5) + 0)]) rfl rfl ?_
              refine mB hT 9 rfl ?_
              refine hC _ 0 [_, _, _] _ _ _ _ _ (show KX3_entryOf l D ca ad _ _ (some (.int (c 6))) _ from (by rw [hc 6]; exact m_entryOf_6_2_0 (n := 3) (by decide))) rfl rfl (Nat.le_of_ble_eq_true rfl) rfl ?_
              refine mB hT 1 rfl ?_
              have J6 : ∀ t6 : Int32, t6 = (if c 6 = 0 then 0 else 1) → G (162, [(3, .int 8), (2, .int ((((((((0 + t0) + t1) + t2) + 0) + t3) + t4) + t5) + 0)), (0, .ref 0), (1, .int 3)], [.int t6, .int ((((((((0 + t0) + t1) + t2) + 0) + t3) + t4) + t5) + 0)], (MW 3 (Int32.ofNat vs) wo un h bo ta tr ro ot Bm bk)) := by
                intro t6 et6
                refine mB hT 28 rfl ?_
                refine mNf (lv2 := [(3, .int 9), (2, .int (((((((((0 + t0) + t1) + t2) + 0) + t3) + t4) + t5) + 0) + t6)), (0, .ref 0), (1, .int 3)]) (st2 := [.int 1, .int 2, .int 6, .ref 0, .int (((((((((0 + t0) + t1) + t2) + 0) + t3) + t4) + t5) + 0) + t6)]) rfl rfl ?_
                refine hC _ 0 [_, _, _] _ _ _ _ _ (show KX3_entryOf l D ca ad _ _ (some (.int (c 7))) _ from (by rw [hc 7]; exact m_entryOf_6_2_1 (n := 3) (by decide))) rfl rfl (Nat.le_of_ble_eq_true rfl) rfl ?_
                refine mB hT 1 rfl ?_
                have J7 : ∀ t7 : Int32, t7 = (if c 7 = 0 then 0 else 1) → G (162, [(3, .int 9), (2, .int (((((((((0 + t0) + t1) + t2) + 0) + t3) + t4) + t5) + 0) + t6)), (0, .ref 0), (1, .int 3)], [.int t7, .int (((((((((0 + t0) + t1) + t2) + 0) + t3) + t4) + t5) + 0) + t6)], (MW 3 (Int32.ofNat vs) wo un h bo ta tr ro ot Bm bk)) := by
                  intro t7 et7
                  refine mB hT 28 rfl ?_
                  refine mNf (lv2 := [(3, .int 10), (2, .int ((((((((((0 + t0) + t1) + t2) + 0) + t3) + t4) + t5) + 0) + t6) + t7)), (0, .ref 0), (1, .int 3)]) (st2 := [.int 2, .int 2, .int 6, .ref 0, .int ((((((((((0 + t0) + t1) + t2) + 0) + t3) + t4) + t5) + 0) + t6) + t7)]) rfl rfl ?_
                  refine hC _ 0 [_, _, _] _ _ _ _ _ (show KX3_entryOf l D ca ad _ _ (some (.int (c 8))) _ from (by rw [hc 8]; exact m_entryOf_6_2_2 (n := 3) (by decide))) rfl rfl (Nat.le_of_ble_eq_true rfl) rfl ?_
                  refine mB hT 1 rfl ?_
                  have J8 : ∀ t8 : Int32, t8 = (if c 8 = 0 then 0 else 1) → G (162, [(3, .int 10), (2, .int ((((((((((0 + t0) + t1) + t2) + 0) + t3) + t4) + t5) + 0) + t6) + t7)), (0, .ref 0), (1, .int 3)], [.int t8, .int ((((((((((0 + t0) + t1) + t2) + 0) + t3) + t4) + t5) + 0) + t6) + t7)], (MW 3 (Int32.ofNat vs) wo un h bo ta tr ro ot Bm bk)) := by
                    intro t8 et8
                    refine mB hT 40 rfl ?_
                    refine mNf (lv2 := [(3, .int 13), (2, .int (((((((((((((0 + t0) + t1) + t2) + 0) + t3) + t4) + t5) + 0) + t6) + t7) + t8) + 0) + 0)), (0, .ref 0), (1, .int 3)]) (st2 := []) rfl rfl ?_
                    refine mB hT 40 rfl ?_
                    refine mNf (lv2 := [(3, .int 15), (2, .int (((((((((((((((0 + t0) + t1) + t2) + 0) + t3) + t4) + t5) + 0) + t6) + t7) + t8) + 0) + 0) + 0) + 0)), (0, .ref 0), (1, .int 3)]) (st2 := [.int (((((((((((((((0 + t0) + t1) + t2) + 0) + t3) + t4) + t5) + 0) + t6) + t7) + t8) + 0) + 0) + 0) + 0)]) rfl rfl ?_
                    refine mB hT 9 rfl ?_
                    exact hR _ (by decide) _ _ _ (by subst et0 et1 et2 et3 et4 et5 et6 et7 et8; rfl) rfl
                  refine mIf (fun h => ?_) (fun h => ?_)
                  · refine mB hT 1 rfl ?_
                    exact J8 0 (if_pos h).symm
                  · refine mB hT 2 rfl ?_
                    exact J8 1 (if_neg h).symm
                refine mIf (fun h => ?_) (fun h => ?_)
                · refine mB hT 1 rfl ?_
                  exact J7 0 (if_pos h).symm
                · refine mB hT 2 rfl ?_
                  exact J7 1 (if_neg h).symm
              refine mIf (fun h => ?_) (fun h => ?_)
              · refine mB hT 1 rfl ?_
                exact J6 0 (if_pos h).symm
              · refine mB hT 2 rfl ?_
                exact J6 1 (if_neg h).symm
            refine mIf (fun h => ?_) (fun h => ?_)
            · refine mB hT 1 rfl ?_
              exact J5 0 (if_pos h).symm
            · refine mB hT 2 rfl ?_
              exact J5 1 (if_neg h).symm
          refine mIf (fun h => ?_) (fun h => ?_)
          · refine mB hT 1 rfl ?_
            exact J4 0 (if_pos h).symm
          · refine mB hT 2 rfl ?_
            exact J4 1 (if_neg h).symm
        refine mIf (fun h => ?_) (fun h => ?_)
        · refine mB hT 1 rfl ?_
          exact J3 0 (if_pos h).symm
        · refine mB hT 2 rfl ?_
          exact J3 1 (if_neg h).symm
      refine mIf (fun h => ?_) (fun h => ?_)
      · refine mB hT 1 rfl ?_
        exact J2 0 (if_pos h).symm
      · refine mB hT 2 rfl ?_
        exact J2 1 (if_neg h).symm
    refine mIf (fun h => ?_) (fun h => ?_)
    · refine mB hT 1 rfl ?_
      exact J1 0 (if_pos h).symm
    · refine mB hT 2 rfl ?_
      exact J1 1 (if_neg h).symm
  refine mIf (fun h => ?_) (fun h => ?_)
  · refine mB hT 1 rfl ?_
    exact J0 0 (if_pos h).symm
  · refine mB hT 2 rfl ?_
    exact J0 1 (if_neg h).symm
set_option maxRecDepth 20000 in
theorem m_count2_4 {vs : Nat} {wo un h : Int64} {bo : Nat → Int32} {ta tr ro ot : Nat → Int64} {Bm : Nat → Nat → Nat → Int32} {bk : Nat → Nat → Int32} : KX3_count l D ca ad [.ref 0, .int 2] (MW 4 (Int32.ofNat vs) wo un h bo ta tr ro ot Bm bk) (some (.int (cgM 4 4 (Bm 6)))) (MW 4 (Int32.ofNat vs) wo un h bo ta tr ro ot Bm bk) := by
  refine PX3_count (Nat.le_of_ble_eq_true rfl) ?_
  intro G hT hC hR
  refine mB hT 40 rfl ?_
  refine mNf (lv2 := [(5, .int 1), (4, .int (0 + (Bm 6 0 8))), (3, .int 0), (2, .int 0), (0, .ref 0), (1, .int 2)]) (st2 := [.ref 6, .int (0 + (Bm 6 0 8))]) rfl rfl ?_
  refine mB hT 40 rfl ?_
  refine mNf (lv2 := [(5, .int 3), (4, .int (((0 + (Bm 6 0 8)) + (Bm 6 0 9)) + (Bm 6 0 10))), (3, .int 0), (2, .int 0), (0, .ref 0), (1, .int 2)]) (st2 := [.int 4, .int 96, .ref 6, .int (((0 + (Bm 6 0 8)) + (Bm 6 0 9)) + (Bm 6 0 10))]) rfl rfl ?_
  refine mB hT 17 rfl ?_
  have J0 : ∀ t0 : Int32, t0 = (if cgS 4 (Bm 6 0) ≤ 0 then 0 else 1) → G (103, [(5, .int 4), (4, .int ((((0 + (Bm 6 0 8)) + (Bm 6 0 9)) + (Bm 6 0 10)) + (Bm 6 0 11))), (3, .int 0), (2, .int 0), (0, .ref 0), (1, .int 2)], [.int t0, .int 0], (MW 4 (Int32.ofNat vs) wo un h bo ta tr ro ot Bm bk)) := by
    intro t0 et0
    refine mB hT 40 rfl ?_
    refine mNf (lv2 := [(5, .int 1), (4, .int (0 + (Bm 6 1 8))), (3, .int 1), (2, .int (0 + t0)), (0, .ref 0), (1, .int 2)]) (st2 := [.int 4, .int 96, .ref 6, .int (0 + (Bm 6 1 8))]) rfl rfl ?_
    refine mB hT 40 rfl ?_
    refine mNf (lv2 := [(5, .int 3), (4, .int (((0 + (Bm 6 1 8)) + (Bm 6 1 9)) + (Bm 6 1 10))), (3, .int 1), (2, .int (0 + t0)), (0, .ref 0), (1, .int 2)]) (st2 := [.int 4, .int 96, .ref 6, .int (((0 + (Bm 6 1 8)) + (Bm 6 1 9)) + (Bm 6 1 10))]) rfl rfl ?_
    refine mB hT 15 rfl ?_
    have J1 : ∀ t1 : Int32, t1 = (if cgS 4 (Bm 6 1) ≤ 0 then 0 else 1) → G (103, [(5, .int 4), (4, .int ((((0 + (Bm 6 1 8)) + (Bm 6 1 9)) + (Bm 6 1 10)) + (Bm 6 1 11))), (3, .int 1), (2, .int (0 + t0)), (0, .ref 0), (1, .int 2)], [.int t1, .int (0 + t0)], (MW 4 (Int32.ofNat vs) wo un h bo ta tr ro ot Bm bk)) := by
      intro t1 et1
      refine mB hT 40 rfl ?_
      refine mNf (lv2 := [(5, .int 1), (4, .int (0 + (Bm 6 2 8))), (3, .int 2), (2, .int ((0 + t0) + t1)), (0, .ref 0), (1, .int 2)]) (st2 := [.int 4, .int 96, .ref 6, .int (0 + (Bm 6 2 8))]) rfl rfl ?_
      refine mB hT 40 rfl ?_
      refine mNf (lv2 := [(5, .int 3), (4, .int (((0 + (Bm 6 2 8)) + (Bm 6 2 9)) + (Bm 6 2 10))), (3, .int 2), (2, .int ((0 + t0) + t1)), (0, .ref 0), (1, .int 2)]) (st2 := [.int 8, .int 96, .ref 6, .int (((0 + (Bm 6 2 8)) + (Bm 6 2 9)) + (Bm 6 2 10))]) rfl rfl ?_
      refine mB hT 15 rfl ?_
      have J2 : ∀ t2 : Int32, t2 = (if cgS 4 (Bm 6 2) ≤ 0 then 0 else 1) → G (103, [(5, .int 4), (4, .int ((((0 + (Bm 6 2 8)) + (Bm 6 2 9)) + (Bm 6 2 10)) + (Bm 6 2 11))), (3, .int 2), (2, .int ((0 + t0) + t1)), (0, .ref 0), (1, .int 2)], [.int t2, .int ((0 + t0) + t1)], (MW 4 (Int32.ofNat vs) wo un h bo ta tr ro ot Bm bk)) := by
        intro t2 et2
        refine mB hT 40 rfl ?_
        refine mNf (lv2 := [(5, .int 1), (4, .int (0 + (Bm 6 3 8))), (3, .int 3), (2, .int (((0 + t0) + t1) + t2)), (0, .ref 0), (1, .int 2)]) (st2 := [.int 4, .int 96, .ref 6, .int (0 + (Bm 6 3 8))]) rfl rfl ?_
        refine mB hT 40 rfl ?_
        refine mNf (lv2 := [(5, .int 3), (4, .int (((0 + (Bm 6 3 8)) + (Bm 6 3 9)) + (Bm 6 3 10))), (3, .int 3), (2, .int (((0 + t0) + t1) + t2)), (0, .ref 0), (1, .int 2)]) (st2 := [.int 12, .int 96, .ref 6, .int (((0 + (Bm 6 3 8)) + (Bm 6 3 9)) + (Bm 6 3 10))]) rfl rfl ?_
        refine mB hT 15 rfl ?_
        have J3 : ∀ t3 : Int32, t3 = (if cgS 4 (Bm 6 3) ≤ 0 then 0 else 1) → G (103, [(5, .int 4), (4, .int ((((0 + (Bm 6 3 8)) + (Bm 6 3 9)) + (Bm 6 3 10)) + (Bm 6 3 11))), (3, .int 3), (2, .int (((0 + t0) + t1) + t2)), (0, .ref 0), (1, .int 2)], [.int t3, .int (((0 + t0) + t1) + t2)], (MW 4 (Int32.ofNat vs) wo un h bo ta tr ro ot Bm bk)) := by
          intro t3 et3
          refine mB hT 9 rfl ?_
          exact hR _ (by decide) _ _ _ (by subst et0 et1 et2 et3; rfl) rfl
        refine mIf (fun h => ?_) (fun h => ?_)
        · refine mB hT 1 rfl ?_
          exact J3 0 (if_pos h).symm
        · refine mB hT 2 rfl ?_
          exact J3 1 (if_neg h).symm
      refine mIf (fun h => ?_) (fun h => ?_)
      · refine mB hT 1 rfl ?_
        exact J2 0 (if_pos h).symm
      · refine mB hT 2 rfl ?_
        exact J2 1 (if_neg h).symm
    refine mIf (fun h => ?_) (fun h => ?_)
    · refine mB hT 1 rfl ?_
      exact J1 0 (if_pos h).symm
    · refine mB hT 2 rfl ?_
      exact J1 1 (if_neg h).symm
  refine mIf (fun h => ?_) (fun h => ?_)
  · refine mB hT 1 rfl ?_
    exact J0 0 (if_pos h).symm
  · refine mB hT 2 rfl ?_
    exact J0 1 (if_neg h).symm
def c3M_4 (c : Nat → Int32) : Int32 := ((((((((((((((((0 + (if c 0 = 0 then 0 else 1)) + (if c 1 = 0 then 0 else 1)) + (if c 2 = 0 then 0 else 1)) + (if c 3 = 0 then 0 else 1)) + (if c 4 = 0 then 0 else 1)) + (if c 5 = 0 then 0 else 1)) + (if c 6 = 0 then 0 else 1)) + (if c 7 = 0 then 0 else 1)) + (if c 8 = 0 then 0 else 1)) + (if c 9 = 0 then 0 else 1)) + (if c 10 = 0 then 0 else 1)) + (if c 11 = 0 then 0 else 1)) + (if c 12 = 0 then 0 else 1)) + (if c 13 = 0 then 0 else 1)) + (if c 14 = 0 then 0 else 1)) + (if c 15 = 0 then 0 else 1))
set_option maxRecDepth 20000 in
theorem m_c3_4 {vs : Nat} {wo un h : Int64} {bo : Nat → Int32} {ta tr ro ot : Nat → Int64} {Bm : Nat → Nat → Nat → Int32} {bk : Nat → Nat → Int32} {c : Nat → Int32} (hc : ∀ q : Nat, c q = [ceM 4 (Bm 6) 0 0, ceM 4 (Bm 6) 1 0, ceM 4 (Bm 6) 2 0, ceM 4 (Bm 6) 3 0, ceM 4 (Bm 6) 0 1, ceM 4 (Bm 6) 1 1, ceM 4 (Bm 6) 2 1, ceM 4 (Bm 6) 3 1, ceM 4 (Bm 6) 0 2, ceM 4 (Bm 6) 1 2, ceM 4 (Bm 6) 2 2, ceM 4 (Bm 6) 3 2, ceM 4 (Bm 6) 0 3, ceM 4 (Bm 6) 1 3, ceM 4 (Bm 6) 2 3, ceM 4 (Bm 6) 3 3].getD q 0) : KX3_count l D ca ad [.ref 0, .int 3] (MW 4 (Int32.ofNat vs) wo un h bo ta tr ro ot Bm bk) (some (.int (c3M_4 c))) (MW 4 (Int32.ofNat vs) wo un h bo ta tr ro ot Bm bk) := by
  refine PX3_count (Nat.le_of_ble_eq_true rfl) ?_
  intro G hT hC hR
  refine mB hT 30 rfl ?_
  refine mNf (lv2 := [(3, .int 0), (2, .int 0), (0, .ref 0), (1, .int 3)]) (st2 := [.int 0, .int 0, .int 6, .ref 0, .int 0]) rfl rfl ?_
  refine hC _ 0 [_, _, _] _ _ _ _ _ (show KX3_entryOf l D ca ad _ _ (some (.int (c 0))) _ from (by rw [hc 0]; exact m_entryOf_6_0_0 (n := 4) (by decide))) rfl rfl (Nat.le_of_ble_eq_true rfl) rfl ?_
  refine mB hT 1 rfl ?_
  have J0 : ∀ t0 : Int32, t0 = (if c 0 = 0 then 0 else 1) → G (162, [(3, .int 0), (2, .int 0), (0, .ref 0), (1, .int 3)], [.int t0, .int 0], (MW 4 (Int32.ofNat vs) wo un h bo ta tr ro ot Bm bk)) := by
    intro t0 et0
    refine mB hT 28 rfl ?_
    refine mNf (lv2 := [(3, .int 1), (2, .int (0 + t0)), (0, .ref 0), (1, .int 3)]) (st2 := [.int 1, .int 0, .int 6, .ref 0, .int (0 + t0)]) rfl rfl ?_
    refine hC _ 0 [_, _, _] _ _ _ _ _ (show KX3_entryOf l D ca ad _ _ (some (.int (c 1))) _ from (by rw [hc 1]; exact m_entryOf_6_0_1 (n := 4) (by decide))) rfl rfl (Nat.le_of_ble_eq_true rfl) rfl ?_
    refine mB hT 1 rfl ?_
    have J1 : ∀ t1 : Int32, t1 = (if c 1 = 0 then 0 else 1) → G (162, [(3, .int 1), (2, .int (0 + t0)), (0, .ref 0), (1, .int 3)], [.int t1, .int (0 + t0)], (MW 4 (Int32.ofNat vs) wo un h bo ta tr ro ot Bm bk)) := by
      intro t1 et1
      refine mB hT 28 rfl ?_
      refine mNf (lv2 := [(3, .int 2), (2, .int ((0 + t0) + t1)), (0, .ref 0), (1, .int 3)]) (st2 := [.int 2, .int 0, .int 6, .ref 0, .int ((0 + t0) + t1)]) rfl rfl ?_
      refine hC _ 0 [_, _, _] _ _ _ _ _ (show KX3_entryOf l D ca ad _ _ (some (.int (c 2))) _ from (by rw [hc 2]; exact m_entryOf_6_0_2 (n := 4) (by decide))) rfl rfl (Nat.le_of_ble_eq_true rfl) rfl ?_
      refine mB hT 1 rfl ?_
      have J2 : ∀ t2 : Int32, t2 = (if c 2 = 0 then 0 else 1) → G (162, [(3, .int 2), (2, .int ((0 + t0) + t1)), (0, .ref 0), (1, .int 3)], [.int t2, .int ((0 + t0) + t1)], (MW 4 (Int32.ofNat vs) wo un h bo ta tr ro ot Bm bk)) := by
        intro t2 et2
        refine mB hT 28 rfl ?_
        refine mNf (lv2 := [(3, .int 3), (2, .int (((0 + t0) + t1) + t2)), (0, .ref 0), (1, .int 3)]) (st2 := [.int 3, .int 0, .int 6, .ref 0, .int (((0 + t0) + t1) + t2)]) rfl rfl ?_
        refine hC _ 0 [_, _, _] _ _ _ _ _ (show KX3_entryOf l D ca ad _ _ (some (.int (c 3))) _ from (by rw [hc 3]; exact m_entryOf_6_0_3 (n := 4) (by decide))) rfl rfl (Nat.le_of_ble_eq_true rfl) rfl ?_
        refine mB hT 1 rfl ?_
        have J3 : ∀ t3 : Int32, t3 = (if c 3 = 0 then 0 else 1) → G (162, [(3, .int 3), (2, .int (((0 + t0) + t1) + t2)), (0, .ref 0), (1, .int 3)], [.int t3, .int (((0 + t0) + t1) + t2)], (MW 4 (Int32.ofNat vs) wo un h bo ta tr ro ot Bm bk)) := by
          intro t3 et3
          refine mB hT 28 rfl ?_
          refine mNf (lv2 := [(3, .int 4), (2, .int ((((0 + t0) + t1) + t2) + t3)), (0, .ref 0), (1, .int 3)]) (st2 := [.int 0, .int 1, .int 6, .ref 0, .int ((((0 + t0) + t1) + t2) + t3)]) rfl rfl ?_
          refine hC _ 0 [_, _, _] _ _ _ _ _ (show KX3_entryOf l D ca ad _ _ (some (.int (c 4))) _ from (by rw [hc 4]; exact m_entryOf_6_1_0 (n := 4) (by decide))) rfl rfl (Nat.le_of_ble_eq_true rfl) rfl ?_
          refine mB hT 1 rfl ?_
          have J4 : ∀ t4 : Int32, t4 = (if c 4 = 0 then 0 else 1) → G (162, [(3, .int 4), (2, .int ((((0 + t0) + t1) + t2) + t3)), (0, .ref 0), (1, .int 3)], [.int t4, .int ((((0 + t0) + t1) + t2) + t3)], (MW 4 (Int32.ofNat vs) wo un h bo ta tr ro ot Bm bk)) := by
            intro t4 et4
            refine mB hT 28 rfl ?_
            refine mNf (lv2 := [(3, .int 5), (2, .int (((((0 + t0) + t1) + t2) + t3) + t4)), (0, .ref 0), (1, .int 3)]) (st2 := [.int 1, .int 1, .int 6, .ref 0, .int (((((0 + t0) + t1) + t2) + t3) + t4)]) rfl rfl ?_
            refine hC _ 0 [_, _, _] _ _ _ _ _ (show KX3_entryOf l D ca ad _ _ (some (.int (c 5))) _ from (by rw [hc 5]; exact m_entryOf_6_1_1 (n := 4) (by decide))) rfl rfl (Nat.le_of_ble_eq_true rfl) rfl ?_
            refine mB hT 1 rfl ?_
            have J5 : ∀ t5 : Int32, t5 = (if c 5 = 0 then 0 else 1) → G (162, [(3, .int 5), (2, .int (((((0 + t0) + t1) + t2) + t3) + t4)), (0, .ref 0), (1, .int 3)], [.int t5, .int (((((0 + t0) + t1) + t2) + t3) + t4)], (MW 4 (Int32.ofNat vs) wo un h bo ta tr ro ot Bm bk)) := by
              intro t5 et5
              refine mB hT 28 rfl ?_
              refine mNf (lv2 := [(3, .int 6), (2, .int ((((((0 + t0) + t1) + t2) + t3) + t4) + t5)), (0, .ref 0), (1, .int 3)]) (st2 := [.int 2, .int 1, .int 6, .ref 0, .int ((((((0 + t0) + t1) + t2) + t3) + t4) + t5)]) rfl rfl ?_
              refine hC _ 0 [_, _, _] _ _ _ _ _ (show KX3_entryOf l D ca ad _ _ (some (.int (c 6))) _ from (by rw [hc 6]; exact m_entryOf_6_1_2 (n := 4) (by decide))) rfl rfl (Nat.le_of_ble_eq_true rfl) rfl ?_
              refine mB hT 1 rfl ?_
              have J6 : ∀ t6 : Int32, t6 = (if c 6 = 0 then 0 else 1) → G (162, [(3, .int 6), (2, .int ((((((0 + t0) + t1) + t2) + t3) + t4) + t5)), (0, .ref 0), (1, .int 3)], [.int t6, .int ((((((0 + t0) + t1) + t2) + t3) + t4) + t5)], (MW 4 (Int32.ofNat vs) wo un h bo ta tr ro ot Bm bk)) := by
                intro t6 et6
                refine mB hT 28 rfl ?_
                refine mNf (lv2 := [(3, .int 7), (2, .int (((((((0 + t0) + t1) + t2) + t3) + t4) + t5) + t6)), (0, .ref 0), (1, .int 3)]) (st2 := [.int 3, .int 1, .int 6, .ref 0, .int (((((((0 + t0) + t1) + t2) + t3) + t4) + t5) + t6)]) rfl rfl ?_
                refine hC _ 0 [_, _, _] _ _ _ _ _ (show KX3_entryOf l D ca ad _ _ (some (.int (c 7))) _ from (by rw [hc 7]; exact m_entryOf_6_1_3 (n := 4) (by decide))) rfl rfl (Nat.le_of_ble_eq_true rfl) rfl ?_
                refine mB hT 1 rfl ?_
                have J7 : ∀ t7 : Int32, t7 = (if c 7 = 0 then 0 else 1) → G (162, [(3, .int 7), (2, .int (((((((0 + t0) + t1) + t2) + t3) + t4) + t5) + t6)), (0, .ref 0), (1, .int 3)], [.int t7, .int (((((((0 + t0) + t1) + t2) + t3) + t4) + t5) + t6)], (MW 4 (Int32.ofNat vs) wo un h bo ta tr ro ot Bm bk)) := by
                  intro t7 et7
                  refine mB hT 28 rfl ?_
                  refine mNf (lv2 := [(3, .int 8), (2, .int ((((((((0 + t0) + t1) + t2) + t3) + t4) + t5) + t6) + t7)), (0, .ref 0), (1, .int 3)]) (st2 := [.int 0, .int 2, .int 6, .ref 0, .int ((((((((0 + t0) + t1) + t2) + t3) + t4) + t5) + t6) + t7)]) rfl rfl ?_
                  refine hC _ 0 [_, _, _] _ _ _ _ _ (show KX3_entryOf l D ca ad _ _ (some (.int (c 8))) _ from (by rw [hc 8]; exact m_entryOf_6_2_0 (n := 4) (by decide))) rfl rfl (Nat.le_of_ble_eq_true rfl) rfl ?_
                  refine mB hT 1 rfl ?_
                  have J8 : ∀ t8 : Int32, t8 = (if c 8 = 0 then 0 else 1) → G (162, [(3, .int 8), (2, .int ((((((((0 + t0) + t1) + t2) + t3) + t4) + t5) + t6) + t7)), (0, .ref 0), (1, .int 3)], [.int t8, .int ((((((((0 + t0) + t1) + t2) + t3) + t4) + t5) + t6) + t7)], (MW 4 (Int32.ofNat vs) wo un h bo ta tr ro ot Bm bk)) := by
                    intro t8 et8
                    refine mB hT 28 rfl ?_
                    refine mNf (lv2 := [(3, .int 9), (2, .int (((((((((0 + t0) + t1) + t2) + t3) + t4) + t5) + t6) + t7) + t8)), (0, .ref 0), (1, .int 3)]) (st2 := [.int 1, .int 2, .int 6, .ref 0, .int (((((((((0 + t0) + t1) + t2) + t3) + t4) + t5) + t6) + t7) + t8)]) rfl rfl ?_
                    refine hC _ 0 [_, _, _] _ _ _ _ _ (show KX3_entryOf l D ca ad _ _ (some (.int (c 9))) _ from (by rw [hc 9]; exact m_entryOf_6_2_1 (n := 4) (by decide))) rfl rfl (Nat.le_of_ble_eq_true rfl) rfl ?_
                    refine mB hT 1 rfl ?_
                    have J9 : ∀ t9 : Int32, t9 = (if c 9 = 0 then 0 else 1) → G (162, [(3, .int 9), (2, .int (((((((((0 + t0) + t1) + t2) + t3) + t4) + t5) + t6) + t7) + t8)), (0, .ref 0), (1, .int 3)], [.int t9, .int (((((((((0 + t0) + t1) + t2) + t3) + t4) + t5) + t6) + t7) + t8)], (MW 4 (Int32.ofNat vs) wo un h bo ta tr ro ot Bm bk)) := by
                      intro t9 et9
                      refine mB hT 28 rfl ?_
                      refine mNf (lv2 := [(3, .int 10), (2, .int ((((((((((0 + t0) + t1) + t2) + t3) + t4) + t5) + t6) + t7) + t8) + t9)), (0, .ref 0), (1, .int 3)]) (st2 := [.int 2, .int 2, .int 6, .ref 0, .int ((((((((((0 + t0) + t1) + t2) + t3) + t4) + t5) + t6) + t7) + t8) + t9)]) rfl rfl ?_
                      refine hC _ 0 [_, _, _] _ _ _ _ _ (show KX3_entryOf l D ca ad _ _ (some (.int (c 10))) _ from (by rw [hc 10]; exact m_entryOf_6_2_2 (n := 4) (by decide))) rfl rfl (Nat.le_of_ble_eq_true rfl) rfl ?_
                      refine mB hT 1 rfl ?_
                      have J10 : ∀ t10 : Int32, t10 = (if c 10 = 0 then 0 else 1) → G (162, [(3, .int 10), (2, .int ((((((((((0 + t0) + t1) + t2) + t3) + t4) + t5) + t6) + t7) + t8) + t9)), (0, .ref 0), (1, .int 3)], [.int t10, .int ((((((((((0 + t0) + t1) + t2) + t3) + t4) + t5) + t6) + t7) + t8) + t9)], (MW 4 (Int32.ofNat vs) wo un h bo ta tr ro ot Bm bk)) := by
                        intro t10 et10
                        refine mB hT 28 rfl ?_
                        refine mNf (lv2 := [(3, .int 11), (2, .int (((((((((((0 + t0) + t1) + t2) + t3) + t4) + t5) + t6) + t7) + t8) + t9) + t10)), (0, .ref 0), (1, .int 3)]) (st2 := [.int 3, .int 2, .int 6, .ref 0, .int (((((((((((0 + t0) + t1) + t2) + t3) + t4) + t5) + t6) + t7) + t8) + t9) + t10)]) rfl rfl ?_
                        refine hC _ 0 [_, _, _] _ _ _ _ _ (show KX3_entryOf l D ca ad _ _ (some (.int (c 11))) _ from (by rw [hc 11]; exact m_entryOf_6_2_3 (n := 4) (by decide))) rfl rfl (Nat.le_of_ble_eq_true rfl) rfl ?_
                        refine mB hT 1 rfl ?_
                        have J11 : ∀ t11 : Int32, t11 = (if c 11 = 0 then 0 else 1) → G (162, [(3, .int 11), (2, .int (((((((((((0 + t0) + t1) + t2) + t3) + t4) + t5) + t6) + t7) + t8) + t9) + t10)), (0, .ref 0), (1, .int 3)], [.int t11, .int (((((((((((0 + t0) + t1) + t2) + t3) + t4) + t5) + t6) + t7) + t8) + t9) + t10)], (MW 4 (Int32.ofNat vs) wo un h bo ta tr ro ot Bm bk)) := by
                          intro t11 et11
                          refine mB hT 28 rfl ?_
                          refine mNf (lv2 := [(3, .int 12), (2, .int ((((((((((((0 + t0) + t1) + t2) + t3) + t4) + t5) + t6) + t7) + t8) + t9) + t10) + t11)), (0, .ref 0), (1, .int 3)]) (st2 := [.int 0, .int 3, .int 6, .ref 0, .int ((((((((((((0 + t0) + t1) + t2) + t3) + t4) + t5) + t6) + t7) + t8) + t9) + t10) + t11)]) rfl rfl ?_
                          refine hC _ 0 [_, _, _] _ _ _ _ _ (show KX3_entryOf l D ca ad _ _ (some (.int (c 12))) _ from (by rw [hc 12]; exact m_entryOf_6_3_0 (n := 4) (by decide))) rfl rfl (Nat.le_of_ble_eq_true rfl) rfl ?_
                          refine mB hT 1 rfl ?_
                          have J12 : ∀ t12 : Int32, t12 = (if c 12 = 0 then 0 else 1) → G (162, [(3, .int 12), (2, .int ((((((((((((0 + t0) + t1) + t2) + t3) + t4) + t5) + t6) + t7) + t8) + t9) + t10) + t11)), (0, .ref 0), (1, .int 3)], [.int t12, .int ((((((((((((0 + t0) + t1) + t2) + t3) + t4) + t5) + t6) + t7) + t8) + t9) + t10) + t11)], (MW 4 (Int32.ofNat vs) wo un h bo ta tr ro ot Bm bk)) := by
                            intro t12 et12
                            refine mB hT 28 rfl ?_
                            refine mNf (lv2 := [(3, .int 13), (2, .int (((((((((((((0 + t0) + t1) + t2) + t3) + t4) + t5) + t6) + t7) + t8) + t9) + t10) + t11) + t12)), (0, .ref 0), (1, .int 3)]) (st2 := [.int 1, .int 3, .int 6, .ref 0, .int (((((((((((((0 + t0) + t1) + t2) + t3) + t4) + t5) + t6) + t7) + t8) + t9) + t10) + t11) + t12)]) rfl rfl ?_
                            refine hC _ 0 [_, _, _] _ _ _ _ _ (show KX3_entryOf l D ca ad _ _ (some (.int (c 13))) _ from (by rw [hc 13]; exact m_entryOf_6_3_1 (n := 4) (by decide))) rfl rfl (Nat.le_of_ble_eq_true rfl) rfl ?_
                            refine mB hT 1 rfl ?_
                            have J13 : ∀ t13 : Int32, t13 = (if c 13 = 0 then 0 else 1) → G (162, [(3, .int 13), (2, .int (((((((((((((0 + t0) + t1) + t2) + t3) + t4) + t5) + t6) + t7) + t8) + t9) + t10) + t11) + t12)), (0, .ref 0), (1, .int 3)], [.int t13, .int (((((((((((((0 + t0) + t1) + t2) + t3) + t4) + t5) + t6) + t7) + t8) + t9) + t10) + t11) + t12)], (MW 4 (Int32.ofNat vs) wo un h bo ta tr ro ot Bm bk)) := by
                              intro t13 et13
                              refine mB hT 28 rfl ?_
                              refine mNf (lv2 := [(3, .int 14), (2, .int ((((((((((((((0 + t0) + t1) + t2) + t3) + t4) + t5) + t6) + t7) + t8) + t9) + t10) + t11) + t12) + t13)), (0, .ref 0), (1, .int 3)]) (st2 := [.int 2, .int 3, .int 6, .ref 0, .int ((((((((((((((0 + t0) + t1) + t2) + t3) + t4) + t5) + t6) + t7) + t8) + t9) + t10) + t11) + t12) + t13)]) rfl rfl ?_
                              refine hC _ 0 [_, _, _] _ _ _ _ _ (show KX3_entryOf l D ca ad _ _ (some (.int (c 14))) _ from (by rw [hc 14]; exact m_entryOf_6_3_2 (n := 4) (by decide))) rfl rfl (Nat.le_of_ble_eq_true rfl) rfl ?_
                              refine mB hT 1 rfl ?_
                              have J14 : ∀ t14 : Int32, t14 = (if c 14 = 0 then 0 else 1) → G (162, [(3, .int 14), (2, .int ((((((((((((((0 + t0) + t1) + t2) + t3) + t4) + t5) + t6) + t7) + t8) + t9) + t10) + t11) + t12) + t13)), (0, .ref 0), (1, .int 3)], [.int t14, .int ((((((((((((((0 + t0) + t1) + t2) + t3) + t4) + t5) + t6) + t7) + t8) + t9) + t10) + t11) + t12) + t13)], (MW 4 (Int32.ofNat vs) wo un h bo ta tr ro ot Bm bk)) := by
                                intro t14 et14
                                refine mB hT 28 rfl ?_
                                refine mNf (lv2 := [(3, .int 15), (2, .int (((((((((((((((0 + t0) + t1) + t2) + t3) + t4) + t5) + t6) + t7) + t8) + t9) + t10) + t11) + t12) + t13) + t14)), (0, .ref 0), (1, .int 3)]) (st2 := [.int 3, .int 3, .int 6, .ref 0, .int (((((((((((((((0 + t0) + t1) + t2) + t3) + t4) + t5) + t6) + t7) + t8) + t9) + t10) + t11) + t12) + t13) + t14)]) rfl rfl ?_
                                refine hC _ 0 [_, _, _] _ _ _ _ _ (show KX3_entryOf l D ca ad _ _ (some (.int (c 15))) _ from (by rw [hc 15]; exact m_entryOf_6_3_3 (n := 4) (by decide))) rfl rfl (Nat.le_of_ble_eq_true rfl) rfl ?_
                                refine mB hT 1 rfl ?_
                                have J15 : ∀ t15 : Int32, t15 = (if c 15 = 0 then 0 else 1) → G (162, [(3, .int 15), (2, .int (((((((((((((((0 + t0) + t1) + t2) + t3) + t4) + t5) + t6) + t7) + t8) + t9) + t10) + t11) + t12) + t13) + t14)), (0, .ref 0), (1, .int 3)], [.int t15, .int (((((((((((((((0 + t0) + t1) + t2) + t3) + t4) + t5) + t6) + t7) + t8) + t9) + t10) + t11) + t12) + t13) + t14)], (MW 4 (Int32.ofNat vs) wo un h bo ta tr ro ot Bm bk)) := by
                                  intro t15 et15
                                  refine mB hT 8 rfl ?_
                                  exact hR _ (by decide) _ _ _ (by subst et0 et1 et2 et3 et4 et5 et6 et7 et8 et9 et10 et11 et12 et13 et14 et15; rfl) rfl
                                refine mIf (fun h => ?_) (fun h => ?_)
                                · refine mB hT 1 rfl ?_
                                  exact J15 0 (if_pos h).symm
                                · refine mB hT 2 rfl ?_
                                  exact J15 1 (if_neg h).symm
                              refine mIf (fun h => ?_) (fun h => ?_)
                              · refine mB hT 1 rfl ?_
                                exact J14 0 (if_pos h).symm
                              · refine mB hT 2 rfl ?_
                                exact J14 1 (if_neg h).symm
                            refine mIf (fun h => ?_) (fun h => ?_)
                            · refine mB hT 1 rfl ?_
                              exact J13 0 (if_pos h).symm
                            · refine mB hT 2 rfl ?_
                              exact J13 1 (if_neg h).symm
                          refine mIf (fun h => ?_) (fun h => ?_)
                          · refine mB hT 1 rfl ?_
                            exact J12 0 (if_pos h).symm
                          · refine mB hT 2 rfl ?_
                            exact J12 1 (if_neg h).symm
                        refine mIf (fun h => ?_) (fun h => ?_)
                        · refine mB hT 1 rfl ?_
                          exact J11 0 (if_pos h).symm
                        · refine mB hT 2 rfl ?_
                          exact J11 1 (if_neg h).symm
                      refine mIf (fun h => ?_) (fun h => ?_)
                      · refine mB hT 1 rfl ?_
                        exact J10 0 (if_pos h).symm
                      · refine mB hT 2 rfl ?_
                        exact J10 1 (if_neg h).symm
                    refine mIf (fun h => ?_) (fun h => ?_)
                    · refine mB hT 1 rfl ?_
                      exact J9 0 (if_pos h).symm
                    · refine mB hT 2 rfl ?_
                      exact J9 1 (if_neg h).symm
                  refine mIf (fun h => ?_) (fun h => ?_)
                  · refine mB hT 1 rfl ?_
                    exact J8 0 (if_pos h).symm
                  · refine mB hT 2 rfl ?_
                    exact J8 1 (if_neg h).symm
                refine mIf (fun h => ?_) (fun h => ?_)
                · refine mB hT 1 rfl ?_
                  exact J7 0 (if_pos h).symm
                · refine mB hT 2 rfl ?_
                  exact J7 1 (if_neg h).symm
              refine mIf (fun h => ?_) (fun h => ?_)
              · refine mB hT 1 rfl ?_
                exact J6 0 (if_pos h).symm
              · refine mB hT 2 rfl ?_
                exact J6 1 (if_neg h).symm
            refine mIf (fun h => ?_) (fun h => ?_)
            · refine mB hT 1 rfl ?_
              exact J5 0 (if_pos h).symm
            · refine mB hT 2 rfl ?_
              exact J5 1 (if_neg h).symm
          refine mIf (fun h => ?_) (fun h => ?_)
          · refine mB hT 1 rfl ?_
            exact J4 0 (if_pos h).symm
          · refine mB hT 2 rfl ?_
            exact J4 1 (if_neg h).symm
        refine mIf (fun h => ?_) (fun h => ?_)
        · refine mB hT 1 rfl ?_
          exact J3 0 (if_pos h).symm
        · refine mB hT 2 rfl ?_
          exact J3 1 (if_neg h).symm
      refine mIf (fun h => ?_) (fun h => ?_)
      · refine mB hT 1 rfl ?_
        exact J2 0 (if_pos h).symm
      · refine mB hT 2 rfl ?_
        exact J2 1 (if_neg h).symm
    refine mIf (fun h => ?_) (fun h => ?_)
    · refine mB hT 1 rfl ?_
      exact J1 0 (if_pos h).symm
    · refine mB hT 2 rfl ?_
      exact J1 1 (if_neg h).symm
  refine mIf (fun h => ?_) (fun h => ?_)
  · refine mB hT 1 rfl ?_
    exact J0 0 (if_pos h).symm
  · refine mB hT 2 rfl ?_
    exact J0 1 (if_neg h).symm
end
