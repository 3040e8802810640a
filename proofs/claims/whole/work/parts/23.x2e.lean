theorem sw_out {q : Int32} (hq : ¬ (0 ≤ q ∧ q < 4)) : q.toInt < 0 ∨ 3 < q.toInt := by
  rw [Int32.le_iff_toInt_le, Int32.lt_iff_toInt_lt] at hq
  have hq : ¬ (0 ≤ q.toInt ∧ q.toInt < 4) := hq
  omega

def dgS (h : Int64) (L : List Int64) : Int64 := L.foldl (fun h v => 31 * h + v) h
def ceX : List Int32 → Int32 → Int32
  | [], f => f
  | c :: L, f => ceX L (if c = 0 then f else f + 1)

section
variable {l : Launch} {D : va_G} {ca : Nat → ClassId} {ad : Nat → Nat}

set_option maxRecDepth 20000 in
theorem x_sure_B_0_0 {n vs : Nat} {be de : Int64} {sz : Int32} {ro co mi : Nat → Int64} {T : Nat → Nat → Int64} {B : Nat → Nat → Nat → Int32} {hd : Nat → Nat → Int32} {df : Nat → Int32} (hn : n ≤ 4) {k : Nat} (hk : k < 3) (h0 : detX n (lyT n (B 6) T) = 0) : ∃ (be2 de2 : Int64) (sz2 : Int32) (ro2 co2 mi2 : Nat → Int64) (T2 : Nat → Nat → Int64), KX2_sure l D ca ad [.ref 0, .int 0, .int 0, .int (Int32.ofNat k)] (XW (Int32.ofNat n) (Int32.ofNat vs) be de sz ro co mi T B hd df) (some (.int (-104))) (XW (Int32.ofNat n) (Int32.ofNat vs) be2 de2 sz2 ro2 co2 mi2 T2 B hd (fun j => hd 0 j - hd 0 j)) := by
  obtain ⟨dd, hd0⟩ : ∃ z : Nat → Int32, z = fun j => hd 0 j - hd 0 j := ⟨_, rfl⟩
  have hdd : ∀ j : Nat, dd j = hd 0 j - hd 0 j := fun j => by rw [hd0]
  obtain ⟨de2, mi2, T2, hk2⟩ := c_solve0_d (l := l) (D := D) (ca := ca) (ad := ad) (vs := vs) (be := be) (de := de) (sz := sz) (ro := ro) (co := co) (mi := mi) (hd := hd) (df := dd) hn h0
  rw [← hd0]
  refine ⟨be, de2, (Int32.ofNat n), ro, co, mi2, T2, ?_⟩
  refine PX2_sure (Nat.le_of_ble_eq_true rfl) ?_
  intro G hT hC hR
  refine mB hT 1 rfl ?_
  refine hC.1 _ [_] _ _ _ _ (c_isBasket_t (i := 0) (by decide)) rfl (Nat.le_of_ble_eq_true rfl) rfl ?_
  refine mB hT 2 rfl ?_
  refine hC.2.1 _ [_] _ _ _ _ (c_isBasket_t (i := 0) (by decide)) rfl (Nat.le_of_ble_eq_true rfl) rfl ?_
  refine mB hT 2 rfl ?_
  refine hC.2.2.1 _ [_] _ _ _ _ (c_isStuff_t hk) rfl (Nat.le_of_ble_eq_true rfl) rfl ?_
  refine mB hT 22 rfl ?_
  refine mNf (lv2 := [(4, .int 0), (0, .ref 0), (1, .int 0), (2, .int 0), (3, .int (Int32.ofNat k))]) (st2 := [.int (dd 0), .int 0, .ref 27]) rfl (by rw [hdd 0] <;> rfl) ?_
  refine mB hT 22 rfl ?_
  refine mNf (lv2 := [(4, .int 1), (0, .ref 0), (1, .int 0), (2, .int 0), (3, .int (Int32.ofNat k))]) (st2 := [.int (dd 1), .int 1, .ref 27]) rfl (by rw [hdd 1] <;> rfl) ?_
  refine mB hT 22 rfl ?_
  refine mNf (lv2 := [(4, .int 2), (0, .ref 0), (1, .int 0), (2, .int 0), (3, .int (Int32.ofNat k))]) (st2 := [.int (dd 2), .int 2, .ref 27]) rfl (by rw [hdd 2] <;> rfl) ?_
  refine mB hT 22 rfl ?_
  refine mNf (lv2 := [(4, .int 3), (0, .ref 0), (1, .int 0), (2, .int 0), (3, .int (Int32.ofNat k))]) (st2 := [.int (dd 3), .int 3, .ref 27]) rfl (by rw [hdd 3] <;> rfl) ?_
  refine mB hT 14 rfl ?_
  refine mWd (w2 := (XW (Int32.ofNat n) (Int32.ofNat vs) be de sz ro co mi T B hd (up (up (up (up df 0 (dd 0)) 1 (dd 1)) 2 (dd 2)) 3 (dd 3)))) rfl ?_
  refine mWd (w2 := (XW (Int32.ofNat n) (Int32.ofNat vs) be de sz ro co mi T B hd dd)) rfl ?_
  refine hC.2.2.2.1 _ 1 [_, _, _] _ _ _ _ _ (hk2) rfl rfl (Nat.le_of_ble_eq_true rfl) rfl ?_
  refine mB hT 2 rfl ?_
  exact hR _ (by decide) _ _ _ rfl rfl
set_option maxRecDepth 20000 in
theorem x_sure_0_0 {n vs : Nat} {be de : Int64} {sz : Int32} {ro co mi : Nat → Int64} {T : Nat → Nat → Int64} {B : Nat → Nat → Nat → Int32} {hd : Nat → Nat → Int32} {df : Nat → Int32} (hn : n ≤ 4) {k : Nat} (hk : k < 3) (h0 : ¬ detX n (lyT n (B 6) T) = 0) : ∃ (be2 de2 : Int64) (sz2 : Int32) (ro2 co2 mi2 : Nat → Int64) (T2 : Nat → Nat → Int64), KX2_sure l D ca ad [.ref 0, .int 0, .int 0, .int (Int32.ofNat k)] (XW (Int32.ofNat n) (Int32.ofNat vs) be de sz ro co mi T B hd df) (some (.int (if 0 < smX n (B 6) (roX n (lyT n (B 6) T) (fun j => hd 0 j - hd 0 j) ro) k 2 then 0 else 1))) (XW (Int32.ofNat n) (Int32.ofNat vs) be2 de2 sz2 ro2 co2 mi2 T2 B hd (fun j => hd 0 j - hd 0 j)) := by
  obtain ⟨dd, hd0⟩ : ∃ z : Nat → Int32, z = fun j => hd 0 j - hd 0 j := ⟨_, rfl⟩
  have hdd : ∀ j : Nat, dd j = hd 0 j - hd 0 j := fun j => by rw [hd0]
  obtain ⟨de2, co2, mi2, T2, hk2⟩ := c_solve1_d (l := l) (D := D) (ca := ca) (ad := ad) (vs := vs) (be := be) (de := de) (sz := sz) (ro := ro) (co := co) (mi := mi) (hd := hd) (df := dd) hn h0
  obtain ⟨r1, er1⟩ : ∃ z, z = roX n (lyT n (B 6) T) dd ro := ⟨_, rfl⟩
  rw [← er1] at hk2
  rw [← hd0, ← er1]
  refine ⟨absX (detX n (lyT n (B 6) T)), de2, (Int32.ofNat n), r1, co2, mi2, T2, ?_⟩
  refine PX2_sure (Nat.le_of_ble_eq_true rfl) ?_
  intro G hT hC hR
  refine mB hT 1 rfl ?_
  refine hC.1 _ [_] _ _ _ _ (c_isBasket_t (i := 0) (by decide)) rfl (Nat.le_of_ble_eq_true rfl) rfl ?_
  refine mB hT 2 rfl ?_
  refine hC.2.1 _ [_] _ _ _ _ (c_isBasket_t (i := 0) (by decide)) rfl (Nat.le_of_ble_eq_true rfl) rfl ?_
  refine mB hT 2 rfl ?_
  refine hC.2.2.1 _ [_] _ _ _ _ (c_isStuff_t hk) rfl (Nat.le_of_ble_eq_true rfl) rfl ?_
  refine mB hT 22 rfl ?_
  refine mNf (lv2 := [(4, .int 0), (0, .ref 0), (1, .int 0), (2, .int 0), (3, .int (Int32.ofNat k))]) (st2 := [.int (dd 0), .int 0, .ref 27]) rfl (by rw [hdd 0] <;> rfl) ?_
  refine mB hT 22 rfl ?_
  refine mNf (lv2 := [(4, .int 1), (0, .ref 0), (1, .int 0), (2, .int 0), (3, .int (Int32.ofNat k))]) (st2 := [.int (dd 1), .int 1, .ref 27]) rfl (by rw [hdd 1] <;> rfl) ?_
  refine mB hT 22 rfl ?_
  refine mNf (lv2 := [(4, .int 2), (0, .ref 0), (1, .int 0), (2, .int 0), (3, .int (Int32.ofNat k))]) (st2 := [.int (dd 2), .int 2, .ref 27]) rfl (by rw [hdd 2] <;> rfl) ?_
  refine mB hT 22 rfl ?_
  refine mNf (lv2 := [(4, .int 3), (0, .ref 0), (1, .int 0), (2, .int 0), (3, .int (Int32.ofNat k))]) (st2 := [.int (dd 3), .int 3, .ref 27]) rfl (by rw [hdd 3] <;> rfl) ?_
  refine mB hT 14 rfl ?_
  refine mWd (w2 := (XW (Int32.ofNat n) (Int32.ofNat vs) be de sz ro co mi T B hd (up (up (up (up df 0 (dd 0)) 1 (dd 1)) 2 (dd 2)) 3 (dd 3)))) rfl ?_
  refine mWd (w2 := (XW (Int32.ofNat n) (Int32.ofNat vs) be de sz ro co mi T B hd dd)) rfl ?_
  refine hC.2.2.2.1 _ 1 [_, _, _] _ _ _ _ _ (hk2) rfl rfl (Nat.le_of_ble_eq_true rfl) rfl ?_
  refine mB hT 7 rfl ?_
  refine hC.2.2.2.2 _ 1 [_, _, _] _ _ _ _ _ (c_sum_6 hn k 2 hk (by decide)) rfl rfl (Nat.le_of_ble_eq_true rfl) rfl ?_
  refine mB hT 3 rfl ?_
  refine mIf (fun h1 => ?_) (fun h1 => ?_)
  · refine mB hT 1 rfl ?_
    exact hR _ (by decide) _ _ _ (congrArg (fun z => [Value.int z]) (if_pos (lc_gt.mp h1)).symm) rfl
  · refine mB hT 2 rfl ?_
    exact hR _ (by decide) _ _ _ (congrArg (fun z => [Value.int z]) (if_neg (fun q => h1 (lc_gt.mpr q))).symm) rfl
set_option maxRecDepth 20000 in
theorem x_sure_B_0_1 {n vs : Nat} {be de : Int64} {sz : Int32} {ro co mi : Nat → Int64} {T : Nat → Nat → Int64} {B : Nat → Nat → Nat → Int32} {hd : Nat → Nat → Int32} {df : Nat → Int32} (hn : n ≤ 4) {k : Nat} (hk : k < 3) (h0 : detX n (lyT n (B 6) T) = 0) : ∃ (be2 de2 : Int64) (sz2 : Int32) (ro2 co2 mi2 : Nat → Int64) (T2 : Nat → Nat → Int64), KX2_sure l D ca ad [.ref 0, .int 0, .int 1, .int (Int32.ofNat k)] (XW (Int32.ofNat n) (Int32.ofNat vs) be de sz ro co mi T B hd df) (some (.int (-104))) (XW (Int32.ofNat n) (Int32.ofNat vs) be2 de2 sz2 ro2 co2 mi2 T2 B hd (fun j => hd 0 j - hd 1 j)) := by
  obtain ⟨dd, hd0⟩ : ∃ z : Nat → Int32, z = fun j => hd 0 j - hd 1 j := ⟨_, rfl⟩
  have hdd : ∀ j : Nat, dd j = hd 0 j - hd 1 j := fun j => by rw [hd0]
  obtain ⟨de2, mi2, T2, hk2⟩ := c_solve0_d (l := l) (D := D) (ca := ca) (ad := ad) (vs := vs) (be := be) (de := de) (sz := sz) (ro := ro) (co := co) (mi := mi) (hd := hd) (df := dd) hn h0
  rw [← hd0]
  refine ⟨be, de2, (Int32.ofNat n), ro, co, mi2, T2, ?_⟩
  refine PX2_sure (Nat.le_of_ble_eq_true rfl) ?_
  intro G hT hC hR
  refine mB hT 1 rfl ?_
  refine hC.1 _ [_] _ _ _ _ (c_isBasket_t (i := 0) (by decide)) rfl (Nat.le_of_ble_eq_true rfl) rfl ?_
  refine mB hT 2 rfl ?_
  refine hC.2.1 _ [_] _ _ _ _ (c_isBasket_t (i := 1) (by decide)) rfl (Nat.le_of_ble_eq_true rfl) rfl ?_
  refine mB hT 2 rfl ?_
  refine hC.2.2.1 _ [_] _ _ _ _ (c_isStuff_t hk) rfl (Nat.le_of_ble_eq_true rfl) rfl ?_
  refine mB hT 22 rfl ?_
  refine mNf (lv2 := [(4, .int 0), (0, .ref 0), (1, .int 0), (2, .int 1), (3, .int (Int32.ofNat k))]) (st2 := [.int (dd 0), .int 0, .ref 27]) rfl (by rw [hdd 0] <;> rfl) ?_
  refine mB hT 22 rfl ?_
  refine mNf (lv2 := [(4, .int 1), (0, .ref 0), (1, .int 0), (2, .int 1), (3, .int (Int32.ofNat k))]) (st2 := [.int (dd 1), .int 1, .ref 27]) rfl (by rw [hdd 1] <;> rfl) ?_
  refine mB hT 22 rfl ?_
  refine mNf (lv2 := [(4, .int 2), (0, .ref 0), (1, .int 0), (2, .int 1), (3, .int (Int32.ofNat k))]) (st2 := [.int (dd 2), .int 2, .ref 27]) rfl (by rw [hdd 2] <;> rfl) ?_
  refine mB hT 22 rfl ?_
  refine mNf (lv2 := [(4, .int 3), (0, .ref 0), (1, .int 0), (2, .int 1), (3, .int (Int32.ofNat k))]) (st2 := [.int (dd 3), .int 3, .ref 27]) rfl (by rw [hdd 3] <;> rfl) ?_
  refine mB hT 14 rfl ?_
  refine mWd (w2 := (XW (Int32.ofNat n) (Int32.ofNat vs) be de sz ro co mi T B hd (up (up (up (up df 0 (dd 0)) 1 (dd 1)) 2 (dd 2)) 3 (dd 3)))) rfl ?_
  refine mWd (w2 := (XW (Int32.ofNat n) (Int32.ofNat vs) be de sz ro co mi T B hd dd)) rfl ?_
  refine hC.2.2.2.1 _ 1 [_, _, _] _ _ _ _ _ (hk2) rfl rfl (Nat.le_of_ble_eq_true rfl) rfl ?_
  refine mB hT 2 rfl ?_
  exact hR _ (by decide) _ _ _ rfl rfl
set_option maxRecDepth 20000 in
theorem x_sure_0_1 {n vs : Nat} {be de : Int64} {sz : Int32} {ro co mi : Nat → Int64} {T : Nat → Nat → Int64} {B : Nat → Nat → Nat → Int32} {hd : Nat → Nat → Int32} {df : Nat → Int32} (hn : n ≤ 4) {k : Nat} (hk : k < 3) (h0 : ¬ detX n (lyT n (B 6) T) = 0) : ∃ (be2 de2 : Int64) (sz2 : Int32) (ro2 co2 mi2 : Nat → Int64) (T2 : Nat → Nat → Int64), KX2_sure l D ca ad [.ref 0, .int 0, .int 1, .int (Int32.ofNat k)] (XW (Int32.ofNat n) (Int32.ofNat vs) be de sz ro co mi T B hd df) (some (.int (if 0 < smX n (B 6) (roX n (lyT n (B 6) T) (fun j => hd 0 j - hd 1 j) ro) k 2 then 0 else 1))) (XW (Int32.ofNat n) (Int32.ofNat vs) be2 de2 sz2 ro2 co2 mi2 T2 B hd (fun j => hd 0 j - hd 1 j)) := by
  obtain ⟨dd, hd0⟩ : ∃ z : Nat → Int32, z = fun j => hd 0 j - hd 1 j := ⟨_, rfl⟩
  have hdd : ∀ j : Nat, dd j = hd 0 j - hd 1 j := fun j => by rw [hd0]
  obtain ⟨de2, co2, mi2, T2, hk2⟩ := c_solve1_d (l := l) (D := D) (ca := ca) (ad := ad) (vs := vs) (be := be) (de := de) (sz := sz) (ro := ro) (co := co) (mi := mi) (hd := hd) (df := dd) hn h0
  obtain ⟨r1, er1⟩ : ∃ z, z = roX n (lyT n (B 6) T) dd ro := ⟨_, rfl⟩
  rw [← er1] at hk2
  rw [← hd0, ← er1]
  refine ⟨absX (detX n (lyT n (B 6) T)), de2, (Int32.ofNat n), r1, co2, mi2, T2, ?_⟩
  refine PX2_sure (Nat.le_of_ble_eq_true rfl) ?_
  intro G hT hC hR
  refine mB hT 1 rfl ?_
  refine hC.1 _ [_] _ _ _ _ (c_isBasket_t (i := 0) (by decide)) rfl (Nat.le_of_ble_eq_true rfl) rfl ?_
  refine mB hT 2 rfl ?_
  refine hC.2.1 _ [_] _ _ _ _ (c_isBasket_t (i := 1) (by decide)) rfl (Nat.le_of_ble_eq_true rfl) rfl ?_
  refine mB hT 2 rfl ?_
  refine hC.2.2.1 _ [_] _ _ _ _ (c_isStuff_t hk) rfl (Nat.le_of_ble_eq_true rfl) rfl ?_
  refine mB hT 22 rfl ?_
  refine mNf (lv2 := [(4, .int 0), (0, .ref 0), (1, .int 0), (2, .int 1), (3, .int (Int32.ofNat k))]) (st2 := [.int (dd 0), .int 0, .ref 27]) rfl (by rw [hdd 0] <;> rfl) ?_
  refine mB hT 22 rfl ?_
  refine mNf (lv2 := [(4, .int 1), (0, .ref 0), (1, .int 0), (2, .int 1), (3, .int (Int32.ofNat k))]) (st2 := [.int (dd 1), .int 1, .ref 27]) rfl (by rw [hdd 1] <;> rfl) ?_
  refine mB hT 22 rfl ?_
  refine mNf (lv2 := [(4, .int 2), (0, .ref 0), (1, .int 0), (2, .int 1), (3, .int (Int32.ofNat k))]) (st2 := [.int (dd 2), .int 2, .ref 27]) rfl (by rw [hdd 2] <;> rfl) ?_
  refine mB hT 22 rfl ?_
  refine mNf (lv2 := [(4, .int 3), (0, .ref 0), (1, .int 0), (2, .int 1), (3, .int (Int32.ofNat k))]) (st2 := [.int (dd 3), .int 3, .ref 27]) rfl (by rw [hdd 3] <;> rfl) ?_
  refine mB hT 14 rfl ?_
  refine mWd (w2 := (XW (Int32.ofNat n) (Int32.ofNat vs) be de sz ro co mi T B hd (up (up (up (up df 0 (dd 0)) 1 (dd 1)) 2 (dd 2)) 3 (dd 3)))) rfl ?_
  refine mWd (w2 := (XW (Int32.ofNat n) (Int32.ofNat vs) be de sz ro co mi T B hd dd)) rfl ?_
  refine hC.2.2.2.1 _ 1 [_, _, _] _ _ _ _ _ (hk2) rfl rfl (Nat.le_of_ble_eq_true rfl) rfl ?_
  refine mB hT 7 rfl ?_
  refine hC.2.2.2.2 _ 1 [_, _, _] _ _ _ _ _ (c_sum_6 hn k 2 hk (by decide)) rfl rfl (Nat.le_of_ble_eq_true rfl) rfl ?_
  refine mB hT 3 rfl ?_
  refine mIf (fun h1 => ?_) (fun h1 => ?_)
  · refine mB hT 1 rfl ?_
    exact hR _ (by decide) _ _ _ (congrArg (fun z => [Value.int z]) (if_pos (lc_gt.mp h1)).symm) rfl
  · refine mB hT 2 rfl ?_
    exact hR _ (by decide) _ _ _ (congrArg (fun z => [Value.int z]) (if_neg (fun q => h1 (lc_gt.mpr q))).symm) rfl
set_option maxRecDepth 20000 in
theorem x_sure_B_0_2 {n vs : Nat} {be de : Int64} {sz : Int32} {ro co mi : Nat → Int64} {T : Nat → Nat → Int64} {B : Nat → Nat → Nat → Int32} {hd : Nat → Nat → Int32} {df : Nat → Int32} (hn : n ≤ 4) {k : Nat} (hk : k < 3) (h0 : detX n (lyT n (B 6) T) = 0) : ∃ (be2 de2 : Int64) (sz2 : Int32) (ro2 co2 mi2 : Nat → Int64) (T2 : Nat → Nat → Int64), KX2_sure l D ca ad [.ref 0, .int 0, .int 2, .int (Int32.ofNat k)] (XW (Int32.ofNat n) (Int32.ofNat vs) be de sz ro co mi T B hd df) (some (.int (-104))) (XW (Int32.ofNat n) (Int32.ofNat vs) be2 de2 sz2 ro2 co2 mi2 T2 B hd (fun j => hd 0 j - hd 2 j)) := by
  obtain ⟨dd, hd0⟩ : ∃ z : Nat → Int32, z = fun j => hd 0 j - hd 2 j := ⟨_, rfl⟩
  have hdd : ∀ j : Nat, dd j = hd 0 j - hd 2 j := fun j => by rw [hd0]
  obtain ⟨de2, mi2, T2, hk2⟩ := c_solve0_d (l := l) (D := D) (ca := ca) (ad := ad) (vs := vs) (be := be) (de := de) (sz := sz) (ro := ro) (co := co) (mi := mi) (hd := hd) (df := dd) hn h0
  rw [← hd0]
  refine ⟨be, de2, (Int32.ofNat n), ro, co, mi2, T2, ?_⟩
  refine PX2_sure (Nat.le_of_ble_eq_true rfl) ?_
  intro G hT hC hR
  refine mB hT 1 rfl ?_
  refine hC.1 _ [_] _ _ _ _ (c_isBasket_t (i := 0) (by decide)) rfl (Nat.le_of_ble_eq_true rfl) rfl ?_
  refine mB hT 2 rfl ?_
  refine hC.2.1 _ [_] _ _ _ _ (c_isBasket_t (i := 2) (by decide)) rfl (Nat.le_of_ble_eq_true rfl) rfl ?_
  refine mB hT 2 rfl ?_
  refine hC.2.2.1 _ [_] _ _ _ _ (c_isStuff_t hk) rfl (Nat.le_of_ble_eq_true rfl) rfl ?_
  refine mB hT 22 rfl ?_
  refine mNf (lv2 := [(4, .int 0), (0, .ref 0), (1, .int 0), (2, .int 2), (3, .int (Int32.ofNat k))]) (st2 := [.int (dd 0), .int 0, .ref 27]) rfl (by rw [hdd 0] <;> rfl) ?_
  refine mB hT 22 rfl ?_
  refine mNf (lv2 := [(4, .int 1), (0, .ref 0), (1, .int 0), (2, .int 2), (3, .int (Int32.ofNat k))]) (st2 := [.int (dd 1), .int 1, .ref 27]) rfl (by rw [hdd 1] <;> rfl) ?_
  refine mB hT 22 rfl ?_
  refine mNf (lv2 := [(4, .int 2), (0, .ref 0), (1, .int 0), (2, .int 2), (3, .int (Int32.ofNat k))]) (st2 := [.int (dd 2), .int 2, .ref 27]) rfl (by rw [hdd 2] <;> rfl) ?_
  refine mB hT 22 rfl ?_
  refine mNf (lv2 := [(4, .int 3), (0, .ref 0), (1, .int 0), (2, .int 2), (3, .int (Int32.ofNat k))]) (st2 := [.int (dd 3), .int 3, .ref 27]) rfl (by rw [hdd 3] <;> rfl) ?_
  refine mB hT 14 rfl ?_
  refine mWd (w2 := (XW (Int32.ofNat n) (Int32.ofNat vs) be de sz ro co mi T B hd (up (up (up (up df 0 (dd 0)) 1 (dd 1)) 2 (dd 2)) 3 (dd 3)))) rfl ?_
  refine mWd (w2 := (XW (Int32.ofNat n) (Int32.ofNat vs) be de sz ro co mi T B hd dd)) rfl ?_
  refine hC.2.2.2.1 _ 1 [_, _, _] _ _ _ _ _ (hk2) rfl rfl (Nat.le_of_ble_eq_true rfl) rfl ?_
  refine mB hT 2 rfl ?_
  exact hR _ (by decide) _ _ _ rfl rfl
set_option maxRecDepth 20000 in
theorem x_sure_0_2 {n vs : Nat} {be de : Int64} {sz : Int32} {ro co mi : Nat → Int64} {T : Nat → Nat → Int64} {B : Nat → Nat → Nat → Int32} {hd : Nat → Nat → Int32} {df : Nat → Int32} (hn : n ≤ 4) {k : Nat} (hk : k < 3) (h0 : ¬ detX n (lyT n (B 6) T) = 0) : ∃ (be2 de2 : Int64) (sz2 : Int32) (ro2 co2 mi2 : Nat → Int64) (T2 : Nat → Nat → Int64), KX2_sure l D ca ad [.ref 0, .int 0, .int 2, .int (Int32.ofNat k)] (XW (Int32.ofNat n) (Int32.ofNat vs) be de sz ro co mi T B hd df) (some (.int (if 0 < smX n (B 6) (roX n (lyT n (B 6) T) (fun j => hd 0 j - hd 2 j) ro) k 2 then 0 else 1))) (XW (Int32.ofNat n) (Int32.ofNat vs) be2 de2 sz2 ro2 co2 mi2 T2 B hd (fun j => hd 0 j - hd 2 j)) := by
  obtain ⟨dd, hd0⟩ : ∃ z : Nat → Int32, z = fun j => hd 0 j - hd 2 j := ⟨_, rfl⟩
  have hdd : ∀ j : Nat, dd j = hd 0 j - hd 2 j := fun j => by rw [hd0]
  obtain ⟨de2, co2, mi2, T2, hk2⟩ := c_solve1_d (l := l) (D := D) (ca := ca) (ad := ad) (vs := vs) (be := be) (de := de) (sz := sz) (ro := ro) (co := co) (mi := mi) (hd := hd) (df := dd) hn h0
  obtain ⟨r1, er1⟩ : ∃ z, z = roX n (lyT n (B 6) T) dd ro := ⟨_, rfl⟩
  rw [← er1] at hk2
  rw [← hd0, ← er1]
  refine ⟨absX (detX n (lyT n (B 6) T)), de2, (Int32.ofNat n), r1, co2, mi2, T2, ?_⟩
  refine PX2_sure (Nat.le_of_ble_eq_true rfl) ?_
  intro G hT hC hR
  refine mB hT 1 rfl ?_
  refine hC.1 _ [_] _ _ _ _ (c_isBasket_t (i := 0) (by decide)) rfl (Nat.le_of_ble_eq_true rfl) rfl ?_
  refine mB hT 2 rfl ?_
  refine hC.2.1 _ [_] _ _ _ _ (c_isBasket_t (i := 2) (by decide)) rfl (Nat.le_of_ble_eq_true rfl) rfl ?_
  refine mB hT 2 rfl ?_
  refine hC.2.2.1 _ [_] _ _ _ _ (c_isStuff_t hk) rfl (Nat.le_of_ble_eq_true rfl) rfl ?_
  refine mB hT 22 rfl ?_
  refine mNf (lv2 := [(4, .int 0), (0, .ref 0), (1, .int 0), (2, .int 2), (3, .int (Int32.ofNat k))]) (st2 := [.int (dd 0), .int 0, .ref 27]) rfl (by rw [hdd 0] <;> rfl) ?_
  refine mB hT 22 rfl ?_
  refine mNf (lv2 := [(4, .int 1), (0, .ref 0), (1, .int 0), (2, .int 2), (3, .int (Int32.ofNat k))]) (st2 := [.int (dd 1), .int 1, .ref 27]) rfl (by rw [hdd 1] <;> rfl) ?_
  refine mB hT 22 rfl ?_
  refine mNf (lv2 := [(4, .int 2), (0, .ref 0), (1, .int 0), (2, .int 2), (3, .int (Int32.ofNat k))]) (st2 := [.int (dd 2), .int 2, .ref 27]) rfl (by rw [hdd 2] <;> rfl) ?_
  refine mB hT 22 rfl ?_
  refine mNf (lv2 := [(4, .int 3), (0, .ref 0), (1, .int 0), (2, .int 2), (3, .int (Int32.ofNat k))]) (st2 := [.int (dd 3), .int 3, .ref 27]) rfl (by rw [hdd 3] <;> rfl) ?_
  refine mB hT 14 rfl ?_
  refine mWd (w2 := (XW (Int32.ofNat n) (Int32.ofNat vs) be de sz ro co mi T B hd (up (up (up (up df 0 (dd 0)) 1 (dd 1)) 2 (dd 2)) 3 (dd 3)))) rfl ?_
  refine mWd (w2 := (XW (Int32.ofNat n) (Int32.ofNat vs) be de sz ro co mi T B hd dd)) rfl ?_
  refine hC.2.2.2.1 _ 1 [_, _, _] _ _ _ _ _ (hk2) rfl rfl (Nat.le_of_ble_eq_true rfl) rfl ?_
  refine mB hT 7 rfl ?_
  refine hC.2.2.2.2 _ 1 [_, _, _] _ _ _ _ _ (c_sum_6 hn k 2 hk (by decide)) rfl rfl (Nat.le_of_ble_eq_true rfl) rfl ?_
  refine mB hT 3 rfl ?_
  refine mIf (fun h1 => ?_) (fun h1 => ?_)
  · refine mB hT 1 rfl ?_
    exact hR _ (by decide) _ _ _ (congrArg (fun z => [Value.int z]) (if_pos (lc_gt.mp h1)).symm) rfl
  · refine mB hT 2 rfl ?_
    exact hR _ (by decide) _ _ _ (congrArg (fun z => [Value.int z]) (if_neg (fun q => h1 (lc_gt.mpr q))).symm) rfl
set_option maxRecDepth 20000 in
theorem x_sure_B_0_3 {n vs : Nat} {be de : Int64} {sz : Int32} {ro co mi : Nat → Int64} {T : Nat → Nat → Int64} {B : Nat → Nat → Nat → Int32} {hd : Nat → Nat → Int32} {df : Nat → Int32} (hn : n ≤ 4) {k : Nat} (hk : k < 3) (h0 : detX n (lyT n (B 6) T) = 0) : ∃ (be2 de2 : Int64) (sz2 : Int32) (ro2 co2 mi2 : Nat → Int64) (T2 : Nat → Nat → Int64), KX2_sure l D ca ad [.ref 0, .int 0, .int 3, .int (Int32.ofNat k)] (XW (Int32.ofNat n) (Int32.ofNat vs) be de sz ro co mi T B hd df) (some (.int (-104))) (XW (Int32.ofNat n) (Int32.ofNat vs) be2 de2 sz2 ro2 co2 mi2 T2 B hd (fun j => hd 0 j - hd 3 j)) := by
  obtain ⟨dd, hd0⟩ : ∃ z : Nat → Int32, z = fun j => hd 0 j - hd 3 j := ⟨_, rfl⟩
  have hdd : ∀ j : Nat, dd j = hd 0 j - hd 3 j := fun j => by rw [hd0]
  obtain ⟨de2, mi2, T2, hk2⟩ := c_solve0_d (l := l) (D := D) (ca := ca) (ad := ad) (vs := vs) (be := be) (de := de) (sz := sz) (ro := ro) (co := co) (mi := mi) (hd := hd) (df := dd) hn h0
  rw [← hd0]
  refine ⟨be, de2, (Int32.ofNat n), ro, co, mi2, T2, ?_⟩
  refine PX2_sure (Nat.le_of_ble_eq_true rfl) ?_
  intro G hT hC hR
  refine mB hT 1 rfl ?_
  refine hC.1 _ [_] _ _ _ _ (c_isBasket_t (i := 0) (by decide)) rfl (Nat.le_of_ble_eq_true rfl) rfl ?_
  refine mB hT 2 rfl ?_
  refine hC.2.1 _ [_] _ _ _ _ (c_isBasket_t (i := 3) (by decide)) rfl (Nat.le_of_ble_eq_true rfl) rfl ?_
  refine mB hT 2 rfl ?_
  refine hC.2.2.1 _ [_] _ _ _ _ (c_isStuff_t hk) rfl (Nat.le_of_ble_eq_true rfl) rfl ?_
  refine mB hT 22 rfl ?_
  refine mNf (lv2 := [(4, .int 0), (0, .ref 0), (1, .int 0), (2, .int 3), (3, .int (Int32.ofNat k))]) (st2 := [.int (dd 0), .int 0, .ref 27]) rfl (by rw [hdd 0] <;> rfl) ?_
  refine mB hT 22 rfl ?_
  refine mNf (lv2 := [(4, .int 1), (0, .ref 0), (1, .int 0), (2, .int 3), (3, .int (Int32.ofNat k))]) (st2 := [.int (dd 1), .int 1, .ref 27]) rfl (by rw [hdd 1] <;> rfl) ?_
  refine mB hT 22 rfl ?_
  refine mNf (lv2 := [(4, .int 2), (0, .ref 0), (1, .int 0), (2, .int 3), (3, .int (Int32.ofNat k))]) (st2 := [.int (dd 2), .int 2, .ref 27]) rfl (by rw [hdd 2] <;> rfl) ?_
  refine mB hT 22 rfl ?_
  refine mNf (lv2 := [(4, .int 3), (0, .ref 0), (1, .int 0), (2, .int 3), (3, .int (Int32.ofNat k))]) (st2 := [.int (dd 3), .int 3, .ref 27]) rfl (by rw [hdd 3] <;> rfl) ?_
  refine mB hT 14 rfl ?_
  refine mWd (w2 := (XW (Int32.ofNat n) (Int32.ofNat vs) be de sz ro co mi T B hd (up (up (up (up df 0 (dd 0)) 1 (dd 1)) 2 (dd 2)) 3 (dd 3)))) rfl ?_
  refine mWd (w2 := (XW (Int32.ofNat n) (Int32.ofNat vs) be de sz ro co mi T B hd dd)) rfl ?_
  refine hC.2.2.2.1 _ 1 [_, _, _] _ _ _ _ _ (hk2) rfl rfl (Nat.le_of_ble_eq_true rfl) rfl ?_
  refine mB hT 2 rfl ?_
  exact hR _ (by decide) _ _ _ rfl rfl
set_option maxRecDepth 20000 in
theorem x_sure_0_3 {n vs : Nat} {be de : Int64} {sz : Int32} {ro co mi : Nat → Int64} {T : Nat → Nat → Int64} {B : Nat → Nat → Nat → Int32} {hd : Nat → Nat → Int32} {df : Nat → Int32} (hn : n ≤ 4) {k : Nat} (hk : k < 3) (h0 : ¬ detX n (lyT n (B 6) T) = 0) : ∃ (be2 de2 : Int64) (sz2 : Int32) (ro2 co2 mi2 : Nat → Int64) (T2 : Nat → Nat → Int64), KX2_sure l D ca ad [.ref 0, .int 0, .int 3, .int (Int32.ofNat k)] (XW (Int32.ofNat n) (Int32.ofNat vs) be de sz ro co mi T B hd df) (some (.int (if 0 < smX n (B 6) (roX n (lyT n (B 6) T) (fun j => hd 0 j - hd 3 j) ro) k 2 then 0 else 1))) (XW (Int32.ofNat n) (Int32.ofNat vs) be2 de2 sz2 ro2 co2 mi2 T2 B hd (fun j => hd 0 j - hd 3 j)) := by
  obtain ⟨dd, hd0⟩ : ∃ z : Nat → Int32, z = fun j => hd 0 j - hd 3 j := ⟨_, rfl⟩
  have hdd : ∀ j : Nat, dd j = hd 0 j - hd 3 j := fun j => by rw [hd0]
  obtain ⟨de2, co2, mi2, T2, hk2⟩ := c_solve1_d (l := l) (D := D) (ca := ca) (ad := ad) (vs := vs) (be := be) (de := de) (sz := sz) (ro := ro) (co := co) (mi := mi) (hd := hd) (df := dd) hn h0
  obtain ⟨r1, er1⟩ : ∃ z, z = roX n (lyT n (B 6) T) dd ro := ⟨_, rfl⟩
  rw [← er1] at hk2
  rw [← hd0, ← er1]
  refine ⟨absX (detX n (lyT n (B 6) T)), de2, (Int32.ofNat n), r1, co2, mi2, T2, ?_⟩
  refine PX2_sure (Nat.le_of_ble_eq_true rfl) ?_
  intro G hT hC hR
  refine mB hT 1 rfl ?_
  refine hC.1 _ [_] _ _ _ _ (c_isBasket_t (i := 0) (by decide)) rfl (Nat.le_of_ble_eq_true rfl) rfl ?_
  refine mB hT 2 rfl ?_
  refine hC.2.1 _ [_] _ _ _ _ (c_isBasket_t (i := 3) (by decide)) rfl (Nat.le_of_ble_eq_true rfl) rfl ?_
  refine mB hT 2 rfl ?_
  refine hC.2.2.1 _ [_] _ _ _ _ (c_isStuff_t hk) rfl (Nat.le_of_ble_eq_true rfl) rfl ?_
  refine mB hT 22 rfl ?_
  refine mNf (lv2 := [(4, .int 0), (0, .ref 0), (1, .int 0), (2, .int 3), (3, .int (Int32.ofNat k))]) (st2 := [.int (dd 0), .int 0, .ref 27]) rfl (by rw [hdd 0] <;> rfl) ?_
  refine mB hT 22 rfl ?_
  refine mNf (lv2 := [(4, .int 1), (0, .ref 0), (1, .int 0), (2, .int 3), (3, .int (Int32.ofNat k))]) (st2 := [.int (dd 1), .int 1, .ref 27]) rfl (by rw [hdd 1] <;> rfl) ?_
  refine mB hT 22 rfl ?_
  refine mNf (lv2 := [(4, .int 2), (0, .ref 0), (1, .int 0), (2, .int 3), (3, .int (Int32.ofNat k))]) (st2 := [.int (dd 2), .int 2, .ref 27]) rfl (by rw [hdd 2] <;> rfl) ?_
  refine mB hT 22 rfl ?_
  refine mNf (lv2 := [(4, .int 3), (0, .ref 0), (1, .int 0), (2, .int 3), (3, .int (Int32.ofNat k))]) (st2 := [.int (dd 3), .int 3, .ref 27]) rfl (by rw [hdd 3] <;> rfl) ?_
  refine mB hT 14 rfl ?_
  refine mWd (w2 := (XW (Int32.ofNat n) (Int32.ofNat vs) be de sz ro co mi T B hd (up (up (up (up df 0 (dd 0)) 1 (dd 1)) 2 (dd 2)) 3 (dd 3)))) rfl ?_
  refine mWd (w2 := (XW (Int32.ofNat n) (Int32.ofNat vs) be de sz ro co mi T B hd dd)) rfl ?_
  refine hC.2.2.2.1 _ 1 [_, _, _] _ _ _ _ _ (hk2) rfl rfl (Nat.le_of_ble_eq_true rfl) rfl ?_
  refine mB hT 7 rfl ?_
  refine hC.2.2.2.2 _ 1 [_, _, _] _ _ _ _ _ (c_sum_6 hn k 2 hk (by decide)) rfl rfl (Nat.le_of_ble_eq_true rfl) rfl ?_
  refine mB hT 3 rfl ?_
  refine mIf (fun h1 => ?_) (fun h1 => ?_)
  · refine mB hT 1 rfl ?_
    exact hR _ (by decide) _ _ _ (congrArg (fun z => [Value.int z]) (if_pos (lc_gt.mp h1)).symm) rfl
  · refine mB hT 2 rfl ?_
    exact hR _ (by decide) _ _ _ (congrArg (fun z => [Value.int z]) (if_neg (fun q => h1 (lc_gt.mpr q))).symm) rfl
set_option maxRecDepth 20000 in
theorem x_sure_B_1_0 {n vs : Nat} {be de : Int64} {sz : Int32} {ro co mi : Nat → Int64} {T : Nat → Nat → Int64} {B : Nat → Nat → Nat → Int32} {hd : Nat → Nat → Int32} {df : Nat → Int32} (hn : n ≤ 4) {k : Nat} (hk : k < 3) (h0 : detX n (lyT n (B 6) T) = 0) : ∃ (be2 de2 : Int64) (sz2 : Int32) (ro2 co2 mi2 : Nat → Int64) (T2 : Nat → Nat → Int64), KX2_sure l D ca ad [.ref 0, .int 1, .int 0, .int (Int32.ofNat k)] (XW (Int32.ofNat n) (Int32.ofNat vs) be de sz ro co mi T B hd df) (some (.int (-104))) (XW (Int32.ofNat n) (Int32.ofNat vs) be2 de2 sz2 ro2 co2 mi2 T2 B hd (fun j => hd 1 j - hd 0 j)) := by
  obtain ⟨dd, hd0⟩ : ∃ z : Nat → Int32, z = fun j => hd 1 j - hd 0 j := ⟨_, rfl⟩
  have hdd : ∀ j : Nat, dd j = hd 1 j - hd 0 j := fun j => by rw [hd0]
  obtain ⟨de2, mi2, T2, hk2⟩ := c_solve0_d (l := l) (D := D) (ca := ca) (ad := ad) (vs := vs) (be := be) (de := de) (sz := sz) (ro := ro) (co := co) (mi := mi) (hd := hd) (df := dd) hn h0
  rw [← hd0]
  refine ⟨be, de2, (Int32.ofNat n), ro, co, mi2, T2, ?_⟩
  refine PX2_sure (Nat.le_of_ble_eq_true rfl) ?_
  intro G hT hC hR
  refine mB hT 1 rfl ?_
  refine hC.1 _ [_] _ _ _ _ (c_isBasket_t (i := 1) (by decide)) rfl (Nat.le_of_ble_eq_true rfl) rfl ?_
  refine mB hT 2 rfl ?_
  refine hC.2.1 _ [_] _ _ _ _ (c_isBasket_t (i := 0) (by decide)) rfl (Nat.le_of_ble_eq_true rfl) rfl ?_
  refine mB hT 2 rfl ?_
  refine hC.2.2.1 _ [_] _ _ _ _ (c_isStuff_t hk) rfl (Nat.le_of_ble_eq_true rfl) rfl ?_
  refine mB hT 22 rfl ?_
  refine mNf (lv2 := [(4, .int 0), (0, .ref 0), (1, .int 1), (2, .int 0), (3, .int (Int32.ofNat k))]) (st2 := [.int (dd 0), .int 0, .ref 27]) rfl (by rw [hdd 0] <;> rfl) ?_
  refine mB hT 22 rfl ?_
  refine mNf (lv2 := [(4, .int 1), (0, .ref 0), (1, .int 1), (2, .int 0), (3, .int (Int32.ofNat k))]) (st2 := [.int (dd 1), .int 1, .ref 27]) rfl (by rw [hdd 1] <;> rfl) ?_
  refine mB hT 22 rfl ?_
  refine mNf (lv2 := [(4, .int 2), (0, .ref 0), (1, .int 1), (2, .int 0), (3, .int (Int32.ofNat k))]) (st2 := [.int (dd 2), .int 2, .ref 27]) rfl (by rw [hdd 2] <;> rfl) ?_
  refine mB hT 22 rfl ?_
  refine mNf (lv2 := [(4, .int 3), (0, .ref 0), (1, .int 1), (2, .int 0), (3, .int (Int32.ofNat k))]) (st2 := [.int (dd 3), .int 3, .ref 27]) rfl (by rw [hdd 3] <;> rfl) ?_
  refine mB hT 14 rfl ?_
  refine mWd (w2 := (XW (Int32.ofNat n) (Int32.ofNat vs) be de sz ro co mi T B hd (up (up (up (up df 0 (dd 0)) 1 (dd 1)) 2 (dd 2)) 3 (dd 3)))) rfl ?_
  refine mWd (w2 := (XW (Int32.ofNat n) (Int32.ofNat vs) be de sz ro co mi T B hd dd)) rfl ?_
  refine hC.2.2.2.1 _ 1 [_, _, _] _ _ _ _ _ (hk2) rfl rfl (Nat.le_of_ble_eq_true rfl) rfl ?_
  refine mB hT 2 rfl ?_
  exact hR _ (by decide) _ _ _ rfl rfl
set_option maxRecDepth 20000 in
theorem x_sure_1_0 {n vs : Nat} {be de : Int64} {sz : Int32} {ro co mi : Nat → Int64} {T : Nat → Nat → Int64} {B : Nat → Nat → Nat → Int32} {hd : Nat → Nat → Int32} {df : Nat → Int32} (hn : n ≤ 4) {k : Nat} (hk : k < 3) (h0 : ¬ detX n (lyT n (B 6) T) = 0) : ∃ (be2 de2 : Int64) (sz2 : Int32) (ro2 co2 mi2 : Nat → Int64) (T2 : Nat → Nat → Int64), KX2_sure l D ca ad [.ref 0, .int 1, .int 0, .int (Int32.ofNat k)] (XW (Int32.ofNat n) (Int32.ofNat vs) be de sz ro co mi T B hd df) (some (.int (if 0 < smX n (B 6) (roX n (lyT n (B 6) T) (fun j => hd 1 j - hd 0 j) ro) k 2 then 0 else 1))) (XW (Int32.ofNat n) (Int32.ofNat vs) be2 de2 sz2 ro2 co2 mi2 T2 B hd (fun j => hd 1 j - hd 0 j)) := by
  obtain ⟨dd, hd0⟩ : ∃ z : Nat → Int32, z = fun j => hd 1 j - hd 0 j := ⟨_, rfl⟩
  have hdd : ∀ j : Nat, dd j = hd 1 j - hd 0 j := fun j => by rw [hd0]
  obtain ⟨de2, co2, mi2, T2, hk2⟩ := c_solve1_d (l := l) (D := D) (ca := ca) (ad := ad) (vs := vs) (be := be) (de := de) (sz := sz) (ro := ro) (co := co) (mi := mi) (hd := hd) (df := dd) hn h0
  obtain ⟨r1, er1⟩ : ∃ z, z = roX n (lyT n (B 6) T) dd ro := ⟨_, rfl⟩
  rw [← er1] at hk2
  rw [← hd0, ← er1]
  refine ⟨absX (detX n (lyT n (B 6) T)), de2, (Int32.ofNat n), r1, co2, mi2, T2, ?_⟩
  refine PX2_sure (Nat.le_of_ble_eq_true rfl) ?_
  intro G hT hC hR
  refine mB hT 1 rfl ?_
  refine hC.1 _ [_] _ _ _ _ (c_isBasket_t (i := 1) (by decide)) rfl (Nat.le_of_ble_eq_true rfl) rfl ?_
  refine mB hT 2 rfl ?_
  refine hC.2.1 _ [_] _ _ _ _ (c_isBasket_t (i := 0) (by decide)) rfl (Nat.le_of_ble_eq_true rfl) rfl ?_
  refine mB hT 2 rfl ?_
  refine hC.2.2.1 _ [_] _ _ _ _ (c_isStuff_t hk) rfl (Nat.le_of_ble_eq_true rfl) rfl ?_
  refine mB hT 22 rfl ?_
  refine mNf (lv2 := [(4, .int 0), (0, .ref 0), (1, .int 1), (2, .int 0), (3, .int (Int32.ofNat k))]) (st2 := [.int (dd 0), .int 0, .ref 27]) rfl (by rw [hdd 0] <;> rfl) ?_
  refine mB hT 22 rfl ?_
  refine mNf (lv2 := [(4, .int 1), (0, .ref 0), (1, .int 1), (2, .int 0), (3, .int (Int32.ofNat k))]) (st2 := [.int (dd 1), .int 1, .ref 27]) rfl (by rw [hdd 1] <;> rfl) ?_
  refine mB hT 22 rfl ?_
  refine mNf (lv2 := [(4, .int 2), (0, .ref 0), (1, .int 1), (2, .int 0), (3, .int (Int32.ofNat k))]) (st2 := [.int (dd 2), .int 2, .ref 27]) rfl (by rw [hdd 2] <;> rfl) ?_
  refine mB hT 22 rfl ?_
  refine mNf (lv2 := [(4, .int 3), (0, .ref 0), (1, .int 1), (2, .int 0), (3, .int (Int32.ofNat k))]) (st2 := [.int (dd 3), .int 3, .ref 27]) rfl (by rw [hdd 3] <;> rfl) ?_
  refine mB hT 14 rfl ?_
  refine mWd (w2 := (XW (Int32.ofNat n) (Int32.ofNat vs) be de sz ro co mi T B hd (up (up (up (up df 0 (dd 0)) 1 (dd 1)) 2 (dd 2)) 3 (dd 3)))) rfl ?_
  refine mWd (w2 := (XW (Int32.ofNat n) (Int32.ofNat vs) be de sz ro co mi T B hd dd)) rfl ?_
  refine hC.2.2.2.1 _ 1 [_, _, _] _ _ _ _ _ (hk2) rfl rfl (Nat.le_of_ble_eq_true rfl) rfl ?_
  refine mB hT 7 rfl ?_
  refine hC.2.2.2.2 _ 1 [_, _, _] _ _ _ _ _ (c_sum_6 hn k 2 hk (by decide)) rfl rfl (Nat.le_of_ble_eq_true rfl) rfl ?_
  refine mB hT 3 rfl ?_
  refine mIf (fun h1 => ?_) (fun h1 => ?_)
  · refine mB hT 1 rfl ?_
    exact hR _ (by decide) _ _ _ (congrArg (fun z => [Value.int z]) (if_pos (lc_gt.mp h1)).symm) rfl
  · refine mB hT 2 rfl ?_
    exact hR _ (by decide) _ _ _ (congrArg (fun z => [Value.int z]) (if_neg (fun q => h1 (lc_gt.mpr q))).symm) rfl
set_option maxRecDepth 20000 in
theorem x_sure_B_1_1 {n vs : Nat} {be de : Int64} {sz : Int32} {ro co mi : Nat → Int64} {T : Nat → Nat → Int64} {B : Nat → Nat → Nat → Int32} {hd : Nat → Nat → Int32} {df : Nat → Int32} (hn : n ≤ 4) {k : Nat} (hk : k < 3) (h0 : detX n (lyT n (B 6) T) = 0) : ∃ (be2 de2 : Int64) (sz2 : Int32) (ro2 co2 mi2 : Nat → Int64) (T2 : Nat → Nat → Int64), KX2_sure l D ca ad [.ref 0, .int 1, .int 1, .int (Int32.ofNat k)] (XW (Int32.ofNat n) (Int32.ofNat vs) be de sz ro co mi T B hd df) (some (.int (-104))) (XW (Int32.ofNat n) (Int32.ofNat vs) be2 de2 sz2 ro2 co2 mi2 T2 B hd (fun j => hd 1 j - hd 1 j)) := by
  obtain ⟨dd, hd0⟩ : ∃ z : Nat → Int32, z = fun j => hd 1 j - hd 1 j := ⟨_, rfl⟩
  have hdd : ∀ j : Nat, dd j = hd 1 j - hd 1 j := fun j => by rw [hd0]
  obtain ⟨de2, mi2, T2, hk2⟩ := c_solve0_d (l := l) (D := D) (ca := ca) (ad := ad) (vs := vs) (be := be) (de := de) (sz := sz) (ro := ro) (co := co) (mi := mi) (hd := hd) (df := dd) hn h0
  rw [← hd0]
  refine ⟨be, de2, (Int32.ofNat n), ro, co, mi2, T2, ?_⟩
  refine PX2_sure (Nat.le_of_ble_eq_true rfl) ?_
  intro G hT hC hR
  refine mB hT 1 rfl ?_
  refine hC.1 _ [_] _ _ _ _ (c_isBasket_t (i := 1) (by decide)) rfl (Nat.le_of_ble_eq_true rfl) rfl ?_
  refine mB hT 2 rfl ?_
  refine hC.2.1 _ [_] _ _ _ _ (c_isBasket_t (i := 1) (by decide)) rfl (Nat.le_of_ble_eq_true rfl) rfl ?_
  refine mB hT 2 rfl ?_
  refine hC.2.2.1 _ [_] _ _ _ _ (c_isStuff_t hk) rfl (Nat.le_of_ble_eq_true rfl) rfl ?_
  refine mB hT 22 rfl ?_
  refine mNf (lv2 := [(4, .int 0), (0, .ref 0), (1, .int 1), (2, .int 1), (3, .int (Int32.ofNat k))]) (st2 := [.int (dd 0), .int 0, .ref 27]) rfl (by rw [hdd 0] <;> rfl) ?_
  refine mB hT 22 rfl ?_
  refine mNf (lv2 := [(4, .int 1), (0, .ref 0), (1, .int 1), (2, .int 1), (3, .int (Int32.ofNat k))]) (st2 := [.int (dd 1), .int 1, .ref 27]) rfl (by rw [hdd 1] <;> rfl) ?_
  refine mB hT 22 rfl ?_
  refine mNf (lv2 := [(4, .int 2), (0, .ref 0), (1, .int 1), (2, .int 1), (3, .int (Int32.ofNat k))]) (st2 := [.int (dd 2), .int 2, .ref 27]) rfl (by rw [hdd 2] <;> rfl) ?_
  refine mB hT 22 rfl ?_
  refine mNf (lv2 := [(4, .int 3), (0, .ref 0), (1, .int 1), (2, .int 1), (3, .int (Int32.ofNat k))]) (st2 := [.int (dd 3), .int 3, .ref 27]) rfl (by rw [hdd 3] <;> rfl) ?_
  refine mB hT 14 rfl ?_
  refine mWd (w2 := (XW (Int32.ofNat n) (Int32.ofNat vs) be de sz ro co mi T B hd (up (up (up (up df 0 (dd 0)) 1 (dd 1)) 2 (dd 2)) 3 (dd 3)))) rfl ?_
  refine mWd (w2 := (XW (Int32.ofNat n) (Int32.ofNat vs) be de sz ro co mi T B hd dd)) rfl ?_
  refine hC.2.2.2.1 _ 1 [_, _, _] _ _ _ _ _ (hk2) rfl rfl (Nat.le_of_ble_eq_true rfl) rfl ?_
  refine mB hT 2 rfl ?_
  exact hR _ (by decide) _ _ _ rfl rfl
set_option maxRecDepth 20000 in
theorem x_sure_1_1 {n vs : Nat} {be de : Int64} {sz : Int32} {ro co mi : Nat → Int64} {T : Nat → Nat → Int64} {B : Nat → Nat → Nat → Int32} {hd : Nat → Nat → Int32} {df : Nat → Int32} (hn : n ≤ 4) {k : Nat} (hk : k < 3) (h0 : ¬ detX n (lyT n (B 6) T) = 0) : ∃ (be2 de2 : Int64) (sz2 : Int32) (ro2 co2 mi2 : Nat → Int64) (T2 : Nat → Nat → Int64), KX2_sure l D ca ad [.ref 0, .int 1, .int 1, .int (Int32.ofNat k)] (XW (Int32.ofNat n) (Int32.ofNat vs) be de sz ro co mi T B hd df) (some (.int (if 0 < smX n (B 6) (roX n (lyT n (B 6) T) (fun j => hd 1 j - hd 1 j) ro) k 2 then 0 else 1))) (XW (Int32.ofNat n) (Int32.ofNat vs) be2 de2 sz2 ro2 co2 mi2 T2 B hd (fun j => hd 1 j - hd 1 j)) := by
  obtain ⟨dd, hd0⟩ : ∃ z : Nat → Int32, z = fun j => hd 1 j - hd 1 j := ⟨_, rfl⟩
  have hdd : ∀ j : Nat, dd j = hd 1 j - hd 1 j := fun j => by rw [hd0]
  obtain ⟨de2, co2, mi2, T2, hk2⟩ := c_solve1_d (l := l) (D := D) (ca := ca) (ad := ad) (vs := vs) (be := be) (de := de) (sz := sz) (ro := ro) (co := co) (mi := mi) (hd := hd) (df := dd) hn h0
  obtain ⟨r1, er1⟩ : ∃ z, z = roX n (lyT n (B 6) T) dd ro := ⟨_, rfl⟩
  rw [← er1] at hk2
  rw [← hd0, ← er1]
  refine ⟨absX (detX n (lyT n (B 6) T)), de2, (Int32.ofNat n), r1, co2, mi2, T2, ?_⟩
  refine PX2_sure (Nat.le_of_ble_eq_true rfl) ?_
  intro G hT hC hR
  refine mB hT 1 rfl ?_
  refine hC.1 _ [_] _ _ _ _ (c_isBasket_t (i := 1) (by decide)) rfl (Nat.le_of_ble_eq_true rfl) rfl ?_
  refine mB hT 2 rfl ?_
  refine hC.2.1 _ [_] _ _ _ _ (c_isBasket_t (i := 1) (by decide)) rfl (Nat.le_of_ble_eq_true rfl) rfl ?_
  refine mB hT 2 rfl ?_
  refine hC.2.2.1 _ [_] _ _ _ _ (c_isStuff_t hk) rfl (Nat.le_of_ble_eq_true rfl) rfl ?_
  refine mB hT 22 rfl ?_
  refine mNf (lv2 := [(4, .int 0), (0, .ref 0), (1, .int 1), (2, .int 1), (3, .int (Int32.ofNat k))]) (st2 := [.int (dd 0), .int 0, .ref 27]) rfl (by rw [hdd 0] <;> rfl) ?_
  refine mB hT 22 rfl ?_
  refine mNf (lv2 := [(4, .int 1), (0, .ref 0), (1, .int 1), (2, .int 1), (3, .int (Int32.ofNat k))]) (st2 := [.int (dd 1), .int 1, .ref 27]) rfl (by rw [hdd 1] <;> rfl) ?_
  refine mB hT 22 rfl ?_
  refine mNf (lv2 := [(4, .int 2), (0, .ref 0), (1, .int 1), (2, .int 1), (3, .int (Int32.ofNat k))]) (st2 := [.int (dd 2), .int 2, .ref 27]) rfl (by rw [hdd 2] <;> rfl) ?_
  refine mB hT 22 rfl ?_
  refine mNf (lv2 := [(4, .int 3), (0, .ref 0), (1, .int 1), (2, .int 1), (3, .int (Int32.ofNat k))]) (st2 := [.int (dd 3), .int 3, .ref 27]) rfl (by rw [hdd 3] <;> rfl) ?_
  refine mB hT 14 rfl ?_
  refine mWd (w2 := (XW (Int32.ofNat n) (Int32.ofNat vs) be de sz ro co mi T B hd (up (up (up (up df 0 (dd 0)) 1 (dd 1)) 2 (dd 2)) 3 (dd 3)))) rfl ?_
  refine mWd (w2 := (XW (Int32.ofNat n) (Int32.ofNat vs) be de sz ro co mi T B hd dd)) rfl ?_
  refine hC.2.2.2.1 _ 1 [_, _, _] _ _ _ _ _ (hk2) rfl rfl (Nat.le_of_ble_eq_true rfl) rfl ?_
  refine mB hT 7 rfl ?_
  refine hC.2.2.2.2 _ 1 [_, _, _] _ _ _ _ _ (c_sum_6 hn k 2 hk (by decide)) rfl rfl (Nat.le_of_ble_eq_true rfl) rfl ?_
  refine mB hT 3 rfl ?_
  refine mIf (fun h1 => ?_) (fun h1 => ?_)
  · refine mB hT 1 rfl ?_
    exact hR _ (by decide) _ _ _ (congrArg (fun z => [Value.int z]) (if_pos (lc_gt.mp h1)).symm) rfl
  · refine mB hT 2 rfl ?_
    exact hR _ (by decide) _ _ _ (congrArg (fun z => [Value.int z]) (if_neg (fun q => h1 (lc_gt.mpr q))).symm) rfl
set_option maxRecDepth 20000 in
theorem x_sure_B_1_2 {n vs : Nat} {be de : Int64} {sz : Int32} {ro co mi : Nat → Int64} {T : Nat → Nat → Int64} {B : Nat → Nat → Nat → Int32} {hd : Nat → Nat → Int32} {df : Nat → Int32} (hn : n ≤ 4) {k : Nat} (hk : k < 3) (h0 : detX n (lyT n (B 6) T) = 0) : ∃ (be2 de2 : Int64) (sz2 : Int32) (ro2 co2 mi2 : Nat → Int64) (T2 : Nat → Nat → Int64), KX2_sure l D ca ad [.ref 0, .int 1, .int 2, .int (Int32.ofNat k)] (XW (Int32.ofNat n) (Int32.ofNat vs) be de sz ro co mi T B hd df) (some (.int (-104))) (XW (Int32.ofNat n) (Int32.ofNat vs) be2 de2 sz2 ro2 co2 mi2 T2 B hd (fun j => hd 1 j - hd 2 j)) := by
  obtain ⟨dd, hd0⟩ : ∃ z : Nat → Int32, z = fun j => hd 1 j - hd 2 j := ⟨_, rfl⟩
  have hdd : ∀ j : Nat, dd j = hd 1 j - hd 2 j := fun j => by rw [hd0]
  obtain ⟨de2, mi2, T2, hk2⟩ := c_solve0_d (l := l) (D := D) (ca := ca) (ad := ad) (vs := vs) (be := be) (de := de) (sz := sz) (ro := ro) (co := co) (mi := mi) (hd := hd) (df := dd) hn h0
  rw [← hd0]
  refine ⟨be, de2, (Int32.ofNat n), ro, co, mi2, T2, ?_⟩
  refine PX2_sure (Nat.le_of_ble_eq_true rfl) ?_
  intro G hT hC hR
  refine mB hT 1 rfl ?_
  refine hC.1 _ [_] _ _ _ _ (c_isBasket_t (i := 1) (by decide)) rfl (Nat.le_of_ble_eq_true rfl) rfl ?_
  refine mB hT 2 rfl ?_
  refine hC.2.1 _ [_] _ _ _ _ (c_isBasket_t (i := 2) (by decide)) rfl (Nat.le_of_ble_eq_true rfl) rfl ?_
  refine mB hT 2 rfl ?_
  refine hC.2.2.1 _ [_] _ _ _ _ (c_isStuff_t hk) rfl (Nat.le_of_ble_eq_true rfl) rfl ?_
  refine mB hT 22 rfl ?_
  refine mNf (lv2 := [(4, .int 0), (0, .ref 0), (1, .int 1), (2, .int 2), (3, .int (Int32.ofNat k))]) (st2 := [.int (dd 0), .int 0, .ref 27]) rfl (by rw [hdd 0] <;> rfl) ?_
  refine mB hT 22 rfl ?_
  refine mNf (lv2 := [(4, .int 1), (0, .ref 0), (1, .int 1), (2, .int 2), (3, .int (Int32.ofNat k))]) (st2 := [.int (dd 1), .int 1, .ref 27]) rfl (by rw [hdd 1] <;> rfl) ?_
  refine mB hT 22 rfl ?_
  refine mNf (lv2 := [(4, .int 2), (0, .ref 0), (1, .int 1), (2, .int 2), (3, .int (Int32.ofNat k))]) (st2 := [.int (dd 2), .int 2, .ref 27]) rfl (by rw [hdd 2] <;> rfl) ?_
  refine mB hT 22 rfl ?_
  refine mNf (lv2 := [(4, .int 3), (0, .ref 0), (1, .int 1), (2, .int 2), (3, .int (Int32.ofNat k))]) (st2 := [.int (dd 3), .int 3, .ref 27]) rfl (by rw [hdd 3] <;> rfl) ?_
  refine mB hT 14 rfl ?_
  refine mWd (w2 := (XW (Int32.ofNat n) (Int32.ofNat vs) be de sz ro co mi T B hd (up (up (up (up df 0 (dd 0)) 1 (dd 1)) 2 (dd 2)) 3 (dd 3)))) rfl ?_
  refine mWd (w2 := (XW (Int32.ofNat n) (Int32.ofNat vs) be de sz ro co mi T B hd dd)) rfl ?_
  refine hC.2.2.2.1 _ 1 [_, _, _] _ _ _ _ _ (hk2) rfl rfl (Nat.le_of_ble_eq_true rfl) rfl ?_
  refine mB hT 2 rfl ?_
  exact hR _ (by decide) _ _ _ rfl rfl
set_option maxRecDepth 20000 in
theorem x_sure_1_2 {n vs : Nat} {be de : Int64} {sz : Int32} {ro co mi : Nat → Int64} {T : Nat → Nat → Int64} {B : Nat → Nat → Nat → Int32} {hd : Nat → Nat → Int32} {df : Nat → Int32} (hn : n ≤ 4) {k : Nat} (hk : k < 3) (h0 : ¬ detX n (lyT n (B 6) T) = 0) : ∃ (be2 de2 : Int64) (sz2 : Int32) (ro2 co2 mi2 : Nat → Int64) (T2 : Nat → Nat → Int64), KX2_sure l D ca ad [.ref 0, .int 1, .int 2, .int (Int32.ofNat k)] (XW (Int32.ofNat n) (Int32.ofNat vs) be de sz ro co mi T B hd df) (some (.int (if 0 < smX n (B 6) (roX n (lyT n (B 6) T) (fun j => hd 1 j - hd 2 j) ro) k 2 then 0 else 1))) (XW (Int32.ofNat n) (Int32.ofNat vs) be2 de2 sz2 ro2 co2 mi2 T2 B hd (fun j => hd 1 j - hd 2 j)) := by
  obtain ⟨dd, hd0⟩ : ∃ z : Nat → Int32, z = fun j => hd 1 j - hd 2 j := ⟨_, rfl⟩
  have hdd : ∀ j : Nat, dd j = hd 1 j - hd 2 j := fun j => by rw [hd0]
  obtain ⟨de2, co2, mi2, T2, hk2⟩ := c_solve1_d (l := l) (D := D) (ca := ca) (ad := ad) (vs := vs) (be := be) (de := de) (sz := sz) (ro := ro) (co := co) (mi := mi) (hd := hd) (df := dd) hn h0
  obtain ⟨r1, er1⟩ : ∃ z, z = roX n (lyT n (B 6) T) dd ro := ⟨_, rfl⟩
  rw [← er1] at hk2
  rw [← hd0, ← er1]
  refine ⟨absX (detX n (lyT n (B 6) T)), de2, (Int32.ofNat n), r1, co2, mi2, T2, ?_⟩
  refine PX2_sure (Nat.le_of_ble_eq_true rfl) ?_
  intro G hT hC hR
  refine mB hT 1 rfl ?_
  refine hC.1 _ [_] _ _ _ _ (c_isBasket_t (i := 1) (by decide)) rfl (Nat.le_of_ble_eq_true rfl) rfl ?_
  refine mB hT 2 rfl ?_
  refine hC.2.1 _ [_] _ _ _ _ (c_isBasket_t (i := 2) (by decide)) rfl (Nat.le_of_ble_eq_true rfl) rfl ?_
  refine mB hT 2 rfl ?_
  refine hC.2.2.1 _ [_] _ _ _ _ (c_isStuff_t hk) rfl (Nat.le_of_ble_eq_true rfl) rfl ?_
  refine mB hT 22 rfl ?_
  refine mNf (lv2 := [(4, .int 0), (0, .ref 0), (1, .int 1), (2, .int 2), (3, .int (Int32.ofNat k))]) (st2 := [.int (dd 0), .int 0, .ref 27]) rfl (by rw [hdd 0] <;> rfl) ?_
  refine mB hT 22 rfl ?_
  refine mNf (lv2 := [(4, .int 1), (0, .ref 0), (1, .int 1), (2, .int 2), (3, .int (Int32.ofNat k))]) (st2 := [.int (dd 1), .int 1, .ref 27]) rfl (by rw [hdd 1] <;> rfl) ?_
  refine mB hT 22 rfl ?_
  refine mNf (lv2 := [(4, .int 2), (0, .ref 0), (1, .int 1), (2, .int 2), (3, .int (Int32.ofNat k))]) (st2 := [.int (dd 2), .int 2, .ref 27]) rfl (by rw [hdd 2] <;> rfl) ?_
  refine mB hT 22 rfl ?_
  refine mNf (lv2 := [(4, .int 3), (0, .ref 0), (1, .int 1), (2, .int 2), (3, .int (Int32.ofNat k))]) (st2 := [.int (dd 3), .int 3, .ref 27]) rfl (by rw [hdd 3] <;> rfl) ?_
  refine mB hT 14 rfl ?_
  refine mWd (w2 := (XW (Int32.ofNat n) (Int32.ofNat vs) be de sz ro co mi T B hd (up (up (up (up df 0 (dd 0)) 1 (dd 1)) 2 (dd 2)) 3 (dd 3)))) rfl ?_
  refine mWd (w2 := (XW (Int32.ofNat n) (Int32.ofNat vs) be de sz ro co mi T B hd dd)) rfl ?_
  refine hC.2.2.2.1 _ 1 [_, _, _] _ _ _ _ _ (hk2) rfl rfl (Nat.le_of_ble_eq_true rfl) rfl ?_
  refine mB hT 7 rfl ?_
  refine hC.2.2.2.2 _ 1 [_, _, _] _ _ _ _ _ (c_sum_6 hn k 2 hk (by decide)) rfl rfl (Nat.le_of_ble_eq_true rfl) rfl ?_
  refine mB hT 3 rfl ?_
  refine mIf (fun h1 => ?_) (fun h1 => ?_)
  · refine mB hT 1 rfl ?_
    exact hR _ (by decide) _ _ _ (congrArg (fun z => [Value.int z]) (if_pos (lc_gt.mp h1)).symm) rfl
  · refine mB hT 2 rfl ?_
    exact hR _ (by decide) _ _ _ (congrArg (fun z => [Value.int z]) (if_neg (fun q => h1 (lc_gt.mpr q))).symm) rfl
set_option maxRecDepth 20000 in
theorem x_sure_B_1_3 {n vs : Nat} {be de : Int64} {sz : Int32} {ro co mi : Nat → Int64} {T : Nat → Nat → Int64} {B : Nat → Nat → Nat → Int32} {hd : Nat → Nat → Int32} {df : Nat → Int32} (hn : n ≤ 4) {k : Nat} (hk : k < 3) (h0 : detX n (lyT n (B 6) T) = 0) : ∃ (be2 de2 : Int64) (sz2 : Int32) (ro2 co2 mi2 : Nat → Int64) (T2 : Nat → Nat → Int64), KX2_sure l D ca ad [.ref 0, .int 1, .int 3, .int (Int32.ofNat k)] (XW (Int32.ofNat n) (Int32.ofNat vs) be de sz ro co mi T B hd df) (some (.int (-104))) (XW (Int32.ofNat n) (Int32.ofNat vs) be2 de2 sz2 ro2 co2 mi2 T2 B hd (fun j => hd 1 j - hd 3 j)) := by
  obtain ⟨dd, hd0⟩ : ∃ z : Nat → Int32, z = fun j => hd 1 j - hd 3 j := ⟨_, rfl⟩
  have hdd : ∀ j : Nat, dd j = hd 1 j - hd 3 j := fun j => by rw [hd0]
  obtain ⟨de2, mi2, T2, hk2⟩ := c_solve0_d (l := l) (D := D) (ca := ca) (ad := ad) (vs := vs) (be := be) (de := de) (sz := sz) (ro := ro) (co := co) (mi := mi) (hd := hd) (df := dd) hn h0
  rw [← hd0]
  refine ⟨be, de2, (Int32.ofNat n), ro, co, mi2, T2, ?_⟩
  refine PX2_sure (Nat.le_of_ble_eq_true rfl) ?_
  intro G hT hC hR
  refine mB hT 1 rfl ?_
  refine hC.1 _ [_] _ _ _ _ (c_isBasket_t (i := 1) (by decide)) rfl (Nat.le_of_ble_eq_true rfl) rfl ?_
  refine mB hT 2 rfl ?_
  refine hC.2.1 _ [_] _ _ _ _ (c_isBasket_t (i := 3) (by decide)) rfl (Nat.le_of_ble_eq_true rfl) rfl ?_
  refine mB hT 2 rfl ?_
  refine hC.2.2.1 _ [_] _ _ _ _ (c_isStuff_t hk) rfl (Nat.le_of_ble_eq_true rfl) rfl ?_
  refine mB hT 22 rfl ?_
  refine mNf (lv2 := [(4, .int 0), (0, .ref 0), (1, .int 1), (2, .int 3), (3, .int (Int32.ofNat k))]) (st2 := [.int (dd 0), .int 0, .ref 27]) rfl (by rw [hdd 0] <;> rfl) ?_
  refine mB hT 22 rfl ?_
  refine mNf (lv2 := [(4, .int 1), (0, .ref 0), (1, .int 1), (2, .int 3), (3, .int (Int32.ofNat k))]) (st2 := [.int (dd 1), .int 1, .ref 27]) rfl (by rw [hdd 1] <;> rfl) ?_
  refine mB hT 22 rfl ?_
  refine mNf (lv2 := [(4, .int 2), (0, .ref 0), (1, .int 1), (2, .int 3), (3, .int (Int32.ofNat k))]) (st2 := [.int (dd 2), .int 2, .ref 27]) rfl (by rw [hdd 2] <;> rfl) ?_
  refine mB hT 22 rfl ?_
  refine mNf (lv2 := [(4, .int 3), (0, .ref 0), (1, .int 1), (2, .int 3), (3, .int (Int32.ofNat k))]) (st2 := [.int (dd 3), .int 3, .ref 27]) rfl (by rw [hdd 3] <;> rfl) ?_
  refine mB hT 14 rfl ?_
  refine mWd (w2 := (XW (Int32.ofNat n) (Int32.ofNat vs) be de sz ro co mi T B hd (up (up (up (up df 0 (dd 0)) 1 (dd 1)) 2 (dd 2)) 3 (dd 3)))) rfl ?_
  refine mWd (w2 := (XW (Int32.ofNat n) (Int32.ofNat vs) be de sz ro co mi T B hd dd)) rfl ?_
  refine hC.2.2.2.1 _ 1 [_, _, _] _ _ _ _ _ (hk2) rfl rfl (Nat.le_of_ble_eq_true rfl) rfl ?_
  refine mB hT 2 rfl ?_
  exact hR _ (by decide) _ _ _ rfl rfl
set_option maxRecDepth 20000 in
theorem x_sure_1_3 {n vs : Nat} {be de : Int64} {sz : Int32} {ro co mi : Nat → Int64} {T : Nat → Nat → Int64} {B : Nat → Nat → Nat → Int32} {hd : Nat → Nat → Int32} {df : Nat → Int32} (hn : n ≤ 4) {k : Nat} (hk : k < 3) (h0 : ¬ detX n (lyT n (B 6) T) = 0) : ∃ (be2 de2 : Int64) (sz2 : Int32) (ro2 co2 mi2 : Nat → Int64) (T2 : Nat → Nat → Int64), KX2_sure l D ca ad [.ref 0, .int 1, .int 3, .int (Int32.ofNat k)] (XW (Int32.ofNat n) (Int32.ofNat vs) be de sz ro co mi T B hd df) (some (.int (if 0 < smX n (B 6) (roX n (lyT n (B 6) T) (fun j => hd 1 j - hd 3 j) ro) k 2 then 0 else 1))) (XW (Int32.ofNat n) (Int32.ofNat vs) be2 de2 sz2 ro2 co2 mi2 T2 B hd (fun j => hd 1 j - hd 3 j)) := by
  obtain ⟨dd, hd0⟩ : ∃ z : Nat → Int32, z = fun j => hd 1 j - hd 3 j := ⟨_, rfl⟩
  have hdd : ∀ j : Nat, dd j = hd 1 j - hd 3 j := fun j => by rw [hd0]
  obtain ⟨de2, co2, mi2, T2, hk2⟩ := c_solve1_d (l := l) (D := D) (ca := ca) (ad := ad) (vs := vs) (be := be) (de := de) (sz := sz) (ro := ro) (co := co) (mi := mi) (hd := hd) (df := dd) hn h0
  obtain ⟨r1, er1⟩ : ∃ z, z = roX n (lyT n (B 6) T) dd ro := ⟨_, rfl⟩
  rw [← er1] at hk2
  rw [← hd0, ← er1]
  refine ⟨absX (detX n (lyT n (B 6) T)), de2, (Int32.ofNat n), r1, co2, mi2, T2, ?_⟩
  refine PX2_sure (Nat.le_of_ble_eq_true rfl) ?_
  intro G hT hC hR
  refine mB hT 1 rfl ?_
  refine hC.1 _ [_] _ _ _ _ (c_isBasket_t (i := 1) (by decide)) rfl (Nat.le_of_ble_eq_true rfl) rfl ?_
  refine mB hT 2 rfl ?_
  refine hC.2.1 _ [_] _ _ _ _ (c_isBasket_t (i := 3) (by decide)) rfl (Nat.le_of_ble_eq_true rfl) rfl ?_
  refine mB hT 2 rfl ?_
  refine hC.2.2.1 _ [_] _ _ _ _ (c_isStuff_t hk) rfl (Nat.le_of_ble_eq_true rfl) rfl ?_
  refine mB hT 22 rfl ?_
  refine mNf (lv2 := [(4, .int 0), (0, .ref 0), (1, .int 1), (2, .int 3), (3, .int (Int32.ofNat k))]) (st2 := [.int (dd 0), .int 0, .ref 27]) rfl (by rw [hdd 0] <;> rfl) ?_
  refine mB hT 22 rfl ?_
  refine mNf (lv2 := [(4, .int 1), (0, .ref 0), (1, .int 1), (2, .int 3), (3, .int (Int32.ofNat k))]) (st2 := [.int (dd 1), .int 1, .ref 27]) rfl (by rw [hdd 1] <;> rfl) ?_
  refine mB hT 22 rfl ?_
  refine mNf (lv2 := [(4, .int 2), (0, .ref 0), (1, .int 1), (2, .int 3), (3, .int (Int32.ofNat k))]) (st2 := [.int (dd 2), .int 2, .ref 27]) rfl (by rw [hdd 2] <;> rfl) ?_
  refine mB hT 22 rfl ?_
  refine mNf (lv2 := [(4, .int 3), (0, .ref 0), (1, .int 1), (2, .int 3), (3, .int (Int32.ofNat k))]) (st2 := [.int (dd 3), .int 3, .ref 27]) rfl (by rw [hdd 3] <;> rfl) ?_
  refine mB hT 14 rfl ?_
  refine mWd (w2 := (XW (Int32.ofNat n) (Int32.ofNat vs) be de sz ro co mi T B hd (up (up (up (up df 0 (dd 0)) 1 (dd 1)) 2 (dd 2)) 3 (dd 3)))) rfl ?_
  refine mWd (w2 := (XW (Int32.ofNat n) (Int32.ofNat vs) be de sz ro co mi T B hd dd)) rfl ?_
  refine hC.2.2.2.1 _ 1 [_, _, _] _ _ _ _ _ (hk2) rfl rfl (Nat.le_of_ble_eq_true rfl) rfl ?_
  refine mB hT 7 rfl ?_
  refine hC.2.2.2.2 _ 1 [_, _, _] _ _ _ _ _ (c_sum_6 hn k 2 hk (by decide)) rfl rfl (Nat.le_of_ble_eq_true rfl) rfl ?_
  refine mB hT 3 rfl ?_
  refine mIf (fun h1 => ?_) (fun h1 => ?_)
  · refine mB hT 1 rfl ?_
    exact hR _ (by decide) _ _ _ (congrArg (fun z => [Value.int z]) (if_pos (lc_gt.mp h1)).symm) rfl
  · refine mB hT 2 rfl ?_
    exact hR _ (by decide) _ _ _ (congrArg (fun z => [Value.int z]) (if_neg (fun q => h1 (lc_gt.mpr q))).symm) rfl
set_option maxRecDepth 20000 in
theorem x_sure_B_2_0 {n vs : Nat} {be de : Int64} {sz : Int32} {ro co mi : Nat → Int64} {T : Nat → Nat → Int64} {B : Nat → Nat → Nat → Int32} {hd : Nat → Nat → Int32} {df : Nat → Int32} (hn : n ≤ 4) {k : Nat} (hk : k < 3) (h0 : detX n (lyT n (B 6) T) = 0) : ∃ (be2 de2 : Int64) (sz2 : Int32) (ro2 co2 mi2 : Nat → Int64) (T2 : Nat → Nat → Int64), KX2_sure l D ca ad [.ref 0, .int 2, .int 0, .int (Int32.ofNat k)] (XW (Int32.ofNat n) (Int32.ofNat vs) be de sz ro co mi T B hd df) (some (.int (-104))) (XW (Int32.ofNat n) (Int32.ofNat vs) be2 de2 sz2 ro2 co2 mi2 T2 B hd (fun j => hd 2 j - hd 0 j)) := by
  obtain ⟨dd, hd0⟩ : ∃ z : Nat → Int32, z = fun j => hd 2 j - hd 0 j := ⟨_, rfl⟩
  have hdd : ∀ j : Nat, dd j = hd 2 j - hd 0 j := fun j => by rw [hd0]
  obtain ⟨de2, mi2, T2, hk2⟩ := c_solve0_d (l := l) (D := D) (ca := ca) (ad := ad) (vs := vs) (be := be) (de := de) (sz := sz) (ro := ro) (co := co) (mi := mi) (hd := hd) (df := dd) hn h0
  rw [← hd0]
  refine ⟨be, de2, (Int32.ofNat n), ro, co, mi2, T2, ?_⟩
  refine PX2_sure (Nat.le_of_ble_eq_true rfl) ?_
  intro G hT hC hR
  refine mB hT 1 rfl ?_
  refine hC.1 _ [_] _ _ _ _ (c_isBasket_t (i := 2) (by decide)) rfl (Nat.le_of_ble_eq_true rfl) rfl ?_
  refine mB hT 2 rfl ?_
  refine hC.2.1 _ [_] _ _ _ _ (c_isBasket_t (i := 0) (by decide)) rfl (Nat.le_of_ble_eq_true rfl) rfl ?_
  refine mB hT 2 rfl ?_
  refine hC.2.2.1 _ [_] _ _ _ _ (c_isStuff_t hk) rfl (Nat.le_of_ble_eq_true rfl) rfl ?_
  refine mB hT 22 rfl ?_
  refine mNf (lv2 := [(4, .int 0), (0, .ref 0), (1, .int 2), (2, .int 0), (3, .int (Int32.ofNat k))]) (st2 := [.int (dd 0), .int 0, .ref 27]) rfl (by rw [hdd 0] <;> rfl) ?_
  refine mB hT 22 rfl ?_
  refine mNf (lv2 := [(4, .int 1), (0, .ref 0), (1, .int 2), (2, .int 0), (3, .int (Int32.ofNat k))]) (st2 := [.int (dd 1), .int 1, .ref 27]) rfl (by rw [hdd 1] <;> rfl) ?_
  refine mB hT 22 rfl ?_
  refine mNf (lv2 := [(4, .int 2), (0, .ref 0), (1, .int 2), (2, .int 0), (3, .int (Int32.ofNat k))]) (st2 := [.int (dd 2), .int 2, .ref 27]) rfl (by rw [hdd 2] <;> rfl) ?_
  refine mB hT 22 rfl ?_
  refine mNf (lv2 := [(4, .int 3), (0, .ref 0), (1, .int 2), (2, .int 0), (3, .int (Int32.ofNat k))]) (st2 := [.int (dd 3), .int 3, .ref 27]) rfl (by rw [hdd 3] <;> rfl) ?_
  refine mB hT 14 rfl ?_
  refine mWd (w2 := (XW (Int32.ofNat n) (Int32.ofNat vs) be de sz ro co mi T B hd (up (up (up (up df 0 (dd 0)) 1 (dd 1)) 2 (dd 2)) 3 (dd 3)))) rfl ?_
  refine mWd (w2 := (XW (Int32.ofNat n) (Int32.ofNat vs) be de sz ro co mi T B hd dd)) rfl ?_
  refine hC.2.2.2.1 _ 1 [_, _, _] _ _ _ _ _ (hk2) rfl rfl (Nat.le_of_ble_eq_true rfl) rfl ?_
  refine mB hT 2 rfl ?_
  exact hR _ (by decide) _ _ _ rfl rfl
set_option maxRecDepth 20000 in
theorem x_sure_2_0 {n vs : Nat} {be de : Int64} {sz : Int32} {ro co mi : Nat → Int64} {T : Nat → Nat → Int64} {B : Nat → Nat → Nat → Int32} {hd : Nat → Nat → Int32} {df : Nat → Int32} (hn : n ≤ 4) {k : Nat} (hk : k < 3) (h0 : ¬ detX n (lyT n (B 6) T) = 0) : ∃ (be2 de2 : Int64) (sz2 : Int32) (ro2 co2 mi2 : Nat → Int64) (T2 : Nat → Nat → Int64), KX2_sure l D ca ad [.ref 0, .int 2, .int 0, .int (Int32.ofNat k)] (XW (Int32.ofNat n) (Int32.ofNat vs) be de sz ro co mi T B hd df) (some (.int (if 0 < smX n (B 6) (roX n (lyT n (B 6) T) (fun j => hd 2 j - hd 0 j) ro) k 2 then 0 else 1))) (XW (Int32.ofNat n) (Int32.ofNat vs) be2 de2 sz2 ro2 co2 mi2 T2 B hd (fun j => hd 2 j - hd 0 j)) := by
  obtain ⟨dd, hd0⟩ : ∃ z : Nat → Int32, z = fun j => hd 2 j - hd 0 j := ⟨_, rfl⟩
  have hdd : ∀ j : Nat, dd j = hd 2 j - hd 0 j := fun j => by rw [hd0]
  obtain ⟨de2, co2, mi2, T2, hk2⟩ := c_solve1_d (l := l) (D := D) (ca := ca) (ad := ad) (vs := vs) (be := be) (de := de) (sz := sz) (ro := ro) (co := co) (mi := mi) (hd := hd) (df := dd) hn h0
  obtain ⟨r1, er1⟩ : ∃ z, z = roX n (lyT n (B 6) T) dd ro := ⟨_, rfl⟩
  rw [← er1] at hk2
  rw [← hd0, ← er1]
  refine ⟨absX (detX n (lyT n (B 6) T)), de2, (Int32.ofNat n), r1, co2, mi2, T2, ?_⟩
  refine PX2_sure (Nat.le_of_ble_eq_true rfl) ?_
  intro G hT hC hR
  refine mB hT 1 rfl ?_
  refine hC.1 _ [_] _ _ _ _ (c_isBasket_t (i := 2) (by decide)) rfl (Nat.le_of_ble_eq_true rfl) rfl ?_
  refine mB hT 2 rfl ?_
  refine hC.2.1 _ [_] _ _ _ _ (c_isBasket_t (i := 0) (by decide)) rfl (Nat.le_of_ble_eq_true rfl) rfl ?_
  refine mB hT 2 rfl ?_
  refine hC.2.2.1 _ [_] _ _ _ _ (c_isStuff_t hk) rfl (Nat.le_of_ble_eq_true rfl) rfl ?_
  refine mB hT 22 rfl ?_
  refine mNf (lv2 := [(4, .int 0), (0, .ref 0), (1, .int 2), (2, .int 0), (3, .int (Int32.ofNat k))]) (st2 := [.int (dd 0), .int 0, .ref 27]) rfl (by rw [hdd 0] <;> rfl) ?_
  refine mB hT 22 rfl ?_
  refine mNf (lv2 := [(4, .int 1), (0, .ref 0), (1, .int 2), (2, .int 0), (3, .int (Int32.ofNat k))]) (st2 := [.int (dd 1), .int 1, .ref 27]) rfl (by rw [hdd 1] <;> rfl) ?_
  refine mB hT 22 rfl ?_
  refine mNf (lv2 := [(4, .int 2), (0, .ref 0), (1, .int 2), (2, .int 0), (3, .int (Int32.ofNat k))]) (st2 := [.int (dd 2), .int 2, .ref 27]) rfl (by rw [hdd 2] <;> rfl) ?_
  refine mB hT 22 rfl ?_
  refine mNf (lv2 := [(4, .int 3), (0, .ref 0), (1, .int 2), (2, .int 0), (3, .int (Int32.ofNat k))]) (st2 := [.int (dd 3), .int 3, .ref 27]) rfl (by rw [hdd 3] <;> rfl) ?_
  refine mB hT 14 rfl ?_
  refine mWd (w2 := (XW (Int32.ofNat n) (Int32.ofNat vs) be de sz ro co mi T B hd (up (up (up (up df 0 (dd 0)) 1 (dd 1)) 2 (dd 2)) 3 (dd 3)))) rfl ?_
  refine mWd (w2 := (XW (Int32.ofNat n) (Int32.ofNat vs) be de sz ro co mi T B hd dd)) rfl ?_
  refine hC.2.2.2.1 _ 1 [_, _, _] _ _ _ _ _ (hk2) rfl rfl (Nat.le_of_ble_eq_true rfl) rfl ?_
  refine mB hT 7 rfl ?_
  refine hC.2.2.2.2 _ 1 [_, _, _] _ _ _ _ _ (c_sum_6 hn k 2 hk (by decide)) rfl rfl (Nat.le_of_ble_eq_true rfl) rfl ?_
  refine mB hT 3 rfl ?_
  refine mIf (fun h1 => ?_) (fun h1 => ?_)
  · refine mB hT 1 rfl ?_
    exact hR _ (by decide) _ _ _ (congrArg (fun z => [Value.int z]) (if_pos (lc_gt.mp h1)).symm) rfl
  · refine mB hT 2 rfl ?_
    exact hR _ (by decide) _ _ _ (congrArg (fun z => [Value.int z]) (if_neg (fun q => h1 (lc_gt.mpr q))).symm) rfl
set_option maxRecDepth 20000 in
theorem x_sure_B_2_1 {n vs : Nat} {be de : Int64} {sz : Int32} {ro co mi : Nat → Int64} {T : Nat → Nat → Int64} {B : Nat → Nat → Nat → Int32} {hd : Nat → Nat → Int32} {df : Nat → Int32} (hn : n ≤ 4) {k : Nat} (hk : k < 3) (h0 : detX n (lyT n (B 6) T) = 0) : ∃ (be2 de2 : Int64) (sz2 : Int32) (ro2 co2 mi2 : Nat → Int64) (T2 : Nat → Nat → Int64), KX2_sure l D ca ad [.ref 0, .int 2, .int 1, .int (Int32.ofNat k)] (XW (Int32.ofNat n) (Int32.ofNat vs) be de sz ro co mi T B hd df) (some (.int (-104))) (XW (Int32.ofNat n) (Int32.ofNat vs) be2 de2 sz2 ro2 co2 mi2 T2 B hd (fun j => hd 2 j - hd 1 j)) := by
  obtain ⟨dd, hd0⟩ : ∃ z : Nat → Int32, z = fun j => hd 2 j - hd 1 j := ⟨_, rfl⟩
  have hdd : ∀ j : Nat, dd j = hd 2 j - hd 1 j := fun j => by rw [hd0]
  obtain ⟨de2, mi2, T2, hk2⟩ := c_solve0_d (l := l) (D := D) (ca := ca) (ad := ad) (vs := vs) (be := be) (de := de) (sz := sz) (ro := ro) (co := co) (mi := mi) (hd := hd) (df := dd) hn h0
  rw [← hd0]
  refine ⟨be, de2, (Int32.ofNat n), ro, co, mi2, T2, ?_⟩
  refine PX2_sure (Nat.le_of_ble_eq_true rfl) ?_
  intro G hT hC hR
  refine mB hT 1 rfl ?_
  refine hC.1 _ [_] _ _ _ _ (c_isBasket_t (i := 2) (by decide)) rfl (Nat.le_of_ble_eq_true rfl) rfl ?_
  refine mB hT 2 rfl ?_
  refine hC.2.1 _ [_] _ _ _ _ (c_isBasket_t (i := 1) (by decide)) rfl (Nat.le_of_ble_eq_true rfl) rfl ?_
  refine mB hT 2 rfl ?_
  refine hC.2.2.1 _ [_] _ _ _ _ (c_isStuff_t hk) rfl (Nat.le_of_ble_eq_true rfl) rfl ?_
  refine mB hT 22 rfl ?_
  refine mNf (lv2 := [(4, .int 0), (0, .ref 0), (1, .int 2), (2, .int 1), (3, .int (Int32.ofNat k))]) (st2 := [.int (dd 0), .int 0, .ref 27]) rfl (by rw [hdd 0] <;> rfl) ?_
  refine mB hT 22 rfl ?_
  refine mNf (lv2 := [(4, .int 1), (0, .ref 0), (1, .int 2), (2, .int 1), (3, .int (Int32.ofNat k))]) (st2 := [.int (dd 1), .int 1, .ref 27]) rfl (by rw [hdd 1] <;> rfl) ?_
  refine mB hT 22 rfl ?_
  refine mNf (lv2 := [(4, .int 2), (0, .ref 0), (1, .int 2), (2, .int 1), (3, .int (Int32.ofNat k))]) (st2 := [.int (dd 2), .int 2, .ref 27]) rfl (by rw [hdd 2] <;> rfl) ?_
  refine mB hT 22 rfl ?_
  refine mNf (lv2 := [(4, .int 3), (0, .ref 0), (1, .int 2), (2, .int 1), (3, .int (Int32.ofNat k))]) (st2 := [.int (dd 3), .int 3, .ref 27]) rfl (by rw [hdd 3] <;> rfl) ?_
  refine mB hT 14 rfl ?_
  refine mWd (w2 := (XW (Int32.ofNat n) (Int32.ofNat vs) be de sz ro co mi T B hd (up (up (up (up df 0 (dd 0)) 1 (dd 1)) 2 (dd 2)) 3 (dd 3)))) rfl ?_
  refine mWd (w2 := (XW (Int32.ofNat n) (Int32.ofNat vs) be de sz ro co mi T B hd dd)) rfl ?_
  refine hC.2.2.2.1 _ 1 [_, _, _] _ _ _ _ _ (hk2) rfl rfl (Nat.le_of_ble_eq_true rfl) rfl ?_
  refine mB hT 2 rfl ?_
  exact hR _ (by decide) _ _ _ rfl rfl
set_option maxRecDepth 20000 in
theorem x_sure_2_1 {n vs : Nat} {be de : Int64} {sz : Int32} {ro co mi : Nat → Int64} {T : Nat → Nat → Int64} {B : Nat → Nat → Nat → Int32} {hd : Nat → Nat → Int32} {df : Nat → Int32} (hn : n ≤ 4) {k : Nat} (hk : k < 3) (h0 : ¬ detX n (lyT n (B 6) T) = 0) : ∃ (be2 de2 : Int64) (sz2 : Int32) (ro2 co2 mi2 : Nat → Int64) (T2 : Nat → Nat → Int64), KX2_sure l D ca ad [.ref 0, .int 2, .int 1, .int (Int32.ofNat k)] (XW (Int32.ofNat n) (Int32.ofNat vs) be de sz ro co mi T B hd df) (some (.int (if 0 < smX n (B 6) (roX n (lyT n (B 6) T) (fun j => hd 2 j - hd 1 j) ro) k 2 then 0 else 1))) (XW (Int32.ofNat n) (Int32.ofNat vs) be2 de2 sz2 ro2 co2 mi2 T2 B hd (fun j => hd 2 j - hd 1 j)) := by
  obtain ⟨dd, hd0⟩ : ∃ z : Nat → Int32, z = fun j => hd 2 j - hd 1 j := ⟨_, rfl⟩
  have hdd : ∀ j : Nat, dd j = hd 2 j - hd 1 j := fun j => by rw [hd0]
  obtain ⟨de2, co2, mi2, T2, hk2⟩ := c_solve1_d (l := l) (D := D) (ca := ca) (ad := ad) (vs := vs) (be := be) (de := de) (sz := sz) (ro := ro) (co := co) (mi := mi) (hd := hd) (df := dd) hn h0
  obtain ⟨r1, er1⟩ : ∃ z, z = roX n (lyT n (B 6) T) dd ro := ⟨_, rfl⟩
  rw [← er1] at hk2
  rw [← hd0, ← er1]
  refine ⟨absX (detX n (lyT n (B 6) T)), de2, (Int32.ofNat n), r1, co2, mi2, T2, ?_⟩
  refine PX2_sure (Nat.le_of_ble_eq_true rfl) ?_
  intro G hT hC hR
  refine mB hT 1 rfl ?_
  refine hC.1 _ [_] _ _ _ _ (c_isBasket_t (i := 2) (by decide)) rfl (Nat.le_of_ble_eq_true rfl) rfl ?_
  refine mB hT 2 rfl ?_
  refine hC.2.1 _ [_] _ _ _ _ (c_isBasket_t (i := 1) (by decide)) rfl (Nat.le_of_ble_eq_true rfl) rfl ?_
  refine mB hT 2 rfl ?_
  refine hC.2.2.1 _ [_] _ _ _ _ (c_isStuff_t hk) rfl (Nat.le_of_ble_eq_true rfl) rfl ?_
  refine mB hT 22 rfl ?_
  refine mNf (lv2 := [(4, .int 0), (0, .ref 0), (1, .int 2), (2, .int 1), (3, .int (Int32.ofNat k))]) (st2 := [.int (dd 0), .int 0, .ref 27]) rfl (by rw [hdd 0] <;> rfl) ?_
  refine mB hT 22 rfl ?_
  refine mNf (lv2 := [(4, .int 1), (0, .ref 0), (1, .int 2), (2, .int 1), (3, .int (Int32.ofNat k))]) (st2 := [.int (dd 1), .int 1, .ref 27]) rfl (by rw [hdd 1] <;> rfl) ?_
  refine mB hT 22 rfl ?_
  refine mNf (lv2 := [(4, .int 2), (0, .ref 0), (1, .int 2), (2, .int 1), (3, .int (Int32.ofNat k))]) (st2 := [.int (dd 2), .int 2, .ref 27]) rfl (by rw [hdd 2] <;> rfl) ?_
  refine mB hT 22 rfl ?_
  refine mNf (lv2 := [(4, .int 3), (0, .ref 0), (1, .int 2), (2, .int 1), (3, .int (Int32.ofNat k))]) (st2 := [.int (dd 3), .int 3, .ref 27]) rfl (by rw [hdd 3] <;> rfl) ?_
  refine mB hT 14 rfl ?_
  refine mWd (w2 := (XW (Int32.ofNat n) (Int32.ofNat vs) be de sz ro co mi T B hd (up (up (up (up df 0 (dd 0)) 1 (dd 1)) 2 (dd 2)) 3 (dd 3)))) rfl ?_
  refine mWd (w2 := (XW (Int32.ofNat n) (Int32.ofNat vs) be de sz ro co mi T B hd dd)) rfl ?_
  refine hC.2.2.2.1 _ 1 [_, _, _] _ _ _ _ _ (hk2) rfl rfl (Nat.le_of_ble_eq_true rfl) rfl ?_
  refine mB hT 7 rfl ?_
  refine hC.2.2.2.2 _ 1 [_, _, _] _ _ _ _ _ (c_sum_6 hn k 2 hk (by decide)) rfl rfl (Nat.le_of_ble_eq_true rfl) rfl ?_
  refine mB hT 3 rfl ?_
  refine mIf (fun h1 => ?_) (fun h1 => ?_)
  · refine mB hT 1 rfl ?_
    exact hR _ (by decide) _ _ _ (congrArg (fun z => [Value.int z]) (if_pos (lc_gt.mp h1)).symm) rfl
  · refine mB hT 2 rfl ?_
    exact hR _ (by decide) _ _ _ (congrArg (fun z => [Value.int z]) (if_neg (fun q => h1 (lc_gt.mpr q))).symm) rfl
set_option maxRecDepth 20000 in
theorem x_sure_B_2_2 {n vs : Nat} {be de : Int64} {sz : Int32} {ro co mi : Nat → Int64} {T : Nat → Nat → Int64} {B : Nat → Nat → Nat → Int32} {hd : Nat → Nat → Int32} {df : Nat → Int32} (hn : n ≤ 4) {k : Nat} (hk : k < 3) (h0 : detX n (lyT n (B 6) T) = 0) : ∃ (be2 de2 : Int64) (sz2 : Int32) (ro2 co2 mi2 : Nat → Int64) (T2 : Nat → Nat → Int64), KX2_sure l D ca ad [.ref 0, .int 2, .int 2, .int (Int32.ofNat k)] (XW (Int32.ofNat n) (Int32.ofNat vs) be de sz ro co mi T B hd df) (some (.int (-104))) (XW (Int32.ofNat n) (Int32.ofNat vs) be2 de2 sz2 ro2 co2 mi2 T2 B hd (fun j => hd 2 j - hd 2 j)) := by
  obtain ⟨dd, hd0⟩ : ∃ z : Nat → Int32, z = fun j => hd 2 j - hd 2 j := ⟨_, rfl⟩
  have hdd : ∀ j : Nat, dd j = hd 2 j - hd 2 j := fun j => by rw [hd0]
  obtain ⟨de2, mi2, T2, hk2⟩ := c_solve0_d (l := l) (D := D) (ca := ca) (ad := ad) (vs := vs) (be := be) (de := de) (sz := sz) (ro := ro) (co := co) (mi := mi) (hd := hd) (df := dd) hn h0
  rw [← hd0]
  refine ⟨be, de2, (Int32.ofNat n), ro, co, mi2, T2, ?_⟩
  refine PX2_sure (Nat.le_of_ble_eq_true rfl) ?_
  intro G hT hC hR
  refine mB hT 1 rfl ?_
  refine hC.1 _ [_] _ _ _ _ (c_isBasket_t (i := 2) (by decide)) rfl (Nat.le_of_ble_eq_true rfl) rfl ?_
  refine mB hT 2 rfl ?_
  refine hC.2.1 _ [_] _ _ _ _ (c_isBasket_t (i := 2) (by decide)) rfl (Nat.le_of_ble_eq_true rfl) rfl ?_
  refine mB hT 2 rfl ?_
  refine hC.2.2.1 _ [_] _ _ _ _ (c_isStuff_t hk) rfl (Nat.le_of_ble_eq_true rfl) rfl ?_
  refine mB hT 22 rfl ?_
  refine mNf (lv2 := [(4, .int 0), (0, .ref 0), (1, .int 2), (2, .int 2), (3, .int (Int32.ofNat k))]) (st2 := [.int (dd 0), .int 0, .ref 27]) rfl (by rw [hdd 0] <;> rfl) ?_
  refine mB hT 22 rfl ?_
  refine mNf (lv2 := [(4, .int 1), (0, .ref 0), (1, .int 2), (2, .int 2), (3, .int (Int32.ofNat k))]) (st2 := [.int (dd 1), .int 1, .ref 27]) rfl (by rw [hdd 1] <;> rfl) ?_
  refine mB hT 22 rfl ?_
  refine mNf (lv2 := [(4, .int 2), (0, .ref 0), (1, .int 2), (2, .int 2), (3, .int (Int32.ofNat k))]) (st2 := [.int (dd 2), .int 2, .ref 27]) rfl (by rw [hdd 2] <;> rfl) ?_
  refine mB hT 22 rfl ?_
  refine mNf (lv2 := [(4, .int 3), (0, .ref 0), (1, .int 2), (2, .int 2), (3, .int (Int32.ofNat k))]) (st2 := [.int (dd 3), .int 3, .ref 27]) rfl (by rw [hdd 3] <;> rfl) ?_
  refine mB hT 14 rfl ?_
  refine mWd (w2 := (XW (Int32.ofNat n) (Int32.ofNat vs) be de sz ro co mi T B hd (up (up (up (up df 0 (dd 0)) 1 (dd 1)) 2 (dd 2)) 3 (dd 3)))) rfl ?_
  refine mWd (w2 := (XW (Int32.ofNat n) (Int32.ofNat vs) be de sz ro co mi T B hd dd)) rfl ?_
  refine hC.2.2.2.1 _ 1 [_, _, _] _ _ _ _ _ (hk2) rfl rfl (Nat.le_of_ble_eq_true rfl) rfl ?_
  refine mB hT 2 rfl ?_
  exact hR _ (by decide) _ _ _ rfl rfl
set_option maxRecDepth 20000 in
theorem x_sure_2_2 {n vs : Nat} {be de : Int64} {sz : Int32} {ro co mi : Nat → Int64} {T : Nat → Nat → Int64} {B : Nat → Nat → Nat → Int32} {hd : Nat → Nat → Int32} {df : Nat → Int32} (hn : n ≤ 4) {k : Nat} (hk : k < 3) (h0 : ¬ detX n (lyT n (B 6) T) = 0) : ∃ (be2 de2 : Int64) (sz2 : Int32) (ro2 co2 mi2 : Nat → Int64) (T2 : Nat → Nat → Int64), KX2_sure l D ca ad [.ref 0, .int 2, .int 2, .int (Int32.ofNat k)] (XW (Int32.ofNat n) (Int32.ofNat vs) be de sz ro co mi T B hd df) (some (.int (if 0 < smX n (B 6) (roX n (lyT n (B 6) T) (fun j => hd 2 j - hd 2 j) ro) k 2 then 0 else 1))) (XW (Int32.ofNat n) (Int32.ofNat vs) be2 de2 sz2 ro2 co2 mi2 T2 B hd (fun j => hd 2 j - hd 2 j)) := by
  obtain ⟨dd, hd0⟩ : ∃ z : Nat → Int32, z = fun j => hd 2 j - hd 2 j := ⟨_, rfl⟩
  have hdd : ∀ j : Nat, dd j = hd 2 j - hd 2 j := fun j => by rw [hd0]
  obtain ⟨de2, co2, mi2, T2, hk2⟩ := c_solve1_d (l := l) (D := D) (ca := ca) (ad := ad) (vs := vs) (be := be) (de := de) (sz := sz) (ro := ro) (co := co) (mi := mi) (hd := hd) (df := dd) hn h0
  obtain ⟨r1, er1⟩ : ∃ z, z = roX n (lyT n (B 6) T) dd ro := ⟨_, rfl⟩
  rw [← er1] at hk2
  rw [← hd0, ← er1]
  refine ⟨absX (detX n (lyT n (B 6) T)), de2, (Int32.ofNat n), r1, co2, mi2, T2, ?_⟩
  refine PX2_sure (Nat.le_of_ble_eq_true rfl) ?_
  intro G hT hC hR
  refine mB hT 1 rfl ?_
  refine hC.1 _ [_] _ _ _ _ (c_isBasket_t (i := 2) (by decide)) rfl (Nat.le_of_ble_eq_true rfl) rfl ?_
  refine mB hT 2 rfl ?_
  refine hC.2.1 _ [_] _ _ _ _ (c_isBasket_t (i := 2) (by decide)) rfl (Nat.le_of_ble_eq_true rfl) rfl ?_
  refine mB hT 2 rfl ?_
  refine hC.2.2.1 _ [_] _ _ _ _ (c_isStuff_t hk) rfl (Nat.le_of_ble_eq_true rfl) rfl ?_
  refine mB hT 22 rfl ?_
  refine mNf (lv2 := [(4, .int 0), (0, .ref 0), (1, .int 2), (2, .int 2), (3, .int (Int32.ofNat k))]) (st2 := [.int (dd 0), .int 0, .ref 27]) rfl (by rw [hdd 0] <;> rfl) ?_
  refine mB hT 22 rfl ?_
  refine mNf (lv2 := [(4, .int 1), (0, .ref 0), (1, .int 2), (2, .int 2), (3, .int (Int32.ofNat k))]) (st2 := [.int (dd 1), .int 1, .ref 27]) rfl (by rw [hdd 1] <;> rfl) ?_
  refine mB hT 22 rfl ?_
  refine mNf (lv2 := [(4, .int 2), (0, .ref 0), (1, .int 2), (2, .int 2), (3, .int (Int32.ofNat k))]) (st2 := [.int (dd 2), .int 2, .ref 27]) rfl (by rw [hdd 2] <;> rfl) ?_
  refine mB hT 22 rfl ?_
  refine mNf (lv2 := [(4, .int 3), (0, .ref 0), (1, .int 2), (2, .int 2), (3, .int (Int32.ofNat k))]) (st2 := [.int (dd 3), .int 3, .ref 27]) rfl (by rw [hdd 3] <;> rfl) ?_
  refine mB hT 14 rfl ?_
  refine mWd (w2 := (XW (Int32.ofNat n) (Int32.ofNat vs) be de sz ro co mi T B hd (up (up (up (up df 0 (dd 0)) 1 (dd 1)) 2 (dd 2)) 3 (dd 3)))) rfl ?_
  refine mWd (w2 := (XW (Int32.ofNat n) (Int32.ofNat vs) be de sz ro co mi T B hd dd)) rfl ?_
  refine hC.2.2.2.1 _ 1 [_, _, _] _ _ _ _ _ (hk2) rfl rfl (Nat.le_of_ble_eq_true rfl) rfl ?_
  refine mB hT 7 rfl ?_
  refine hC.2.2.2.2 _ 1 [_, _, _] _ _ _ _ _ (c_sum_6 hn k 2 hk (by decide)) rfl rfl (Nat.le_of_ble_eq_true rfl) rfl ?_
  refine mB hT 3 rfl ?_
  refine mIf (fun h1 => ?_) (fun h1 => ?_)
  · refine mB hT 1 rfl ?_
    exact hR _ (by decide) _ _ _ (congrArg (fun z => [Value.int z]) (if_pos (lc_gt.mp h1)).symm) rfl
  · refine mB hT 2 rfl ?_
    exact hR _ (by decide) _ _ _ (congrArg (fun z => [Value.int z]) (if_neg (fun q => h1 (lc_gt.mpr q))).symm) rfl
set_option maxRecDepth 20000 in
theorem x_sure_B_2_3 {n vs : Nat} {be de : Int64} {sz : Int32} {ro co mi : Nat → Int64} {T : Nat → Nat → Int64} {B : Nat → Nat → Nat → Int32} {hd : Nat → Nat → Int32} {df : Nat → Int32} (hn : n ≤ 4) {k : Nat} (hk : k < 3) (h0 : detX n (lyT n (B 6) T) = 0) : ∃ (be2 de2 : Int64) (sz2 : Int32) (ro2 co2 mi2 : Nat → Int64) (T2 : Nat → Nat → Int64), KX2_sure l D ca ad [.ref 0, .int 2, .int 3, .int (Int32.ofNat k)] (XW (Int32.ofNat n) (Int32.ofNat vs) be de sz ro co mi T B hd df) (some (.int (-104))) (XW (Int32.ofNat n) (Int32.ofNat vs) be2 de2 sz2 ro2 co2 mi2 T2 B hd (fun j => hd 2 j - hd 3 j)) := by
  obtain ⟨dd, hd0⟩ : ∃ z : Nat → Int32, z = fun j => hd 2 j - hd 3 j := ⟨_, rfl⟩
  have hdd : ∀ j : Nat, dd j = hd 2 j - hd 3 j := fun j => by rw [hd0]
  obtain ⟨de2, mi2, T2, hk2⟩ := c_solve0_d (l := l) (D := D) (ca := ca) (ad := ad) (vs := vs) (be := be) (de := de) (sz := sz) (ro := ro) (co := co) (mi := mi) (hd := hd) (df := dd) hn h0
  rw [← hd0]
  refine ⟨be, de2, (Int32.ofNat n), ro, co, mi2, T2, ?_⟩
  refine PX2_sure (Nat.le_of_ble_eq_true rfl) ?_
  intro G hT hC hR
  refine mB hT 1 rfl ?_
  refine hC.1 _ [_] _ _ _ _ (c_isBasket_t (i := 2) (by decide)) rfl (Nat.le_of_ble_eq_true rfl) rfl ?_
  refine mB hT 2 rfl ?_
  refine hC.2.1 _ [_] _ _ _ _ (c_isBasket_t (i := 3) (by decide)) rfl (Nat.le_of_ble_eq_true rfl) rfl ?_
  refine mB hT 2 rfl ?_
  refine hC.2.2.1 _ [_] _ _ _ _ (c_isStuff_t hk) rfl (Nat.le_of_ble_eq_true rfl) rfl ?_
  refine mB hT 22 rfl ?_
  refine mNf (lv2 := [(4, .int 0), (0, .ref 0), (1, .int 2), (2, .int 3), (3, .int (Int32.ofNat k))]) (st2 := [.int (dd 0), .int 0, .ref 27]) rfl (by rw [hdd 0] <;> rfl) ?_
  refine mB hT 22 rfl ?_
  refine mNf (lv2 := [(4, .int 1), (0, .ref 0), (1, .int 2), (2, .int 3), (3, .int (Int32.ofNat k))]) (st2 := [.int (dd 1), .int 1, .ref 27]) rfl (by rw [hdd 1] <;> rfl) ?_
  refine mB hT 22 rfl ?_
  refine mNf (lv2 := [(4, .int 2), (0, .ref 0), (1, .int 2), (2, .int 3), (3, .int (Int32.ofNat k))]) (st2 := [.int (dd 2), .int 2, .ref 27]) rfl (by rw [hdd 2] <;> rfl) ?_
  refine mB hT 22 rfl ?_
  refine mNf (lv2 := [(4, .int 3), (0, .ref 0), (1, .int 2), (2, .int 3), (3, .int (Int32.ofNat k))]) (st2 := [.int (dd 3), .int 3, .ref 27]) rfl (by rw [hdd 3] <;> rfl) ?_
  refine mB hT 14 rfl ?_
  refine mWd (w2 := (XW (Int32.ofNat n) (Int32.ofNat vs) be de sz ro co mi T B hd (up (up (up (up df 0 (dd 0)) 1 (dd 1)) 2 (dd 2)) 3 (dd 3)))) rfl ?_
  refine mWd (w2 := (XW (Int32.ofNat n) (Int32.ofNat vs) be de sz ro co mi T B hd dd)) rfl ?_
  refine hC.2.2.2.1 _ 1 [_, _, _] _ _ _ _ _ (hk2) rfl rfl (Nat.le_of_ble_eq_true rfl) rfl ?_
  refine mB hT 2 rfl ?_
  exact hR _ (by decide) _ _ _ rfl rfl
set_option maxRecDepth 20000 in
theorem x_sure_2_3 {n vs : Nat} {be de : Int64} {sz : Int32} {ro co mi : Nat → Int64} {T : Nat → Nat → Int64} {B : Nat → Nat → Nat → Int32} {hd : Nat → Nat → Int32} {df : Nat → Int32} (hn : n ≤ 4) {k : Nat} (hk : k < 3) (h0 : ¬ detX n (lyT n (B 6) T) = 0) : ∃ (be2 de2 : Int64) (sz2 : Int32) (ro2 co2 mi2 : Nat → Int64) (T2 : Nat → Nat → Int64), KX2_sure l D ca ad [.ref 0, .int 2, .int 3, .int (Int32.ofNat k)] (XW (Int32.ofNat n) (Int32.ofNat vs) be de sz ro co mi T B hd df) (some (.int (if 0 < smX n (B 6) (roX n (lyT n (B 6) T) (fun j => hd 2 j - hd 3 j) ro) k 2 then 0 else 1))) (XW (Int32.ofNat n) (Int32.ofNat vs) be2 de2 sz2 ro2 co2 mi2 T2 B hd (fun j => hd 2 j - hd 3 j)) := by
  obtain ⟨dd, hd0⟩ : ∃ z : Nat → Int32, z = fun j => hd 2 j - hd 3 j := ⟨_, rfl⟩
  have hdd : ∀ j : Nat, dd j = hd 2 j - hd 3 j := fun j => by rw [hd0]
  obtain ⟨de2, co2, mi2, T2, hk2⟩ := c_solve1_d (l := l) (D := D) (ca := ca) (ad := ad) (vs := vs) (be := be) (de := de) (sz := sz) (ro := ro) (co := co) (mi := mi) (hd := hd) (df := dd) hn h0
  obtain ⟨r1, er1⟩ : ∃ z, z = roX n (lyT n (B 6) T) dd ro := ⟨_, rfl⟩
  rw [← er1] at hk2
  rw [← hd0, ← er1]
  refine ⟨absX (detX n (lyT n (B 6) T)), de2, (Int32.ofNat n), r1, co2, mi2, T2, ?_⟩
  refine PX2_sure (Nat.le_of_ble_eq_true rfl) ?_
  intro G hT hC hR
  refine mB hT 1 rfl ?_
  refine hC.1 _ [_] _ _ _ _ (c_isBasket_t (i := 2) (by decide)) rfl (Nat.le_of_ble_eq_true rfl) rfl ?_
  refine mB hT 2 rfl ?_
  refine hC.2.1 _ [_] _ _ _ _ (c_isBasket_t (i := 3) (by decide)) rfl (Nat.le_of_ble_eq_true rfl) rfl ?_
  refine mB hT 2 rfl ?_
  refine hC.2.2.1 _ [_] _ _ _ _ (c_isStuff_t hk) rfl (Nat.le_of_ble_eq_true rfl) rfl ?_
  refine mB hT 22 rfl ?_
  refine mNf (lv2 := [(4, .int 0), (0, .ref 0), (1, .int 2), (2, .int 3), (3, .int (Int32.ofNat k))]) (st2 := [.int (dd 0), .int 0, .ref 27]) rfl (by rw [hdd 0] <;> rfl) ?_
  refine mB hT 22 rfl ?_
  refine mNf (lv2 := [(4, .int 1), (0, .ref 0), (1, .int 2), (2, .int 3), (3, .int (Int32.ofNat k))]) (st2 := [.int (dd 1), .int 1, .ref 27]) rfl (by rw [hdd 1] <;> rfl) ?_
  refine mB hT 22 rfl ?_
  refine mNf (lv2 := [(4, .int 2), (0, .ref 0), (1, .int 2), (2, .int 3), (3, .int (Int32.ofNat k))]) (st2 := [.int (dd 2), .int 2, .ref 27]) rfl (by rw [hdd 2] <;> rfl) ?_
  refine mB hT 22 rfl ?_
  refine mNf (lv2 := [(4, .int 3), (0, .ref 0), (1, .int 2), (2, .int 3), (3, .int (Int32.ofNat k))]) (st2 := [.int (dd 3), .int 3, .ref 27]) rfl (by rw [hdd 3] <;> rfl) ?_
  refine mB hT 14 rfl ?_
  refine mWd (w2 := (XW (Int32.ofNat n) (Int32.ofNat vs) be de sz ro co mi T B hd (up (up (up (up df 0 (dd 0)) 1 (dd 1)) 2 (dd 2)) 3 (dd 3)))) rfl ?_
  refine mWd (w2 := (XW (Int32.ofNat n) (Int32.ofNat vs) be de sz ro co mi T B hd dd)) rfl ?_
  refine hC.2.2.2.1 _ 1 [_, _, _] _ _ _ _ _ (hk2) rfl rfl (Nat.le_of_ble_eq_true rfl) rfl ?_
  refine mB hT 7 rfl ?_
  refine hC.2.2.2.2 _ 1 [_, _, _] _ _ _ _ _ (c_sum_6 hn k 2 hk (by decide)) rfl rfl (Nat.le_of_ble_eq_true rfl) rfl ?_
  refine mB hT 3 rfl ?_
  refine mIf (fun h1 => ?_) (fun h1 => ?_)
  · refine mB hT 1 rfl ?_
    exact hR _ (by decide) _ _ _ (congrArg (fun z => [Value.int z]) (if_pos (lc_gt.mp h1)).symm) rfl
  · refine mB hT 2 rfl ?_
    exact hR _ (by decide) _ _ _ (congrArg (fun z => [Value.int z]) (if_neg (fun q => h1 (lc_gt.mpr q))).symm) rfl
set_option maxRecDepth 20000 in
theorem x_sure_B_3_0 {n vs : Nat} {be de : Int64} {sz : Int32} {ro co mi : Nat → Int64} {T : Nat → Nat → Int64} {B : Nat → Nat → Nat → Int32} {hd : Nat → Nat → Int32} {df : Nat → Int32} (hn : n ≤ 4) {k : Nat} (hk : k < 3) (h0 : detX n (lyT n (B 6) T) = 0) : ∃ (be2 de2 : Int64) (sz2 : Int32) (ro2 co2 mi2 : Nat → Int64) (T2 : Nat → Nat → Int64), KX2_sure l D ca ad [.ref 0, .int 3, .int 0, .int (Int32.ofNat k)] (XW (Int32.ofNat n) (Int32.ofNat vs) be de sz ro co mi T B hd df) (some (.int (-104))) (XW (Int32.ofNat n) (Int32.ofNat vs) be2 de2 sz2 ro2 co2 mi2 T2 B hd (fun j => hd 3 j - hd 0 j)) := by
  obtain ⟨dd, hd0⟩ : ∃ z : Nat → Int32, z = fun j => hd 3 j - hd 0 j := ⟨_, rfl⟩
  have hdd : ∀ j : Nat, dd j = hd 3 j - hd 0 j := fun j => by rw [hd0]
  obtain ⟨de2, mi2, T2, hk2⟩ := c_solve0_d (l := l) (D := D) (ca := ca) (ad := ad) (vs := vs) (be := be) (de := de) (sz := sz) (ro := ro) (co := co) (mi := mi) (hd := hd) (df := dd) hn h0
  rw [← hd0]
  refine ⟨be, de2, (Int32.ofNat n), ro, co, mi2, T2, ?_⟩
  refine PX2_sure (Nat.le_of_ble_eq_true rfl) ?_
  intro G hT hC hR
  refine mB hT 1 rfl ?_
  refine hC.1 _ [_] _ _ _ _ (c_isBasket_t (i := 3) (by decide)) rfl (Nat.le_of_ble_eq_true rfl) rfl ?_
  refine mB hT 2 rfl ?_
  refine hC.2.1 _ [_] _ _ _ _ (c_isBasket_t (i := 0) (by decide)) rfl (Nat.le_of_ble_eq_true rfl) rfl ?_
  refine mB hT 2 rfl ?_
  refine hC.2.2.1 _ [_] _ _ _ _ (c_isStuff_t hk) rfl (Nat.le_of_ble_eq_true rfl) rfl ?_
  refine mB hT 22 rfl ?_
  refine mNf (lv2 := [(4, .int 0), (0, .ref 0), (1, .int 3), (2, .int 0), (3, .int (Int32.ofNat k))]) (st2 := [.int (dd 0), .int 0, .ref 27]) rfl (by rw [hdd 0] <;> rfl) ?_
  refine mB hT 22 rfl ?_
  refine mNf (lv2 := [(4, .int 1), (0, .ref 0), (1, .int 3), (2, .int 0), (3, .int (Int32.ofNat k))]) (st2 := [.int (dd 1), .int 1, .ref 27]) rfl (by rw [hdd 1] <;> rfl) ?_
  refine mB hT 22 rfl ?_
  refine mNf (lv2 := [(4, .int 2), (0, .ref 0), (1, .int 3), (2, .int 0), (3, .int (Int32.ofNat k))]) (st2 := [.int (dd 2), .int 2, .ref 27]) rfl (by rw [hdd 2] <;> rfl) ?_
  refine mB hT 22 rfl ?_
  refine mNf (lv2 := [(4, .int 3), (0, .ref 0), (1, .int 3), (2, .int 0), (3, .int (Int32.ofNat k))]) (st2 := [.int (dd 3), .int 3, .ref 27]) rfl (by rw [hdd 3] <;> rfl) ?_
  refine mB hT 14 rfl ?_
  refine mWd (w2 := (XW (Int32.ofNat n) (Int32.ofNat vs) be de sz ro co mi T B hd (up (up (up (up df 0 (dd 0)) 1 (dd 1)) 2 (dd 2)) 3 (dd 3)))) rfl ?_
  refine mWd (w2 := (XW (Int32.ofNat n) (Int32.ofNat vs) be de sz ro co mi T B hd dd)) rfl ?_
  refine hC.2.2.2.1 _ 1 [_, _, _] _ _ _ _ _ (hk2) rfl rfl (Nat.le_of_ble_eq_true rfl) rfl ?_
  refine mB hT 2 rfl ?_
  exact hR _ (by decide) _ _ _ rfl rfl
set_option maxRecDepth 20000 in
theorem x_sure_3_0 {n vs : Nat} {be de : Int64} {sz : Int32} {ro co mi : Nat → Int64} {T : Nat → Nat → Int64} {B : Nat → Nat → Nat → Int32} {hd : Nat → Nat → Int32} {df : Nat → Int32} (hn : n ≤ 4) {k : Nat} (hk : k < 3) (h0 : ¬ detX n (lyT n (B 6) T) = 0) : ∃ (be2 de2 : Int64) (sz2 : Int32) (ro2 co2 mi2 : Nat → Int64) (T2 : Nat → Nat → Int64), KX2_sure l D ca ad [.ref 0, .int 3, .int 0, .int (Int32.ofNat k)] (XW (Int32.ofNat n) (Int32.ofNat vs) be de sz ro co mi T B hd df) (some (.int (if 0 < smX n (B 6) (roX n (lyT n (B 6) T) (fun j => hd 3 j - hd 0 j) ro) k 2 then 0 else 1))) (XW (Int32.ofNat n) (Int32.ofNat vs) be2 de2 sz2 ro2 co2 mi2 T2 B hd (fun j => hd 3 j - hd 0 j)) := by
  obtain ⟨dd, hd0⟩ : ∃ z : Nat → Int32, z = fun j => hd 3 j - hd 0 j := ⟨_, rfl⟩
  have hdd : ∀ j : Nat, dd j = hd 3 j - hd 0 j := fun j => by rw [hd0]
  obtain ⟨de2, co2, mi2, T2, hk2⟩ := c_solve1_d (l := l) (D := D) (ca := ca) (ad := ad) (vs := vs) (be := be) (de := de) (sz := sz) (ro := ro) (co := co) (mi := mi) (hd := hd) (df := dd) hn h0
  obtain ⟨r1, er1⟩ : ∃ z, z = roX n (lyT n (B 6) T) dd ro := ⟨_, rfl⟩
  rw [← er1] at hk2
  rw [← hd0, ← er1]
  refine ⟨absX (detX n (lyT n (B 6) T)), de2, (Int32.ofNat n), r1, co2, mi2, T2, ?_⟩
  refine PX2_sure (Nat.le_of_ble_eq_true rfl) ?_
  intro G hT hC hR
  refine mB hT 1 rfl ?_
  refine hC.1 _ [_] _ _ _ _ (c_isBasket_t (i := 3) (by decide)) rfl (Nat.le_of_ble_eq_true rfl) rfl ?_
  refine mB hT 2 rfl ?_
  refine hC.2.1 _ [_] _ _ _ _ (c_isBasket_t (i := 0) (by decide)) rfl (Nat.le_of_ble_eq_true rfl) rfl ?_
  refine mB hT 2 rfl ?_
  refine hC.2.2.1 _ [_] _ _ _ _ (c_isStuff_t hk) rfl (Nat.le_of_ble_eq_true rfl) rfl ?_
  refine mB hT 22 rfl ?_
  refine mNf (lv2 := [(4, .int 0), (0, .ref 0), (1, .int 3), (2, .int 0), (3, .int (Int32.ofNat k))]) (st2 := [.int (dd 0), .int 0, .ref 27]) rfl (by rw [hdd 0] <;> rfl) ?_
  refine mB hT 22 rfl ?_
  refine mNf (lv2 := [(4, .int 1), (0, .ref 0), (1, .int 3), (2, .int 0), (3, .int (Int32.ofNat k))]) (st2 := [.int (dd 1), .int 1, .ref 27]) rfl (by rw [hdd 1] <;> rfl) ?_
  refine mB hT 22 rfl ?_
  refine mNf (lv2 := [(4, .int 2), (0, .ref 0), (1, .int 3), (2, .int 0), (3, .int (Int32.ofNat k))]) (st2 := [.int (dd 2), .int 2, .ref 27]) rfl (by rw [hdd 2] <;> rfl) ?_
  refine mB hT 22 rfl ?_
  refine mNf (lv2 := [(4, .int 3), (0, .ref 0), (1, .int 3), (2, .int 0), (3, .int (Int32.ofNat k))]) (st2 := [.int (dd 3), .int 3, .ref 27]) rfl (by rw [hdd 3] <;> rfl) ?_
  refine mB hT 14 rfl ?_
  refine mWd (w2 := (XW (Int32.ofNat n) (Int32.ofNat vs) be de sz ro co mi T B hd (up (up (up (up df 0 (dd 0)) 1 (dd 1)) 2 (dd 2)) 3 (dd 3)))) rfl ?_
  refine mWd (w2 := (XW (Int32.ofNat n) (Int32.ofNat vs) be de sz ro co mi T B hd dd)) rfl ?_
  refine hC.2.2.2.1 _ 1 [_, _, _] _ _ _ _ _ (hk2) rfl rfl (Nat.le_of_ble_eq_true rfl) rfl ?_
  refine mB hT 7 rfl ?_
  refine hC.2.2.2.2 _ 1 [_, _, _] _ _ _ _ _ (c_sum_6 hn k 2 hk (by decide)) rfl rfl (Nat.le_of_ble_eq_true rfl) rfl ?_
  refine mB hT 3 rfl ?_
  refine mIf (fun h1 => ?_) (fun h1 => ?_)
  · refine mB hT 1 rfl ?_
    exact hR _ (by decide) _ _ _ (congrArg (fun z => [Value.int z]) (if_pos (lc_gt.mp h1)).symm) rfl
  · refine mB hT 2 rfl ?_
    exact hR _ (by decide) _ _ _ (congrArg (fun z => [Value.int z]) (if_neg (fun q => h1 (lc_gt.mpr q))).symm) rfl
set_option maxRecDepth 20000 in
theorem x_sure_B_3_1 {n vs : Nat} {be de : Int64} {sz : Int32} {ro co mi : Nat → Int64} {T : Nat → Nat → Int64} {B : Nat → Nat → Nat → Int32} {hd : Nat → Nat → Int32} {df : Nat → Int32} (hn : n ≤ 4) {k : Nat} (hk : k < 3) (h0 : detX n (lyT n (B 6) T) = 0) : ∃ (be2 de2 : Int64) (sz2 : Int32) (ro2 co2 mi2 : Nat → Int64) (T2 : Nat → Nat → Int64), KX2_sure l D ca ad [.ref 0, .int 3, .int 1, .int (Int32.ofNat k)] (XW (Int32.ofNat n) (Int32.ofNat vs) be de sz ro co mi T B hd df) (some (.int (-104))) (XW (Int32.ofNat n) (Int32.ofNat vs) be2 de2 sz2 ro2 co2 mi2 T2 B hd (fun j => hd 3 j - hd 1 j)) := by
  obtain ⟨dd, hd0⟩ : ∃ z : Nat → Int32, z = fun j => hd 3 j - hd 1 j := ⟨_, rfl⟩
  have hdd : ∀ j : Nat, dd j = hd 3 j - hd 1 j := fun j => by rw [hd0]
  obtain ⟨de2, mi2, T2, hk2⟩ := c_solve0_d (l := l) (D := D) (ca := ca) (ad := ad) (vs := vs) (be := be) (de := de) (sz := sz) (ro := ro) (co := co) (mi := mi) (hd := hd) (df := dd) hn h0
  rw [← hd0]
  refine ⟨be, de2, (Int32.ofNat n), ro, co, mi2, T2, ?_⟩
  refine PX2_sure (Nat.le_of_ble_eq_true rfl) ?_
  intro G hT hC hR
  refine mB hT 1 rfl ?_
  refine hC.1 _ [_] _ _ _ _ (c_isBasket_t (i := 3) (by decide)) rfl (Nat.le_of_ble_eq_true rfl) rfl ?_
  refine mB hT 2 rfl ?_
  refine hC.2.1 _ [_] _ _ _ _ (c_isBasket_t (i := 1) (by decide)) rfl (Nat.le_of_ble_eq_true rfl) rfl ?_
  refine mB hT 2 rfl ?_
  refine hC.2.2.1 _ [_] _ _ _ _ (c_isStuff_t hk) rfl (Nat.le_of_ble_eq_true rfl) rfl ?_
  refine mB hT 22 rfl ?_
  refine mNf (lv2 := [(4, .int 0), (0, .ref 0), (1, .int 3), (2, .int 1), (3, .int (Int32.ofNat k))]) (st2 := [.int (dd 0), .int 0, .ref 27]) rfl (by rw [hdd 0] <;> rfl) ?_
  refine mB hT 22 rfl ?_
  refine mNf (lv2 := [(4, .int 1), (0, .ref 0), (1, .int 3), (2, .int 1), (3, .int (Int32.ofNat k))]) (st2 := [.int (dd 1), .int 1, .ref 27]) rfl (by rw [hdd 1] <;> rfl) ?_
  refine mB hT 22 rfl ?_
  refine mNf (lv2 := [(4, .int 2), (0, .ref 0), (1, .int 3), (2, .int 1), (3, .int (Int32.ofNat k))]) (st2 := [.int (dd 2), .int 2, .ref 27]) rfl (by rw [hdd 2] <;> rfl) ?_
  refine mB hT 22 rfl ?_
  refine mNf (lv2 := [(4, .int 3), (0, .ref 0), (1, .int 3), (2, .int 1), (3, .int (Int32.ofNat k))]) (st2 := [.int (dd 3), .int 3, .ref 27]) rfl (by rw [hdd 3] <;> rfl) ?_
  refine mB hT 14 rfl ?_
  refine mWd (w2 := (XW (Int32.ofNat n) (Int32.ofNat vs) be de sz ro co mi T B hd (up (up (up (up df 0 (dd 0)) 1 (dd 1)) 2 (dd 2)) 3 (dd 3)))) rfl ?_
  refine mWd (w2 := (XW (Int32.ofNat n) (Int32.ofNat vs) be de sz ro co mi T B hd dd)) rfl ?_
  refine hC.2.2.2.1 _ 1 [_, _, _] _ _ _ _ _ (hk2) rfl rfl (Nat.le_of_ble_eq_true rfl) rfl ?_
  refine mB hT 2 rfl ?_
  exact hR _ (by decide) _ _ _ rfl rfl
set_option maxRecDepth 20000 in
theorem x_sure_3_1 {n vs : Nat} {be de : Int64} {sz : Int32} {ro co mi : Nat → Int64} {T : Nat → Nat → Int64} {B : Nat → Nat → Nat → Int32} {hd : Nat → Nat → Int32} {df : Nat → Int32} (hn : n ≤ 4) {k : Nat} (hk : k < 3) (h0 : ¬ detX n (lyT n (B 6) T) = 0) : ∃ (be2 de2 : Int64) (sz2 : Int32) (ro2 co2 mi2 : Nat → Int64) (T2 : Nat → Nat → Int64), KX2_sure l D ca ad [.ref 0, .int 3, .int 1, .int (Int32.ofNat k)] (XW (Int32.ofNat n) (Int32.ofNat vs) be de sz ro co mi T B hd df) (some (.int (if 0 < smX n (B 6) (roX n (lyT n (B 6) T) (fun j => hd 3 j - hd 1 j) ro) k 2 then 0 else 1))) (XW (Int32.ofNat n) (Int32.ofNat vs) be2 de2 sz2 ro2 co2 mi2 T2 B hd (fun j => hd 3 j - hd 1 j)) := by
  obtain ⟨dd, hd0⟩ : ∃ z : Nat → Int32, z = fun j => hd 3 j - hd 1 j := ⟨_, rfl⟩
  have hdd : ∀ j : Nat, dd j = hd 3 j - hd 1 j := fun j => by rw [hd0]
  obtain ⟨de2, co2, mi2, T2, hk2⟩ := c_solve1_d (l := l) (D := D) (ca := ca) (ad := ad) (vs := vs) (be := be) (de := de) (sz := sz) (ro := ro) (co := co) (mi := mi) (hd := hd) (df := dd) hn h0
  obtain ⟨r1, er1⟩ : ∃ z, z = roX n (lyT n (B 6) T) dd ro := ⟨_, rfl⟩
  rw [← er1] at hk2
  rw [← hd0, ← er1]
  refine ⟨absX (detX n (lyT n (B 6) T)), de2, (Int32.ofNat n), r1, co2, mi2, T2, ?_⟩
  refine PX2_sure (Nat.le_of_ble_eq_true rfl) ?_
  intro G hT hC hR
  refine mB hT 1 rfl ?_
  refine hC.1 _ [_] _ _ _ _ (c_isBasket_t (i := 3) (by decide)) rfl (Nat.le_of_ble_eq_true rfl) rfl ?_
  refine mB hT 2 rfl ?_
  refine hC.2.1 _ [_] _ _ _ _ (c_isBasket_t (i := 1) (by decide)) rfl (Nat.le_of_ble_eq_true rfl) rfl ?_
  refine mB hT 2 rfl ?_
  refine hC.2.2.1 _ [_] _ _ _ _ (c_isStuff_t hk) rfl (Nat.le_of_ble_eq_true rfl) rfl ?_
  refine mB hT 22 rfl ?_
  refine mNf (lv2 := [(4, .int 0), (0, .ref 0), (1, .int 3), (2, .int 1), (3, .int (Int32.ofNat k))]) (st2 := [.int (dd 0), .int 0, .ref 27]) rfl (by rw [hdd 0] <;> rfl) ?_
  refine mB hT 22 rfl ?_
  refine mNf (lv2 := [(4, .int 1), (0, .ref 0), (1, .int 3), (2, .int 1), (3, .int (Int32.ofNat k))]) (st2 := [.int (dd 1), .int 1, .ref 27]) rfl (by rw [hdd 1] <;> rfl) ?_
  refine mB hT 22 rfl ?_
  refine mNf (lv2 := [(4, .int 2), (0, .ref 0), (1, .int 3), (2, .int 1), (3, .int (Int32.ofNat k))]) (st2 := [.int (dd 2), .int 2, .ref 27]) rfl (by rw [hdd 2] <;> rfl) ?_
  refine mB hT 22 rfl ?_
  refine mNf (lv2 := [(4, .int 3), (0, .ref 0), (1, .int 3), (2, .int 1), (3, .int (Int32.ofNat k))]) (st2 := [.int (dd 3), .int 3, .ref 27]) rfl (by rw [hdd 3] <;> rfl) ?_
  refine mB hT 14 rfl ?_
  refine mWd (w2 := (XW (Int32.ofNat n) (Int32.ofNat vs) be de sz ro co mi T B hd (up (up (up (up df 0 (dd 0)) 1 (dd 1)) 2 (dd 2)) 3 (dd 3)))) rfl ?_
  refine mWd (w2 := (XW (Int32.ofNat n) (Int32.ofNat vs) be de sz ro co mi T B hd dd)) rfl ?_
  refine hC.2.2.2.1 _ 1 [_, _, _] _ _ _ _ _ (hk2) rfl rfl (Nat.le_of_ble_eq_true rfl) rfl ?_
  refine mB hT 7 rfl ?_
  refine hC.2.2.2.2 _ 1 [_, _, _] _ _ _ _ _ (c_sum_6 hn k 2 hk (by decide)) rfl rfl (Nat.le_of_ble_eq_true rfl) rfl ?_
  refine mB hT 3 rfl ?_
  refine mIf (fun h1 => ?_) (fun h1 => ?_)
  · refine mB hT 1 rfl ?_
    exact hR _ (by decide) _ _ _ (congrArg (fun z => [Value.int z]) (if_pos (lc_gt.mp h1)).symm) rfl
  · refine mB hT 2 rfl ?_
    exact hR _ (by decide) _ _ _ (congrArg (fun z => [Value.int z]) (if_neg (fun q => h1 (lc_gt.mpr q))).symm) rfl
set_option maxRecDepth 20000 in
theorem x_sure_B_3_2 {n vs : Nat} {be de : Int64} {sz : Int32} {ro co mi : Nat → Int64} {T : Nat → Nat → Int64} {B : Nat → Nat → Nat → Int32} {hd : Nat → Nat → Int32} {df : Nat → Int32} (hn : n ≤ 4) {k : Nat} (hk : k < 3) (h0 : detX n (lyT n (B 6) T) = 0) : ∃ (be2 de2 : Int64) (sz2 : Int32) (ro2 co2 mi2 : Nat → Int64) (T2 : Nat → Nat → Int64), KX2_sure l D ca ad [.ref 0, .int 3, .int 2, .int (Int32.ofNat k)] (XW (Int32.ofNat n) (Int32.ofNat vs) be de sz ro co mi T B hd df) (some (.int (-104))) (XW (Int32.ofNat n) (Int32.ofNat vs) be2 de2 sz2 ro2 co2 mi2 T2 B hd (fun j => hd 3 j - hd 2 j)) := by
  obtain ⟨dd, hd0⟩ : ∃ z : Nat → Int32, z = fun j => hd 3 j - hd 2 j := ⟨_, rfl⟩
  have hdd : ∀ j : Nat, dd j = hd 3 j - hd 2 j := fun j => by rw [hd0]
  obtain ⟨de2, mi2, T2, hk2⟩ := c_solve0_d (l := l) (D := D) (ca := ca) (ad := ad) (vs := vs) (be := be) (de := de) (sz := sz) (ro := ro) (co := co) (mi := mi) (hd := hd) (df := dd) hn h0
  rw [← hd0]
  refine ⟨be, de2, (Int32.ofNat n), ro, co, mi2, T2, ?_⟩
  refine PX2_sure (Nat.le_of_ble_eq_true rfl) ?_
  intro G hT hC hR
  refine mB hT 1 rfl ?_
  refine hC.1 _ [_] _ _ _ _ (c_isBasket_t (i := 3) (by decide)) rfl (Nat.le_of_ble_eq_true rfl) rfl ?_
  refine mB hT 2 rfl ?_
  refine hC.2.1 _ [_] _ _ _ _ (c_isBasket_t (i := 2) (by decide)) rfl (Nat.le_of_ble_eq_true rfl) rfl ?_
  refine mB hT 2 rfl ?_
  refine hC.2.2.1 _ [_] _ _ _ _ (c_isStuff_t hk) rfl (Nat.le_of_ble_eq_true rfl) rfl ?_
  refine mB hT 22 rfl ?_
  refine mNf (lv2 := [(4, .int 0), (0, .ref 0), (1, .int 3), (2, .int 2), (3, .int (Int32.ofNat k))]) (st2 := [.int (dd 0), .int 0, .ref 27]) rfl (by rw [hdd 0] <;> rfl) ?_
  refine mB hT 22 rfl ?_
  refine mNf (lv2 := [(4, .int 1), (0, .ref 0), (1, .int 3), (2, .int 2), (3, .int (Int32.ofNat k))]) (st2 := [.int (dd 1), .int 1, .ref 27]) rfl (by rw [hdd 1] <;> rfl) ?_
  refine mB hT 22 rfl ?_
  refine mNf (lv2 := [(4, .int 2), (0, .ref 0), (1, .int 3), (2, .int 2), (3, .int (Int32.ofNat k))]) (st2 := [.int (dd 2), .int 2, .ref 27]) rfl (by rw [hdd 2] <;> rfl) ?_
  refine mB hT 22 rfl ?_
  refine mNf (lv2 := [(4, .int 3), (0, .ref 0), (1, .int 3), (2, .int 2), (3, .int (Int32.ofNat k))]) (st2 := [.int (dd 3), .int 3, .ref 27]) rfl (by rw [hdd 3] <;> rfl) ?_
  refine mB hT 14 rfl ?_
  refine mWd (w2 := (XW (Int32.ofNat n) (Int32.ofNat vs) be de sz ro co mi T B hd (up (up (up (up df 0 (dd 0)) 1 (dd 1)) 2 (dd 2)) 3 (dd 3)))) rfl ?_
  refine mWd (w2 := (XW (Int32.ofNat n) (Int32.ofNat vs) be de sz ro co mi T B hd dd)) rfl ?_
  refine hC.2.2.2.1 _ 1 [_, _, _] _ _ _ _ _ (hk2) rfl rfl (Nat.le_of_ble_eq_true rfl) rfl ?_
  refine mB hT 2 rfl ?_
  exact hR _ (by decide) _ _ _ rfl rfl
set_option maxRecDepth 20000 in
theorem x_sure_3_2 {n vs : Nat} {be de : Int64} {sz : Int32} {ro co mi : Nat → Int64} {T : Nat → Nat → Int64} {B : Nat → Nat → Nat → Int32} {hd : Nat → Nat → Int32} {df : Nat → Int32} (hn : n ≤ 4) {k : Nat} (hk : k < 3) (h0 : ¬ detX n (lyT n (B 6) T) = 0) : ∃ (be2 de2 : Int64) (sz2 : Int32) (ro2 co2 mi2 : Nat → Int64) (T2 : Nat → Nat → Int64), KX2_sure l D ca ad [.ref 0, .int 3, .int 2, .int (Int32.ofNat k)] (XW (Int32.ofNat n) (Int32.ofNat vs) be de sz ro co mi T B hd df) (some (.int (if 0 < smX n (B 6) (roX n (lyT n (B 6) T) (fun j => hd 3 j - hd 2 j) ro) k 2 then 0 else 1))) (XW (Int32.ofNat n) (Int32.ofNat vs) be2 de2 sz2 ro2 co2 mi2 T2 B hd (fun j => hd 3 j - hd 2 j)) := by
  obtain ⟨dd, hd0⟩ : ∃ z : Nat → Int32, z = fun j => hd 3 j - hd 2 j := ⟨_, rfl⟩
  have hdd : ∀ j : Nat, dd j = hd 3 j - hd 2 j := fun j => by rw [hd0]
  obtain ⟨de2, co2, mi2, T2, hk2⟩ := c_solve1_d (l := l) (D := D) (ca := ca) (ad := ad) (vs := vs) (be := be) (de := de) (sz := sz) (ro := ro) (co := co) (mi := mi) (hd := hd) (df := dd) hn h0
  obtain ⟨r1, er1⟩ : ∃ z, z = roX n (lyT n (B 6) T) dd ro := ⟨_, rfl⟩
  rw [← er1] at hk2
  rw [← hd0, ← er1]
  refine ⟨absX (detX n (lyT n (B 6) T)), de2, (Int32.ofNat n), r1, co2, mi2, T2, ?_⟩
  refine PX2_sure (Nat.le_of_ble_eq_true rfl) ?_
  intro G hT hC hR
  refine mB hT 1 rfl ?_
  refine hC.1 _ [_] _ _ _ _ (c_isBasket_t (i := 3) (by decide)) rfl (Nat.le_of_ble_eq_true rfl) rfl ?_
  refine mB hT 2 rfl ?_
  refine hC.2.1 _ [_] _ _ _ _ (c_isBasket_t (i := 2) (by decide)) rfl (Nat.le_of_ble_eq_true rfl) rfl ?_
  refine mB hT 2 rfl ?_
  refine hC.2.2.1 _ [_] _ _ _ _ (c_isStuff_t hk) rfl (Nat.le_of_ble_eq_true rfl) rfl ?_
  refine mB hT 22 rfl ?_
  refine mNf (lv2 := [(4, .int 0), (0, .ref 0), (1, .int 3), (2, .int 2), (3, .int (Int32.ofNat k))]) (st2 := [.int (dd 0), .int 0, .ref 27]) rfl (by rw [hdd 0] <;> rfl) ?_
  refine mB hT 22 rfl ?_
  refine mNf (lv2 := [(4, .int 1), (0, .ref 0), (1, .int 3), (2, .int 2), (3, .int (Int32.ofNat k))]) (st2 := [.int (dd 1), .int 1, .ref 27]) rfl (by rw [hdd 1] <;> rfl) ?_
  refine mB hT 22 rfl ?_
  refine mNf (lv2 := [(4, .int 2), (0, .ref 0), (1, .int 3), (2, .int 2), (3, .int (Int32.ofNat k))]) (st2 := [.int (dd 2), .int 2, .ref 27]) rfl (by rw [hdd 2] <;> rfl) ?_
  refine mB hT 22 rfl ?_
  refine mNf (lv2 := [(4, .int 3), (0, .ref 0), (1, .int 3), (2, .int 2), (3, .int (Int32.ofNat k))]) (st2 := [.int (dd 3), .int 3, .ref 27]) rfl (by rw [hdd 3] <;> rfl) ?_
  refine mB hT 14 rfl ?_
  refine mWd (w2 := (XW (Int32.ofNat n) (Int32.ofNat vs) be de sz ro co mi T B hd (up (up (up (up df 0 (dd 0)) 1 (dd 1)) 2 (dd 2)) 3 (dd 3)))) rfl ?_
  refine mWd (w2 := (XW (Int32.ofNat n) (Int32.ofNat vs) be de sz ro co mi T B hd dd)) rfl ?_
  refine hC.2.2.2.1 _ 1 [_, _, _] _ _ _ _ _ (hk2) rfl rfl (Nat.le_of_ble_eq_true rfl) rfl ?_
  refine mB hT 7 rfl ?_
  refine hC.2.2.2.2 _ 1 [_, _, _] _ _ _ _ _ (c_sum_6 hn k 2 hk (by decide)) rfl rfl (Nat.le_of_ble_eq_true rfl) rfl ?_
  refine mB hT 3 rfl ?_
  refine mIf (fun h1 => ?_) (fun h1 => ?_)
  · refine mB hT 1 rfl ?_
    exact hR _ (by decide) _ _ _ (congrArg (fun z => [Value.int z]) (if_pos (lc_gt.mp h1)).symm) rfl
  · refine mB hT 2 rfl ?_
    exact hR _ (by decide) _ _ _ (congrArg (fun z => [Value.int z]) (if_neg (fun q => h1 (lc_gt.mpr q))).symm) rfl
set_option maxRecDepth 20000 in
theorem x_sure_B_3_3 {n vs : Nat} {be de : Int64} {sz : Int32} {ro co mi : Nat → Int64} {T : Nat → Nat → Int64} {B : Nat → Nat → Nat → Int32} {hd : Nat → Nat → Int32} {df : Nat → Int32} (hn : n ≤ 4) {k : Nat} (hk : k < 3) (h0 : detX n (lyT n (B 6) T) = 0) : ∃ (be2 de2 : Int64) (sz2 : Int32) (ro2 co2 mi2 : Nat → Int64) (T2 : Nat → Nat → Int64), KX2_sure l D ca ad [.ref 0, .int 3, .int 3, .int (Int32.ofNat k)] (XW (Int32.ofNat n) (Int32.ofNat vs) be de sz ro co mi T B hd df) (some (.int (-104))) (XW (Int32.ofNat n) (Int32.ofNat vs) be2 de2 sz2 ro2 co2 mi2 T2 B hd (fun j => hd 3 j - hd 3 j)) := by
  obtain ⟨dd, hd0⟩ : ∃ z : Nat → Int32, z = fun j => hd 3 j - hd 3 j := ⟨_, rfl⟩
  have hdd : ∀ j : Nat, dd j = hd 3 j - hd 3 j := fun j => by rw [hd0]
  obtain ⟨de2, mi2, T2, hk2⟩ := c_solve0_d (l := l) (D := D) (ca := ca) (ad := ad) (vs := vs) (be := be) (de := de) (sz := sz) (ro := ro) (co := co) (mi := mi) (hd := hd) (df := dd) hn h0
  rw [← hd0]
  refine ⟨be, de2, (Int32.ofNat n), ro, co, mi2, T2, ?_⟩
  refine PX2_sure (Nat.le_of_ble_eq_true rfl) ?_
  intro G hT hC hR
  refine mB hT 1 rfl ?_
  refine hC.1 _ [_] _ _ _ _ (c_isBasket_t (i := 3) (by decide)) rfl (Nat.le_of_ble_eq_true rfl) rfl ?_
  refine mB hT 2 rfl ?_
  refine hC.2.1 _ [_] _ _ _ _ (c_isBasket_t (i := 3) (by decide)) rfl (Nat.le_of_ble_eq_true rfl) rfl ?_
  refine mB hT 2 rfl ?_
  refine hC.2.2.1 _ [_] _ _ _ _ (c_isStuff_t hk) rfl (Nat.le_of_ble_eq_true rfl) rfl ?_
  refine mB hT 22 rfl ?_
  refine mNf (lv2 := [(4, .int 0), (0, .ref 0), (1, .int 3), (2, .int 3), (3, .int (Int32.ofNat k))]) (st2 := [.int (dd 0), .int 0, .ref 27]) rfl (by rw [hdd 0] <;> rfl) ?_
  refine mB hT 22 rfl ?_
  refine mNf (lv2 := [(4, .int 1), (0, .ref 0), (1, .int 3), (2, .int 3), (3, .int (Int32.ofNat k))]) (st2 := [.int (dd 1), .int 1, .ref 27]) rfl (by rw [hdd 1] <;> rfl) ?_
  refine mB hT 22 rfl ?_
  refine mNf (lv2 := [(4, .int 2), (0, .ref 0), (1, .int 3), (2, .int 3), (3, .int (Int32.ofNat k))]) (st2 := [.int (dd 2), .int 2, .ref 27]) rfl (by rw [hdd 2] <;> rfl) ?_
  refine mB hT 22 rfl ?_
  refine mNf (lv2 := [(4, .int 3), (0, .ref 0), (1, .int 3), (2, .int 3), (3, .int (Int32.ofNat k))]) (st2 := [.int (dd 3), .int 3, .ref 27]) rfl (by rw [hdd 3] <;> rfl) ?_
  refine mB hT 14 rfl ?_
  refine mWd (w2 := (XW (Int32.ofNat n) (Int32.ofNat vs) be de sz ro co mi T B hd (up (up (up (up df 0 (dd 0)) 1 (dd 1)) 2 (dd 2)) 3 (dd 3)))) rfl ?_
  refine mWd (w2 := (XW (Int32.ofNat n) (Int32.ofNat vs) be de sz ro co mi T B hd dd)) rfl ?_
  refine hC.2.2.2.1 _ 1 [_, _, _] _ _ _ _ _ (hk2) rfl rfl (Nat.le_of_ble_eq_true rfl) rfl ?_
  refine mB hT 2 rfl ?_
  exact hR _ (by decide) _ _ _ rfl rfl
set_option maxRecDepth 20000 in
theorem x_sure_3_3 {n vs : Nat} {be de : Int64} {sz : Int32} {ro co mi : Nat → Int64} {T : Nat → Nat → Int64} {B : Nat → Nat → Nat → Int32} {hd : Nat → Nat → Int32} {df : Nat → Int32} (hn : n ≤ 4) {k : Nat} (hk : k < 3) (h0 : ¬ detX n (lyT n (B 6) T) = 0) : ∃ (be2 de2 : Int64) (sz2 : Int32) (ro2 co2 mi2 : Nat → Int64) (T2 : Nat → Nat → Int64), KX2_sure l D ca ad [.ref 0, .int 3, .int 3, .int (Int32.ofNat k)] (XW (Int32.ofNat n) (Int32.ofNat vs) be de sz ro co mi T B hd df) (some (.int (if 0 < smX n (B 6) (roX n (lyT n (B 6) T) (fun j => hd 3 j - hd 3 j) ro) k 2 then 0 else 1))) (XW (Int32.ofNat n) (Int32.ofNat vs) be2 de2 sz2 ro2 co2 mi2 T2 B hd (fun j => hd 3 j - hd 3 j)) := by
  obtain ⟨dd, hd0⟩ : ∃ z : Nat → Int32, z = fun j => hd 3 j - hd 3 j := ⟨_, rfl⟩
  have hdd : ∀ j : Nat, dd j = hd 3 j - hd 3 j := fun j => by rw [hd0]
  obtain ⟨de2, co2, mi2, T2, hk2⟩ := c_solve1_d (l := l) (D := D) (ca := ca) (ad := ad) (vs := vs) (be := be) (de := de) (sz := sz) (ro := ro) (co := co) (mi := mi) (hd := hd) (df := dd) hn h0
  obtain ⟨r1, er1⟩ : ∃ z, z = roX n (lyT n (B 6) T) dd ro := ⟨_, rfl⟩
  rw [← er1] at hk2
  rw [← hd0, ← er1]
  refine ⟨absX (detX n (lyT n (B 6) T)), de2, (Int32.ofNat n), r1, co2, mi2, T2, ?_⟩
  refine PX2_sure (Nat.le_of_ble_eq_true rfl) ?_
  intro G hT hC hR
  refine mB hT 1 rfl ?_
  refine hC.1 _ [_] _ _ _ _ (c_isBasket_t (i := 3) (by decide)) rfl (Nat.le_of_ble_eq_true rfl) rfl ?_
  refine mB hT 2 rfl ?_
  refine hC.2.1 _ [_] _ _ _ _ (c_isBasket_t (i := 3) (by decide)) rfl (Nat.le_of_ble_eq_true rfl) rfl ?_
  refine mB hT 2 rfl ?_
  refine hC.2.2.1 _ [_] _ _ _ _ (c_isStuff_t hk) rfl (Nat.le_of_ble_eq_true rfl) rfl ?_
  refine mB hT 22 rfl ?_
  refine mNf (lv2 := [(4, .int 0), (0, .ref 0), (1, .int 3), (2, .int 3), (3, .int (Int32.ofNat k))]) (st2 := [.int (dd 0), .int 0, .ref 27]) rfl (by rw [hdd 0] <;> rfl) ?_
  refine mB hT 22 rfl ?_
  refine mNf (lv2 := [(4, .int 1), (0, .ref 0), (1, .int 3), (2, .int 3), (3, .int (Int32.ofNat k))]) (st2 := [.int (dd 1), .int 1, .ref 27]) rfl (by rw [hdd 1] <;> rfl) ?_
  refine mB hT 22 rfl ?_
  refine mNf (lv2 := [(4, .int 2), (0, .ref 0), (1, .int 3), (2, .int 3), (3, .int (Int32.ofNat k))]) (st2 := [.int (dd 2), .int 2, .ref 27]) rfl (by rw [hdd 2] <;> rfl) ?_
  refine mB hT 22 rfl ?_
  refine mNf (lv2 := [(4, .int 3), (0, .ref 0), (1, .int 3), (2, .int 3), (3, .int (Int32.ofNat k))]) (st2 := [.int (dd 3), .int 3, .ref 27]) rfl (by rw [hdd 3] <;> rfl) ?_
  refine mB hT 14 rfl ?_
  refine mWd (w2 := (XW (Int32.ofNat n) (Int32.ofNat vs) be de sz ro co mi T B hd (up (up (up (up df 0 (dd 0)) 1 (dd 1)) 2 (dd 2)) 3 (dd 3)))) rfl ?_
  refine mWd (w2 := (XW (Int32.ofNat n) (Int32.ofNat vs) be de sz ro co mi T B hd dd)) rfl ?_
  refine hC.2.2.2.1 _ 1 [_, _, _] _ _ _ _ _ (hk2) rfl rfl (Nat.le_of_ble_eq_true rfl) rfl ?_
  refine mB hT 7 rfl ?_
  refine hC.2.2.2.2 _ 1 [_, _, _] _ _ _ _ _ (c_sum_6 hn k 2 hk (by decide)) rfl rfl (Nat.le_of_ble_eq_true rfl) rfl ?_
  refine mB hT 3 rfl ?_
  refine mIf (fun h1 => ?_) (fun h1 => ?_)
  · refine mB hT 1 rfl ?_
    exact hR _ (by decide) _ _ _ (congrArg (fun z => [Value.int z]) (if_pos (lc_gt.mp h1)).symm) rfl
  · refine mB hT 2 rfl ?_
    exact hR _ (by decide) _ _ _ (congrArg (fun z => [Value.int z]) (if_neg (fun q => h1 (lc_gt.mpr q))).symm) rfl
theorem x_sure_B {n vs : Nat} {be de : Int64} {sz : Int32} {ro co mi : Nat → Int64} {T : Nat → Nat → Int64} {B : Nat → Nat → Nat → Int32} {hd : Nat → Nat → Int32} {df : Nat → Int32} {a b : Nat} (ha : a < 4) (hb : b < 4) (hn : n ≤ 4) {k : Nat} (hk : k < 3) (h0 : detX n (lyT n (B 6) T) = 0) : ∃ (be2 de2 : Int64) (sz2 : Int32) (ro2 co2 mi2 : Nat → Int64) (T2 : Nat → Nat → Int64), KX2_sure l D ca ad [.ref 0, .int (Int32.ofNat a), .int (Int32.ofNat b), .int (Int32.ofNat k)] (XW (Int32.ofNat n) (Int32.ofNat vs) be de sz ro co mi T B hd df) (some (.int (-104))) (XW (Int32.ofNat n) (Int32.ofNat vs) be2 de2 sz2 ro2 co2 mi2 T2 B hd (fun j => hd a j - hd b j)) := by
  match a, ha, b, hb with
  | 0, _, 0, _ => exact x_sure_B_0_0 hn hk h0
  | 0, _, 1, _ => exact x_sure_B_0_1 hn hk h0
  | 0, _, 2, _ => exact x_sure_B_0_2 hn hk h0
  | 0, _, 3, _ => exact x_sure_B_0_3 hn hk h0
  | 1, _, 0, _ => exact x_sure_B_1_0 hn hk h0
  | 1, _, 1, _ => exact x_sure_B_1_1 hn hk h0
  | 1, _, 2, _ => exact x_sure_B_1_2 hn hk h0
  | 1, _, 3, _ => exact x_sure_B_1_3 hn hk h0
  | 2, _, 0, _ => exact x_sure_B_2_0 hn hk h0
  | 2, _, 1, _ => exact x_sure_B_2_1 hn hk h0
  | 2, _, 2, _ => exact x_sure_B_2_2 hn hk h0
  | 2, _, 3, _ => exact x_sure_B_2_3 hn hk h0
  | 3, _, 0, _ => exact x_sure_B_3_0 hn hk h0
  | 3, _, 1, _ => exact x_sure_B_3_1 hn hk h0
  | 3, _, 2, _ => exact x_sure_B_3_2 hn hk h0
  | 3, _, 3, _ => exact x_sure_B_3_3 hn hk h0
theorem x_sure {n vs : Nat} {be de : Int64} {sz : Int32} {ro co mi : Nat → Int64} {T : Nat → Nat → Int64} {B : Nat → Nat → Nat → Int32} {hd : Nat → Nat → Int32} {df : Nat → Int32} {a b : Nat} (ha : a < 4) (hb : b < 4) (hn : n ≤ 4) {k : Nat} (hk : k < 3) (h0 : ¬ detX n (lyT n (B 6) T) = 0) : ∃ (be2 de2 : Int64) (sz2 : Int32) (ro2 co2 mi2 : Nat → Int64) (T2 : Nat → Nat → Int64), KX2_sure l D ca ad [.ref 0, .int (Int32.ofNat a), .int (Int32.ofNat b), .int (Int32.ofNat k)] (XW (Int32.ofNat n) (Int32.ofNat vs) be de sz ro co mi T B hd df) (some (.int (if 0 < smX n (B 6) (roX n (lyT n (B 6) T) (fun j => hd a j - hd b j) ro) k 2 then 0 else 1))) (XW (Int32.ofNat n) (Int32.ofNat vs) be2 de2 sz2 ro2 co2 mi2 T2 B hd (fun j => hd a j - hd b j)) := by
  match a, ha, b, hb with
  | 0, _, 0, _ => exact x_sure_0_0 hn hk h0
  | 0, _, 1, _ => exact x_sure_0_1 hn hk h0
  | 0, _, 2, _ => exact x_sure_0_2 hn hk h0
  | 0, _, 3, _ => exact x_sure_0_3 hn hk h0
  | 1, _, 0, _ => exact x_sure_1_0 hn hk h0
  | 1, _, 1, _ => exact x_sure_1_1 hn hk h0
  | 1, _, 2, _ => exact x_sure_1_2 hn hk h0
  | 1, _, 3, _ => exact x_sure_1_3 hn hk h0
  | 2, _, 0, _ => exact x_sure_2_0 hn hk h0
  | 2, _, 1, _ => exact x_sure_2_1 hn hk h0
  | 2, _, 2, _ => exact x_sure_2_2 hn hk h0
  | 2, _, 3, _ => exact x_sure_2_3 hn hk h0
  | 3, _, 0, _ => exact x_sure_3_0 hn hk h0
  | 3, _, 1, _ => exact x_sure_3_1 hn hk h0
  | 3, _, 2, _ => exact x_sure_3_2 hn hk h0
  | 3, _, 3, _ => exact x_sure_3_3 hn hk h0
set_option maxRecDepth 20000 in
theorem x_worth_0 {vs : Nat} {be de : Int64} {sz : Int32} {ro co mi : Nat → Int64} {T : Nat → Nat → Int64} {B : Nat → Nat → Nat → Int32} {hd : Nat → Nat → Int32} {df : Nat → Int32} : ∃ (be2 de2 : Int64) (sz2 : Int32) (ro2 co2 mi2 : Nat → Int64) (T2 : Nat → Nat → Int64), KX2_worth l D ca ad [.ref 0] (XW 0 (Int32.ofNat vs) be de sz ro co mi T B hd df) (some (.long (detX 0 (lyT 0 (B 6) T)))) (XW 0 (Int32.ofNat vs) be2 de2 sz2 ro2 co2 mi2 T2 B hd df) := by
  obtain ⟨ly, ely⟩ : ∃ z, z = (lyT 0 (B 6) T) := ⟨_, rfl⟩
  obtain ⟨dt, edt⟩ : ∃ z, z = detX 0 ly := ⟨_, rfl⟩
  obtain ⟨m0, em0⟩ : ∃ z, z = miX 0 ly mi := ⟨_, rfl⟩
  rw [← ely, ← edt]
  refine ⟨be, dt, 0, ro, co, m0, ly, ?_⟩
  refine PX2_worth (Nat.le_of_ble_eq_true rfl) ?_
  intro G hT hC hR
  refine mB hT 6 rfl ?_
  refine hC _ 1 [_, _] _ _ _ _ _ (show KX1_layTable l D ca ad _ _ none (XW 0 (Int32.ofNat vs) be dt 0 ro co m0 ly B hd df) from (by rw [em0, edt, ely]; exact c_lay_6_0)) rfl rfl (Nat.le_of_ble_eq_true rfl) rfl ?_
  refine mB hT 3 rfl ?_
  exact hR _ (by decide) _ _ _ rfl rfl
set_option maxRecDepth 20000 in
theorem x_worth_1 {vs : Nat} {be de : Int64} {sz : Int32} {ro co mi : Nat → Int64} {T : Nat → Nat → Int64} {B : Nat → Nat → Nat → Int32} {hd : Nat → Nat → Int32} {df : Nat → Int32} : ∃ (be2 de2 : Int64) (sz2 : Int32) (ro2 co2 mi2 : Nat → Int64) (T2 : Nat → Nat → Int64), KX2_worth l D ca ad [.ref 0] (XW 1 (Int32.ofNat vs) be de sz ro co mi T B hd df) (some (.long (detX 1 (lyT 1 (B 6) T)))) (XW 1 (Int32.ofNat vs) be2 de2 sz2 ro2 co2 mi2 T2 B hd df) := by
  obtain ⟨ly, ely⟩ : ∃ z, z = (lyT 1 (B 6) T) := ⟨_, rfl⟩
  obtain ⟨dt, edt⟩ : ∃ z, z = detX 1 ly := ⟨_, rfl⟩
  obtain ⟨m0, em0⟩ : ∃ z, z = miX 1 ly mi := ⟨_, rfl⟩
  rw [← ely, ← edt]
  refine ⟨be, dt, 1, ro, co, m0, ly, ?_⟩
  refine PX2_worth (Nat.le_of_ble_eq_true rfl) ?_
  intro G hT hC hR
  refine mB hT 6 rfl ?_
  refine hC _ 1 [_, _] _ _ _ _ _ (show KX1_layTable l D ca ad _ _ none (XW 1 (Int32.ofNat vs) be dt 1 ro co m0 ly B hd df) from (by rw [em0, edt, ely]; exact c_lay_6_1)) rfl rfl (Nat.le_of_ble_eq_true rfl) rfl ?_
  refine mB hT 3 rfl ?_
  exact hR _ (by decide) _ _ _ rfl rfl
set_option maxRecDepth 20000 in
theorem x_worth_2 {vs : Nat} {be de : Int64} {sz : Int32} {ro co mi : Nat → Int64} {T : Nat → Nat → Int64} {B : Nat → Nat → Nat → Int32} {hd : Nat → Nat → Int32} {df : Nat → Int32} : ∃ (be2 de2 : Int64) (sz2 : Int32) (ro2 co2 mi2 : Nat → Int64) (T2 : Nat → Nat → Int64), KX2_worth l D ca ad [.ref 0] (XW 2 (Int32.ofNat vs) be de sz ro co mi T B hd df) (some (.long (detX 2 (lyT 2 (B 6) T)))) (XW 2 (Int32.ofNat vs) be2 de2 sz2 ro2 co2 mi2 T2 B hd df) := by
  obtain ⟨ly, ely⟩ : ∃ z, z = (lyT 2 (B 6) T) := ⟨_, rfl⟩
  obtain ⟨dt, edt⟩ : ∃ z, z = detX 2 ly := ⟨_, rfl⟩
  obtain ⟨m0, em0⟩ : ∃ z, z = miX 2 ly mi := ⟨_, rfl⟩
  rw [← ely, ← edt]
  refine ⟨be, dt, 2, ro, co, m0, ly, ?_⟩
  refine PX2_worth (Nat.le_of_ble_eq_true rfl) ?_
  intro G hT hC hR
  refine mB hT 6 rfl ?_
  refine hC _ 1 [_, _] _ _ _ _ _ (show KX1_layTable l D ca ad _ _ none (XW 2 (Int32.ofNat vs) be dt 2 ro co m0 ly B hd df) from (by rw [em0, edt, ely]; exact c_lay_6_2)) rfl rfl (Nat.le_of_ble_eq_true rfl) rfl ?_
  refine mB hT 3 rfl ?_
  exact hR _ (by decide) _ _ _ rfl rfl
set_option maxRecDepth 20000 in
theorem x_worth_3 {vs : Nat} {be de : Int64} {sz : Int32} {ro co mi : Nat → Int64} {T : Nat → Nat → Int64} {B : Nat → Nat → Nat → Int32} {hd : Nat → Nat → Int32} {df : Nat → Int32} : ∃ (be2 de2 : Int64) (sz2 : Int32) (ro2 co2 mi2 : Nat → Int64) (T2 : Nat → Nat → Int64), KX2_worth l D ca ad [.ref 0] (XW 3 (Int32.ofNat vs) be de sz ro co mi T B hd df) (some (.long (detX 3 (lyT 3 (B 6) T)))) (XW 3 (Int32.ofNat vs) be2 de2 sz2 ro2 co2 mi2 T2 B hd df) := by
  obtain ⟨ly, ely⟩ : ∃ z, z = (lyT 3 (B 6) T) := ⟨_, rfl⟩
  obtain ⟨dt, edt⟩ : ∃ z, z = detX 3 ly := ⟨_, rfl⟩
  obtain ⟨m0, em0⟩ : ∃ z, z = miX 3 ly mi := ⟨_, rfl⟩
  rw [← ely, ← edt]
  refine ⟨be, dt, 3, ro, co, m0, ly, ?_⟩
  refine PX2_worth (Nat.le_of_ble_eq_true rfl) ?_
  intro G hT hC hR
  refine mB hT 6 rfl ?_
  refine hC _ 1 [_, _] _ _ _ _ _ (show KX1_layTable l D ca ad _ _ none (XW 3 (Int32.ofNat vs) be dt 3 ro co m0 ly B hd df) from (by rw [em0, edt, ely]; exact c_lay_6_3)) rfl rfl (Nat.le_of_ble_eq_true rfl) rfl ?_
  refine mB hT 3 rfl ?_
  exact hR _ (by decide) _ _ _ rfl rfl
set_option maxRecDepth 20000 in
theorem x_worth_4 {vs : Nat} {be de : Int64} {sz : Int32} {ro co mi : Nat → Int64} {T : Nat → Nat → Int64} {B : Nat → Nat → Nat → Int32} {hd : Nat → Nat → Int32} {df : Nat → Int32} : ∃ (be2 de2 : Int64) (sz2 : Int32) (ro2 co2 mi2 : Nat → Int64) (T2 : Nat → Nat → Int64), KX2_worth l D ca ad [.ref 0] (XW 4 (Int32.ofNat vs) be de sz ro co mi T B hd df) (some (.long (detX 4 (lyT 4 (B 6) T)))) (XW 4 (Int32.ofNat vs) be2 de2 sz2 ro2 co2 mi2 T2 B hd df) := by
  obtain ⟨ly, ely⟩ : ∃ z, z = (lyT 4 (B 6) T) := ⟨_, rfl⟩
  obtain ⟨dt, edt⟩ : ∃ z, z = detX 4 ly := ⟨_, rfl⟩
  obtain ⟨m0, em0⟩ : ∃ z, z = miX 4 ly mi := ⟨_, rfl⟩
  rw [← ely, ← edt]
  refine ⟨be, dt, 4, ro, co, m0, ly, ?_⟩
  refine PX2_worth (Nat.le_of_ble_eq_true rfl) ?_
  intro G hT hC hR
  refine mB hT 6 rfl ?_
  refine hC _ 1 [_, _] _ _ _ _ _ (show KX1_layTable l D ca ad _ _ none (XW 4 (Int32.ofNat vs) be dt 4 ro co m0 ly B hd df) from (by rw [em0, edt, ely]; exact c_lay_6_4)) rfl rfl (Nat.le_of_ble_eq_true rfl) rfl ?_
  refine mB hT 3 rfl ?_
  exact hR _ (by decide) _ _ _ rfl rfl
theorem x_worth {n vs : Nat} {be de : Int64} {sz : Int32} {ro co mi : Nat → Int64} {T : Nat → Nat → Int64} {B : Nat → Nat → Nat → Int32} {hd : Nat → Nat → Int32} {df : Nat → Int32} (hn : n ≤ 4) : ∃ (be2 de2 : Int64) (sz2 : Int32) (ro2 co2 mi2 : Nat → Int64) (T2 : Nat → Nat → Int64), KX2_worth l D ca ad [.ref 0] (XW (Int32.ofNat n) (Int32.ofNat vs) be de sz ro co mi T B hd df) (some (.long (detX n (lyT n (B 6) T)))) (XW (Int32.ofNat n) (Int32.ofNat vs) be2 de2 sz2 ro2 co2 mi2 T2 B hd df) := by
  match n, hn with
  | 0, _ => exact x_worth_0
  | 1, _ => exact x_worth_1
  | 2, _ => exact x_worth_2
  | 3, _ => exact x_worth_3
  | 4, _ => exact x_worth_4
set_option maxRecDepth 20000 in
theorem x_mixed_B_0_0 {n vs : Nat} {be de : Int64} {sz : Int32} {ro co mi : Nat → Int64} {T : Nat → Nat → Int64} {B : Nat → Nat → Nat → Int32} {hd : Nat → Nat → Int32} {df : Nat → Int32} (hn : n ≤ 4) {b : Nat} (hb : b < 4) {k : Nat} (hk : k < 3) (h0 : detX n (lyT n ((cpX (cpX B 7 6 0 0) 7 0 0 4) 7) T) = 0) : ∃ (be2 de2 : Int64) (sz2 : Int32) (ro2 co2 mi2 : Nat → Int64) (T2 : Nat → Nat → Int64), KX2_mixedTotal l D ca ad [.ref 0, .int 0, .int 0, .int (Int32.ofNat b), .int (Int32.ofNat k)] (XW (Int32.ofNat n) (Int32.ofNat vs) be de sz ro co mi T B hd df) (some (.long (-9000000000000000004))) (XW (Int32.ofNat n) (Int32.ofNat vs) be2 de2 sz2 ro2 co2 mi2 T2 (cpX (cpX B 7 6 0 0) 7 0 0 4) hd df) := by
  obtain ⟨B1, e1⟩ : ∃ z, z = cpX B 7 6 0 0 := ⟨_, rfl⟩
  obtain ⟨B2, e2⟩ : ∃ z, z = cpX B1 7 0 0 4 := ⟨_, rfl⟩
  rw [← e1, ← e2] at h0 ⊢
  obtain ⟨de2, mi2, T2, hk2⟩ := c_solve0_7 (l := l) (D := D) (ca := ca) (ad := ad) (vs := vs) (be := be) (de := de) (sz := sz) (ro := ro) (co := co) (mi := mi) (df := df) (B := B2) hn hb h0
  refine ⟨be, de2, (Int32.ofNat n), ro, co, mi2, T2, ?_⟩
  refine PX2_mixedTotal (Nat.le_of_ble_eq_true rfl) ?_
  intro G hT hC hR
  refine mB hT 6 rfl ?_
  refine hC.1 _ 16 [_, _, _] _ _ _ _ _ (show KX0_copyRows l D ca ad _ _ none (XW (Int32.ofNat n) (Int32.ofNat vs) be de sz ro co mi T B1 hd df) from (by rw [e1]; exact c_copy_7_6_0_0)) rfl rfl (Nat.le_of_ble_eq_true rfl) rfl ?_
  refine mB hT 8 rfl ?_
  refine hC.2.1 _ 16 [_, _, _] _ _ _ _ _ (show KX0_copyRows l D ca ad _ _ none (XW (Int32.ofNat n) (Int32.ofNat vs) be de sz ro co mi T B2 hd df) from (by rw [e2]; exact c_copy_7_0_0_4)) rfl rfl (Nat.le_of_ble_eq_true rfl) rfl ?_
  refine mB hT 9 rfl ?_
  refine mAaldH hT (List.mem_of_getElem? (i := 23) rfl) hb ?_
  refine hC.2.2.1 _ 1 [_, _, _] _ _ _ _ _ (hk2) rfl rfl (Nat.le_of_ble_eq_true rfl) rfl ?_
  refine mB hT 2 rfl ?_
  exact hR _ (by decide) _ _ _ rfl rfl
set_option maxRecDepth 20000 in
theorem x_mixed_0_0 {n vs : Nat} {be de : Int64} {sz : Int32} {ro co mi : Nat → Int64} {T : Nat → Nat → Int64} {B : Nat → Nat → Nat → Int32} {hd : Nat → Nat → Int32} {df : Nat → Int32} (hn : n ≤ 4) {b : Nat} (hb : b < 4) {k : Nat} (hk : k < 3) (h0 : ¬ detX n (lyT n ((cpX (cpX B 7 6 0 0) 7 0 0 4) 7) T) = 0) : ∃ (be2 de2 : Int64) (sz2 : Int32) (ro2 co2 mi2 : Nat → Int64) (T2 : Nat → Nat → Int64), KX2_mixedTotal l D ca ad [.ref 0, .int 0, .int 0, .int (Int32.ofNat b), .int (Int32.ofNat k)] (XW (Int32.ofNat n) (Int32.ofNat vs) be de sz ro co mi T B hd df) (some (.long (thX (smX n ((cpX (cpX B 7 6 0 0) 7 0 0 4) 7) (roX n (lyT n ((cpX (cpX B 7 6 0 0) 7 0 0 4) 7) T) (hd b) ro) k 1) (absX (detX n (lyT n ((cpX (cpX B 7 6 0 0) 7 0 0 4) 7) T)))))) (XW (Int32.ofNat n) (Int32.ofNat vs) be2 de2 sz2 ro2 co2 mi2 T2 (cpX (cpX B 7 6 0 0) 7 0 0 4) hd df) := by
  obtain ⟨B1, e1⟩ : ∃ z, z = cpX B 7 6 0 0 := ⟨_, rfl⟩
  obtain ⟨B2, e2⟩ : ∃ z, z = cpX B1 7 0 0 4 := ⟨_, rfl⟩
  rw [← e1, ← e2] at h0 ⊢
  obtain ⟨de2, co2, mi2, T2, hk2⟩ := c_solve1_7 (l := l) (D := D) (ca := ca) (ad := ad) (vs := vs) (be := be) (de := de) (sz := sz) (ro := ro) (co := co) (mi := mi) (df := df) (B := B2) hn hb h0
  obtain ⟨r1, er1⟩ : ∃ z, z = roX n (lyT n (B2 7) T) (hd b) ro := ⟨_, rfl⟩
  rw [← er1] at hk2
  rw [← er1]
  obtain ⟨dt, edt⟩ : ∃ z, z = detX n (lyT n (B2 7) T) := ⟨_, rfl⟩
  rw [← edt] at hk2 h0
  rw [← edt]
  refine ⟨absX dt, de2, (Int32.ofNat n), r1, co2, mi2, T2, ?_⟩
  refine PX2_mixedTotal (Nat.le_of_ble_eq_true rfl) ?_
  intro G hT hC hR
  refine mB hT 6 rfl ?_
  refine hC.1 _ 16 [_, _, _] _ _ _ _ _ (show KX0_copyRows l D ca ad _ _ none (XW (Int32.ofNat n) (Int32.ofNat vs) be de sz ro co mi T B1 hd df) from (by rw [e1]; exact c_copy_7_6_0_0)) rfl rfl (Nat.le_of_ble_eq_true rfl) rfl ?_
  refine mB hT 8 rfl ?_
  refine hC.2.1 _ 16 [_, _, _] _ _ _ _ _ (show KX0_copyRows l D ca ad _ _ none (XW (Int32.ofNat n) (Int32.ofNat vs) be de sz ro co mi T B2 hd df) from (by rw [e2]; exact c_copy_7_0_0_4)) rfl rfl (Nat.le_of_ble_eq_true rfl) rfl ?_
  refine mB hT 9 rfl ?_
  refine mAaldH hT (List.mem_of_getElem? (i := 23) rfl) hb ?_
  refine hC.2.2.1 _ 1 [_, _, _] _ _ _ _ _ (hk2) rfl rfl (Nat.le_of_ble_eq_true rfl) rfl ?_
  refine mB hT 7 rfl ?_
  refine hC.2.2.2.1 _ 1 [_, _, _] _ _ _ _ _ (c_sum_7 hn k 1 hk (by decide)) rfl rfl (Nat.le_of_ble_eq_true rfl) rfl ?_
  refine mB hT 3 rfl ?_
  refine hC.2.2.2.2 _ [_, _] _ _ _ _ (c_th (absX_ne h0)) rfl (Nat.le_of_ble_eq_true rfl) rfl ?_
  exact hR _ (by decide) _ _ _ rfl rfl
set_option maxRecDepth 20000 in
theorem x_mixed_B_0_1 {n vs : Nat} {be de : Int64} {sz : Int32} {ro co mi : Nat → Int64} {T : Nat → Nat → Int64} {B : Nat → Nat → Nat → Int32} {hd : Nat → Nat → Int32} {df : Nat → Int32} (hn : n ≤ 4) {b : Nat} (hb : b < 4) {k : Nat} (hk : k < 3) (h0 : detX n (lyT n ((cpX (cpX B 7 6 0 1) 7 0 1 4) 7) T) = 0) : ∃ (be2 de2 : Int64) (sz2 : Int32) (ro2 co2 mi2 : Nat → Int64) (T2 : Nat → Nat → Int64), KX2_mixedTotal l D ca ad [.ref 0, .int 0, .int 1, .int (Int32.ofNat b), .int (Int32.ofNat k)] (XW (Int32.ofNat n) (Int32.ofNat vs) be de sz ro co mi T B hd df) (some (.long (-9000000000000000004))) (XW (Int32.ofNat n) (Int32.ofNat vs) be2 de2 sz2 ro2 co2 mi2 T2 (cpX (cpX B 7 6 0 1) 7 0 1 4) hd df) := by
  obtain ⟨B1, e1⟩ : ∃ z, z = cpX B 7 6 0 1 := ⟨_, rfl⟩
  obtain ⟨B2, e2⟩ : ∃ z, z = cpX B1 7 0 1 4 := ⟨_, rfl⟩
  rw [← e1, ← e2] at h0 ⊢
  obtain ⟨de2, mi2, T2, hk2⟩ := c_solve0_7 (l := l) (D := D) (ca := ca) (ad := ad) (vs := vs) (be := be) (de := de) (sz := sz) (ro := ro) (co := co) (mi := mi) (df := df) (B := B2) hn hb h0
  refine ⟨be, de2, (Int32.ofNat n), ro, co, mi2, T2, ?_⟩
  refine PX2_mixedTotal (Nat.le_of_ble_eq_true rfl) ?_
  intro G hT hC hR
  refine mB hT 6 rfl ?_
  refine hC.1 _ 16 [_, _, _] _ _ _ _ _ (show KX0_copyRows l D ca ad _ _ none (XW (Int32.ofNat n) (Int32.ofNat vs) be de sz ro co mi T B1 hd df) from (by rw [e1]; exact c_copy_7_6_0_1)) rfl rfl (Nat.le_of_ble_eq_true rfl) rfl ?_
  refine mB hT 8 rfl ?_
  refine hC.2.1 _ 16 [_, _, _] _ _ _ _ _ (show KX0_copyRows l D ca ad _ _ none (XW (Int32.ofNat n) (Int32.ofNat vs) be de sz ro co mi T B2 hd df) from (by rw [e2]; exact c_copy_7_0_1_4)) rfl rfl (Nat.le_of_ble_eq_true rfl) rfl ?_
  refine mB hT 9 rfl ?_
  refine mAaldH hT (List.mem_of_getElem? (i := 23) rfl) hb ?_
  refine hC.2.2.1 _ 1 [_, _, _] _ _ _ _ _ (hk2) rfl rfl (Nat.le_of_ble_eq_true rfl) rfl ?_
  refine mB hT 2 rfl ?_
  exact hR _ (by decide) _ _ _ rfl rfl
set_option maxRecDepth 20000 in
theorem x_mixed_0_1 {n vs : Nat} {be de : Int64} {sz : Int32} {ro co mi : Nat → Int64} {T : Nat → Nat → Int64} {B : Nat → Nat → Nat → Int32} {hd : Nat → Nat → Int32} {df : Nat → Int32} (hn : n ≤ 4) {b : Nat} (hb : b < 4) {k : Nat} (hk : k < 3) (h0 : ¬ detX n (lyT n ((cpX (cpX B 7 6 0 1) 7 0 1 4) 7) T) = 0) : ∃ (be2 de2 : Int64) (sz2 : Int32) (ro2 co2 mi2 : Nat → Int64) (T2 : Nat → Nat → Int64), KX2_mixedTotal l D ca ad [.ref 0, .int 0, .int 1, .int (Int32.ofNat b), .int (Int32.ofNat k)] (XW (Int32.ofNat n) (Int32.ofNat vs) be de sz ro co mi T B hd df) (some (.long (thX (smX n ((cpX (cpX B 7 6 0 1) 7 0 1 4) 7) (roX n (lyT n ((cpX (cpX B 7 6 0 1) 7 0 1 4) 7) T) (hd b) ro) k 1) (absX (detX n (lyT n ((cpX (cpX B 7 6 0 1) 7 0 1 4) 7) T)))))) (XW (Int32.ofNat n) (Int32.ofNat vs) be2 de2 sz2 ro2 co2 mi2 T2 (cpX (cpX B 7 6 0 1) 7 0 1 4) hd df) := by
  obtain ⟨B1, e1⟩ : ∃ z, z = cpX B 7 6 0 1 := ⟨_, rfl⟩
  obtain ⟨B2, e2⟩ : ∃ z, z = cpX B1 7 0 1 4 := ⟨_, rfl⟩
  rw [← e1, ← e2] at h0 ⊢
  obtain ⟨de2, co2, mi2, T2, hk2⟩ := c_solve1_7 (l := l) (D := D) (ca := ca) (ad := ad) (vs := vs) (be := be) (de := de) (sz := sz) (ro := ro) (co := co) (mi := mi) (df := df) (B := B2) hn hb h0
  obtain ⟨r1, er1⟩ : ∃ z, z = roX n (lyT n (B2 7) T) (hd b) ro := ⟨_, rfl⟩
  rw [← er1] at hk2
  rw [← er1]
  obtain ⟨dt, edt⟩ : ∃ z, z = detX n (lyT n (B2 7) T) := ⟨_, rfl⟩
  rw [← edt] at hk2 h0
  rw [← edt]
  refine ⟨absX dt, de2, (Int32.ofNat n), r1, co2, mi2, T2, ?_⟩
  refine PX2_mixedTotal (Nat.le_of_ble_eq_true rfl) ?_
  intro G hT hC hR
  refine mB hT 6 rfl ?_
  refine hC.1 _ 16 [_, _, _] _ _ _ _ _ (show KX0_copyRows l D ca ad _ _ none (XW (Int32.ofNat n) (Int32.ofNat vs) be de sz ro co mi T B1 hd df) from (by rw [e1]; exact c_copy_7_6_0_1)) rfl rfl (Nat.le_of_ble_eq_true rfl) rfl ?_
  refine mB hT 8 rfl ?_
  refine hC.2.1 _ 16 [_, _, _] _ _ _ _ _ (show KX0_copyRows l D ca ad _ _ none (XW (Int32.ofNat n) (Int32.ofNat vs) be de sz ro co mi T B2 hd df) from (by rw [e2]; exact c_copy_7_0_1_4)) rfl rfl (Nat.le_of_ble_eq_true rfl) rfl ?_
  refine mB hT 9 rfl ?_
  refine mAaldH hT (List.mem_of_getElem? (i := 23) rfl) hb ?_
  refine hC.2.2.1 _ 1 [_, _, _] _ _ _ _ _ (hk2) rfl rfl (Nat.le_of_ble_eq_true rfl) rfl ?_
  refine mB hT 7 rfl ?_
  refine hC.2.2.2.1 _ 1 [_, _, _] _ _ _ _ _ (c_sum_7 hn k 1 hk (by decide)) rfl rfl (Nat.le_of_ble_eq_true rfl) rfl ?_
  refine mB hT 3 rfl ?_
  refine hC.2.2.2.2 _ [_, _] _ _ _ _ (c_th (absX_ne h0)) rfl (Nat.le_of_ble_eq_true rfl) rfl ?_
  exact hR _ (by decide) _ _ _ rfl rfl
set_option maxRecDepth 20000 in
theorem x_mixed_B_0_2 {n vs : Nat} {be de : Int64} {sz : Int32} {ro co mi : Nat → Int64} {T : Nat → Nat → Int64} {B : Nat → Nat → Nat → Int32} {hd : Nat → Nat → Int32} {df : Nat → Int32} (hn : n ≤ 4) {b : Nat} (hb : b < 4) {k : Nat} (hk : k < 3) (h0 : detX n (lyT n ((cpX (cpX B 7 6 0 2) 7 0 2 4) 7) T) = 0) : ∃ (be2 de2 : Int64) (sz2 : Int32) (ro2 co2 mi2 : Nat → Int64) (T2 : Nat → Nat → Int64), KX2_mixedTotal l D ca ad [.ref 0, .int 0, .int 2, .int (Int32.ofNat b), .int (Int32.ofNat k)] (XW (Int32.ofNat n) (Int32.ofNat vs) be de sz ro co mi T B hd df) (some (.long (-9000000000000000004))) (XW (Int32.ofNat n) (Int32.ofNat vs) be2 de2 sz2 ro2 co2 mi2 T2 (cpX (cpX B 7 6 0 2) 7 0 2 4) hd df) := by
  obtain ⟨B1, e1⟩ : ∃ z, z = cpX B 7 6 0 2 := ⟨_, rfl⟩
  obtain ⟨B2, e2⟩ : ∃ z, z = cpX B1 7 0 2 4 := ⟨_, rfl⟩
  rw [← e1, ← e2] at h0 ⊢
  obtain ⟨de2, mi2, T2, hk2⟩ := c_solve0_7 (l := l) (D := D) (ca := ca) (ad := ad) (vs := vs) (be := be) (de := de) (sz := sz) (ro := ro) (co := co) (mi := mi) (df := df) (B := B2) hn hb h0
  refine ⟨be, de2, (Int32.ofNat n), ro, co, mi2, T2, ?_⟩
  refine PX2_mixedTotal (Nat.le_of_ble_eq_true rfl) ?_
  intro G hT hC hR
  refine mB hT 6 rfl ?_
  refine hC.1 _ 16 [_, _, _] _ _ _ _ _ (show KX0_copyRows l D ca ad _ _ none (XW (Int32.ofNat n) (Int32.ofNat vs) be de sz ro co mi T B1 hd df) from (by rw [e1]; exact c_copy_7_6_0_2)) rfl rfl (Nat.le_of_ble_eq_true rfl) rfl ?_
  refine mB hT 8 rfl ?_
  refine hC.2.1 _ 16 [_, _, _] _ _ _ _ _ (show KX0_copyRows l D ca ad _ _ none (XW (Int32.ofNat n) (Int32.ofNat vs) be de sz ro co mi T B2 hd df) from (by rw [e2]; exact c_copy_7_0_2_4)) rfl rfl (Nat.le_of_ble_eq_true rfl) rfl ?_
  refine mB hT 9 rfl ?_
  refine mAaldH hT (List.mem_of_getElem? (i := 23) rfl) hb ?_
  refine hC.2.2.1 _ 1 [_, _, _] _ _ _ _ _ (hk2) rfl rfl (Nat.le_of_ble_eq_true rfl) rfl ?_
  refine mB hT 2 rfl ?_
  exact hR _ (by decide) _ _ _ rfl rfl
set_option maxRecDepth 20000 in
theorem x_mixed_0_2 {n vs : Nat} {be de : Int64} {sz : Int32} {ro co mi : Nat → Int64} {T : Nat → Nat → Int64} {B : Nat → Nat → Nat → Int32} {hd : Nat → Nat → Int32} {df : Nat → Int32} (hn : n ≤ 4) {b : Nat} (hb : b < 4) {k : Nat} (hk : k < 3) (h0 : ¬ detX n (lyT n ((cpX (cpX B 7 6 0 2) 7 0 2 4) 7) T) = 0) : ∃ (be2 de2 : Int64) (sz2 : Int32) (ro2 co2 mi2 : Nat → Int64) (T2 : Nat → Nat → Int64), KX2_mixedTotal l D ca ad [.ref 0, .int 0, .int 2, .int (Int32.ofNat b), .int (Int32.ofNat k)] (XW (Int32.ofNat n) (Int32.ofNat vs) be de sz ro co mi T B hd df) (some (.long (thX (smX n ((cpX (cpX B 7 6 0 2) 7 0 2 4) 7) (roX n (lyT n ((cpX (cpX B 7 6 0 2) 7 0 2 4) 7) T) (hd b) ro) k 1) (absX (detX n (lyT n ((cpX (cpX B 7 6 0 2) 7 0 2 4) 7) T)))))) (XW (Int32.ofNat n) (Int32.ofNat vs) be2 de2 sz2 ro2 co2 mi2 T2 (cpX (cpX B 7 6 0 2) 7 0 2 4) hd df) := by
  obtain ⟨B1, e1⟩ : ∃ z, z = cpX B 7 6 0 2 := ⟨_, rfl⟩
  obtain ⟨B2, e2⟩ : ∃ z, z = cpX B1 7 0 2 4 := ⟨_, rfl⟩
  rw [← e1, ← e2] at h0 ⊢
  obtain ⟨de2, co2, mi2, T2, hk2⟩ := c_solve1_7 (l := l) (D := D) (ca := ca) (ad := ad) (vs := vs) (be := be) (de := de) (sz := sz) (ro := ro) (co := co) (mi := mi) (df := df) (B := B2) hn hb h0
  obtain ⟨r1, er1⟩ : ∃ z, z = roX n (lyT n (B2 7) T) (hd b) ro := ⟨_, rfl⟩
  rw [← er1] at hk2
  rw [← er1]
  obtain ⟨dt, edt⟩ : ∃ z, z = detX n (lyT n (B2 7) T) := ⟨_, rfl⟩
  rw [← edt] at hk2 h0
  rw [← edt]
  refine ⟨absX dt, de2, (Int32.ofNat n), r1, co2, mi2, T2, ?_⟩
  refine PX2_mixedTotal (Nat.le_of_ble_eq_true rfl) ?_
  intro G hT hC hR
  refine mB hT 6 rfl ?_
  refine hC.1 _ 16 [_, _, _] _ _ _ _ _ (show KX0_copyRows l D ca ad _ _ none (XW (Int32.ofNat n) (Int32.ofNat vs) be de sz ro co mi T B1 hd df) from (by rw [e1]; exact c_copy_7_6_0_2)) rfl rfl (Nat.le_of_ble_eq_true rfl) rfl ?_
  refine mB hT 8 rfl ?_
  refine hC.2.1 _ 16 [_, _, _] _ _ _ _ _ (show KX0_copyRows l D ca ad _ _ none (XW (Int32.ofNat n) (Int32.ofNat vs) be de sz ro co mi T B2 hd df) from (by rw [e2]; exact c_copy_7_0_2_4)) rfl rfl (Nat.le_of_ble_eq_true rfl) rfl ?_
  refine mB hT 9 rfl ?_
  refine mAaldH hT (List.mem_of_getElem? (i := 23) rfl) hb ?_
  refine hC.2.2.1 _ 1 [_, _, _] _ _ _ _ _ (hk2) rfl rfl (Nat.le_of_ble_eq_true rfl) rfl ?_
  refine mB hT 7 rfl ?_
  refine hC.2.2.2.1 _ 1 [_, _, _] _ _ _ _ _ (c_sum_7 hn k 1 hk (by decide)) rfl rfl (Nat.le_of_ble_eq_true rfl) rfl ?_
  refine mB hT 3 rfl ?_
  refine hC.2.2.2.2 _ [_, _] _ _ _ _ (c_th (absX_ne h0)) rfl (Nat.le_of_ble_eq_true rfl) rfl ?_
  exact hR _ (by decide) _ _ _ rfl rfl
set_option maxRecDepth 20000 in
theorem x_mixed_B_0_3 {n vs : Nat} {be de : Int64} {sz : Int32} {ro co mi : Nat → Int64} {T : Nat → Nat → Int64} {B : Nat → Nat → Nat → Int32} {hd : Nat → Nat → Int32} {df : Nat → Int32} (hn : n ≤ 4) {b : Nat} (hb : b < 4) {k : Nat} (hk : k < 3) (h0 : detX n (lyT n ((cpX (cpX B 7 6 0 3) 7 0 3 4) 7) T) = 0) : ∃ (be2 de2 : Int64) (sz2 : Int32) (ro2 co2 mi2 : Nat → Int64) (T2 : Nat → Nat → Int64), KX2_mixedTotal l D ca ad [.ref 0, .int 0, .int 3, .int (Int32.ofNat b), .int (Int32.ofNat k)] (XW (Int32.ofNat n) (Int32.ofNat vs) be de sz ro co mi T B hd df) (some (.long (-9000000000000000004))) (XW (Int32.ofNat n) (Int32.ofNat vs) be2 de2 sz2 ro2 co2 mi2 T2 (cpX (cpX B 7 6 0 3) 7 0 3 4) hd df) := by
  obtain ⟨B1, e1⟩ : ∃ z, z = cpX B 7 6 0 3 := ⟨_, rfl⟩
  obtain ⟨B2, e2⟩ : ∃ z, z = cpX B1 7 0 3 4 := ⟨_, rfl⟩
  rw [← e1, ← e2] at h0 ⊢
  obtain ⟨de2, mi2, T2, hk2⟩ := c_solve0_7 (l := l) (D := D) (ca := ca) (ad := ad) (vs := vs) (be := be) (de := de) (sz := sz) (ro := ro) (co := co) (mi := mi) (df := df) (B := B2) hn hb h0
  refine ⟨be, de2, (Int32.ofNat n), ro, co, mi2, T2, ?_⟩
  refine PX2_mixedTotal (Nat.le_of_ble_eq_true rfl) ?_
  intro G hT hC hR
  refine mB hT 6 rfl ?_
  refine hC.1 _ 16 [_, _, _] _ _ _ _ _ (show KX0_copyRows l D ca ad _ _ none (XW (Int32.ofNat n) (Int32.ofNat vs) be de sz ro co mi T B1 hd df) from (by rw [e1]; exact c_copy_7_6_0_3)) rfl rfl (Nat.le_of_ble_eq_true rfl) rfl ?_
  refine mB hT 8 rfl ?_
  refine hC.2.1 _ 16 [_, _, _] _ _ _ _ _ (show KX0_copyRows l D ca ad _ _ none (XW (Int32.ofNat n) (Int32.ofNat vs) be de sz ro co mi T B2 hd df) from (by rw [e2]; exact c_copy_7_0_3_4)) rfl rfl (Nat.le_of_ble_eq_true rfl) rfl ?_
  refine mB hT 9 rfl ?_
  refine mAaldH hT (List.mem_of_getElem? (i := 23) rfl) hb ?_
  refine hC.2.2.1 _ 1 [_, _, _] _ _ _ _ _ (hk2) rfl rfl (Nat.le_of_ble_eq_true rfl) rfl ?_
  refine mB hT 2 rfl ?_
  exact hR _ (by decide) _ _ _ rfl rfl
set_option maxRecDepth 20000 in
theorem x_mixed_0_3 {n vs : Nat} {be de : Int64} {sz : Int32} {ro co mi : Nat → Int64} {T : Nat → Nat → Int64} {B : Nat → Nat → Nat → Int32} {hd : Nat → Nat → Int32} {df : Nat → Int32} (hn : n ≤ 4) {b : Nat} (hb : b < 4) {k : Nat} (hk : k < 3) (h0 : ¬ detX n (lyT n ((cpX (cpX B 7 6 0 3) 7 0 3 4) 7) T) = 0) : ∃ (be2 de2 : Int64) (sz2 : Int32) (ro2 co2 mi2 : Nat → Int64) (T2 : Nat → Nat → Int64), KX2_mixedTotal l D ca ad [.ref 0, .int 0, .int 3, .int (Int32.ofNat b), .int (Int32.ofNat k)] (XW (Int32.ofNat n) (Int32.ofNat vs) be de sz ro co mi T B hd df) (some (.long (thX (smX n ((cpX (cpX B 7 6 0 3) 7 0 3 4) 7) (roX n (lyT n ((cpX (cpX B 7 6 0 3) 7 0 3 4) 7) T) (hd b) ro) k 1) (absX (detX n (lyT n ((cpX (cpX B 7 6 0 3) 7 0 3 4) 7) T)))))) (XW (Int32.ofNat n) (Int32.ofNat vs) be2 de2 sz2 ro2 co2 mi2 T2 (cpX (cpX B 7 6 0 3) 7 0 3 4) hd df) := by
  obtain ⟨B1, e1⟩ : ∃ z, z = cpX B 7 6 0 3 := ⟨_, rfl⟩
  obtain ⟨B2, e2⟩ : ∃ z, z = cpX B1 7 0 3 4 := ⟨_, rfl⟩
  rw [← e1, ← e2] at h0 ⊢
  obtain ⟨de2, co2, mi2, T2, hk2⟩ := c_solve1_7 (l := l) (D := D) (ca := ca) (ad := ad) (vs := vs) (be := be) (de := de) (sz := sz) (ro := ro) (co := co) (mi := mi) (df := df) (B := B2) hn hb h0
  obtain ⟨r1, er1⟩ : ∃ z, z = roX n (lyT n (B2 7) T) (hd b) ro := ⟨_, rfl⟩
  rw [← er1] at hk2
  rw [← er1]
  obtain ⟨dt, edt⟩ : ∃ z, z = detX n (lyT n (B2 7) T) := ⟨_, rfl⟩
  rw [← edt] at hk2 h0
  rw [← edt]
  refine ⟨absX dt, de2, (Int32.ofNat n), r1, co2, mi2, T2, ?_⟩
  refine PX2_mixedTotal (Nat.le_of_ble_eq_true rfl) ?_
  intro G hT hC hR
  refine mB hT 6 rfl ?_
  refine hC.1 _ 16 [_, _, _] _ _ _ _ _ (show KX0_copyRows l D ca ad _ _ none (XW (Int32.ofNat n) (Int32.ofNat vs) be de sz ro co mi T B1 hd df) from (by rw [e1]; exact c_copy_7_6_0_3)) rfl rfl (Nat.le_of_ble_eq_true rfl) rfl ?_
  refine mB hT 8 rfl ?_
  refine hC.2.1 _ 16 [_, _, _] _ _ _ _ _ (show KX0_copyRows l D ca ad _ _ none (XW (Int32.ofNat n) (Int32.ofNat vs) be de sz ro co mi T B2 hd df) from (by rw [e2]; exact c_copy_7_0_3_4)) rfl rfl (Nat.le_of_ble_eq_true rfl) rfl ?_
  refine mB hT 9 rfl ?_
  refine mAaldH hT (List.mem_of_getElem? (i := 23) rfl) hb ?_
  refine hC.2.2.1 _ 1 [_, _, _] _ _ _ _ _ (hk2) rfl rfl (Nat.le_of_ble_eq_true rfl) rfl ?_
  refine mB hT 7 rfl ?_
  refine hC.2.2.2.1 _ 1 [_, _, _] _ _ _ _ _ (c_sum_7 hn k 1 hk (by decide)) rfl rfl (Nat.le_of_ble_eq_true rfl) rfl ?_
  refine mB hT 3 rfl ?_
  refine hC.2.2.2.2 _ [_, _] _ _ _ _ (c_th (absX_ne h0)) rfl (Nat.le_of_ble_eq_true rfl) rfl ?_
  exact hR _ (by decide) _ _ _ rfl rfl
set_option maxRecDepth 20000 in
theorem x_mixed_B_0_4 {n vs : Nat} {be de : Int64} {sz : Int32} {ro co mi : Nat → Int64} {T : Nat → Nat → Int64} {B : Nat → Nat → Nat → Int32} {hd : Nat → Nat → Int32} {df : Nat → Int32} (hn : n ≤ 4) {b : Nat} (hb : b < 4) {k : Nat} (hk : k < 3) (h0 : detX n (lyT n ((cpX (cpX B 7 6 0 4) 7 0 4 4) 7) T) = 0) : ∃ (be2 de2 : Int64) (sz2 : Int32) (ro2 co2 mi2 : Nat → Int64) (T2 : Nat → Nat → Int64), KX2_mixedTotal l D ca ad [.ref 0, .int 0, .int 4, .int (Int32.ofNat b), .int (Int32.ofNat k)] (XW (Int32.ofNat n) (Int32.ofNat vs) be de sz ro co mi T B hd df) (some (.long (-9000000000000000004))) (XW (Int32.ofNat n) (Int32.ofNat vs) be2 de2 sz2 ro2 co2 mi2 T2 (cpX (cpX B 7 6 0 4) 7 0 4 4) hd df) := by
  obtain ⟨B1, e1⟩ : ∃ z, z = cpX B 7 6 0 4 := ⟨_, rfl⟩
  obtain ⟨B2, e2⟩ : ∃ z, z = cpX B1 7 0 4 4 := ⟨_, rfl⟩
  rw [← e1, ← e2] at h0 ⊢
  obtain ⟨de2, mi2, T2, hk2⟩ := c_solve0_7 (l := l) (D := D) (ca := ca) (ad := ad) (vs := vs) (be := be) (de := de) (sz := sz) (ro := ro) (co := co) (mi := mi) (df := df) (B := B2) hn hb h0
  refine ⟨be, de2, (Int32.ofNat n), ro, co, mi2, T2, ?_⟩
  refine PX2_mixedTotal (Nat.le_of_ble_eq_true rfl) ?_
  intro G hT hC hR
  refine mB hT 6 rfl ?_
  refine hC.1 _ 16 [_, _, _] _ _ _ _ _ (show KX0_copyRows l D ca ad _ _ none (XW (Int32.ofNat n) (Int32.ofNat vs) be de sz ro co mi T B1 hd df) from (by rw [e1]; exact c_copy_7_6_0_4)) rfl rfl (Nat.le_of_ble_eq_true rfl) rfl ?_
  refine mB hT 8 rfl ?_
  refine hC.2.1 _ 16 [_, _, _] _ _ _ _ _ (show KX0_copyRows l D ca ad _ _ none (XW (Int32.ofNat n) (Int32.ofNat vs) be de sz ro co mi T B2 hd df) from (by rw [e2]; exact c_copy_7_0_4_4)) rfl rfl (Nat.le_of_ble_eq_true rfl) rfl ?_
  refine mB hT 9 rfl ?_
  refine mAaldH hT (List.mem_of_getElem? (i := 23) rfl) hb ?_
  refine hC.2.2.1 _ 1 [_, _, _] _ _ _ _ _ (hk2) rfl rfl (Nat.le_of_ble_eq_true rfl) rfl ?_
  refine mB hT 2 rfl ?_
  exact hR _ (by decide) _ _ _ rfl rfl
set_option maxRecDepth 20000 in
theorem x_mixed_0_4 {n vs : Nat} {be de : Int64} {sz : Int32} {ro co mi : Nat → Int64} {T : Nat → Nat → Int64} {B : Nat → Nat → Nat → Int32} {hd : Nat → Nat → Int32} {df : Nat → Int32} (hn : n ≤ 4) {b : Nat} (hb : b < 4) {k : Nat} (hk : k < 3) (h0 : ¬ detX n (lyT n ((cpX (cpX B 7 6 0 4) 7 0 4 4) 7) T) = 0) : ∃ (be2 de2 : Int64) (sz2 : Int32) (ro2 co2 mi2 : Nat → Int64) (T2 : Nat → Nat → Int64), KX2_mixedTotal l D ca ad [.ref 0, .int 0, .int 4, .int (Int32.ofNat b), .int (Int32.ofNat k)] (XW (Int32.ofNat n) (Int32.ofNat vs) be de sz ro co mi T B hd df) (some (.long (thX (smX n ((cpX (cpX B 7 6 0 4) 7 0 4 4) 7) (roX n (lyT n ((cpX (cpX B 7 6 0 4) 7 0 4 4) 7) T) (hd b) ro) k 1) (absX (detX n (lyT n ((cpX (cpX B 7 6 0 4) 7 0 4 4) 7) T)))))) (XW (Int32.ofNat n) (Int32.ofNat vs) be2 de2 sz2 ro2 co2 mi2 T2 (cpX (cpX B 7 6 0 4) 7 0 4 4) hd df) := by
  obtain ⟨B1, e1⟩ : ∃ z, z = cpX B 7 6 0 4 := ⟨_, rfl⟩
  obtain ⟨B2, e2⟩ : ∃ z, z = cpX B1 7 0 4 4 := ⟨_, rfl⟩
  rw [← e1, ← e2] at h0 ⊢
  obtain ⟨de2, co2, mi2, T2, hk2⟩ := c_solve1_7 (l := l) (D := D) (ca := ca) (ad := ad) (vs := vs) (be := be) (de := de) (sz := sz) (ro := ro) (co := co) (mi := mi) (df := df) (B := B2) hn hb h0
  obtain ⟨r1, er1⟩ : ∃ z, z = roX n (lyT n (B2 7) T) (hd b) ro := ⟨_, rfl⟩
  rw [← er1] at hk2
  rw [← er1]
  obtain ⟨dt, edt⟩ : ∃ z, z = detX n (lyT n (B2 7) T) := ⟨_, rfl⟩
  rw [← edt] at hk2 h0
  rw [← edt]
  refine ⟨absX dt, de2, (Int32.ofNat n), r1, co2, mi2, T2, ?_⟩
  refine PX2_mixedTotal (Nat.le_of_ble_eq_true rfl) ?_
  intro G hT hC hR
  refine mB hT 6 rfl ?_
  refine hC.1 _ 16 [_, _, _] _ _ _ _ _ (show KX0_copyRows l D ca ad _ _ none (XW (Int32.ofNat n) (Int32.ofNat vs) be de sz ro co mi T B1 hd df) from (by rw [e1]; exact c_copy_7_6_0_4)) rfl rfl (Nat.le_of_ble_eq_true rfl) rfl ?_
  refine mB hT 8 rfl ?_
  refine hC.2.1 _ 16 [_, _, _] _ _ _ _ _ (show KX0_copyRows l D ca ad _ _ none (XW (Int32.ofNat n) (Int32.ofNat vs) be de sz ro co mi T B2 hd df) from (by rw [e2]; exact c_copy_7_0_4_4)) rfl rfl (Nat.le_of_ble_eq_true rfl) rfl ?_
  refine mB hT 9 rfl ?_
  refine mAaldH hT (List.mem_of_getElem? (i := 23) rfl) hb ?_
  refine hC.2.2.1 _ 1 [_, _, _] _ _ _ _ _ (hk2) rfl rfl (Nat.le_of_ble_eq_true rfl) rfl ?_
  refine mB hT 7 rfl ?_
  refine hC.2.2.2.1 _ 1 [_, _, _] _ _ _ _ _ (c_sum_7 hn k 1 hk (by decide)) rfl rfl (Nat.le_of_ble_eq_true rfl) rfl ?_
  refine mB hT 3 rfl ?_
  refine hC.2.2.2.2 _ [_, _] _ _ _ _ (c_th (absX_ne h0)) rfl (Nat.le_of_ble_eq_true rfl) rfl ?_
  exact hR _ (by decide) _ _ _ rfl rfl
set_option maxRecDepth 20000 in
theorem x_mixed_B_1_0 {n vs : Nat} {be de : Int64} {sz : Int32} {ro co mi : Nat → Int64} {T : Nat → Nat → Int64} {B : Nat → Nat → Nat → Int32} {hd : Nat → Nat → Int32} {df : Nat → Int32} (hn : n ≤ 4) {b : Nat} (hb : b < 4) {k : Nat} (hk : k < 3) (h0 : detX n (lyT n ((cpX (cpX B 7 6 0 0) 7 1 0 4) 7) T) = 0) : ∃ (be2 de2 : Int64) (sz2 : Int32) (ro2 co2 mi2 : Nat → Int64) (T2 : Nat → Nat → Int64), KX2_mixedTotal l D ca ad [.ref 0, .int 1, .int 0, .int (Int32.ofNat b), .int (Int32.ofNat k)] (XW (Int32.ofNat n) (Int32.ofNat vs) be de sz ro co mi T B hd df) (some (.long (-9000000000000000004))) (XW (Int32.ofNat n) (Int32.ofNat vs) be2 de2 sz2 ro2 co2 mi2 T2 (cpX (cpX B 7 6 0 0) 7 1 0 4) hd df) := by
  obtain ⟨B1, e1⟩ : ∃ z, z = cpX B 7 6 0 0 := ⟨_, rfl⟩
  obtain ⟨B2, e2⟩ : ∃ z, z = cpX B1 7 1 0 4 := ⟨_, rfl⟩
  rw [← e1, ← e2] at h0 ⊢
  obtain ⟨de2, mi2, T2, hk2⟩ := c_solve0_7 (l := l) (D := D) (ca := ca) (ad := ad) (vs := vs) (be := be) (de := de) (sz := sz) (ro := ro) (co := co) (mi := mi) (df := df) (B := B2) hn hb h0
  refine ⟨be, de2, (Int32.ofNat n), ro, co, mi2, T2, ?_⟩
  refine PX2_mixedTotal (Nat.le_of_ble_eq_true rfl) ?_
  intro G hT hC hR
  refine mB hT 6 rfl ?_
  refine hC.1 _ 16 [_, _, _] _ _ _ _ _ (show KX0_copyRows l D ca ad _ _ none (XW (Int32.ofNat n) (Int32.ofNat vs) be de sz ro co mi T B1 hd df) from (by rw [e1]; exact c_copy_7_6_0_0)) rfl rfl (Nat.le_of_ble_eq_true rfl) rfl ?_
  refine mB hT 8 rfl ?_
  refine hC.2.1 _ 16 [_, _, _] _ _ _ _ _ (show KX0_copyRows l D ca ad _ _ none (XW (Int32.ofNat n) (Int32.ofNat vs) be de sz ro co mi T B2 hd df) from (by rw [e2]; exact c_copy_7_1_0_4)) rfl rfl (Nat.le_of_ble_eq_true rfl) rfl ?_
  refine mB hT 9 rfl ?_
  refine mAaldH hT (List.mem_of_getElem? (i := 23) rfl) hb ?_
  refine hC.2.2.1 _ 1 [_, _, _] _ _ _ _ _ (hk2) rfl rfl (Nat.le_of_ble_eq_true rfl) rfl ?_
  refine mB hT 2 rfl ?_
  exact hR _ (by decide) _ _ _ rfl rfl
set_option maxRecDepth 20000 in
theorem x_mixed_1_0 {n vs : Nat} {be de : Int64} {sz : Int32} {ro co mi : Nat → Int64} {T : Nat → Nat → Int64} {B : Nat → Nat → Nat → Int32} {hd : Nat → Nat → Int32} {df : Nat → Int32} (hn : n ≤ 4) {b : Nat} (hb : b < 4) {k : Nat} (hk : k < 3) (h0 : ¬ detX n (lyT n ((cpX (cpX B 7 6 0 0) 7 1 0 4) 7) T) = 0) : ∃ (be2 de2 : Int64) (sz2 : Int32) (ro2 co2 mi2 : Nat → Int64) (T2 : Nat → Nat → Int64), KX2_mixedTotal l D ca ad [.ref 0, .int 1, .int 0, .int (Int32.ofNat b), .int (Int32.ofNat k)] (XW (Int32.ofNat n) (Int32.ofNat vs) be de sz ro co mi T B hd df) (some (.long (thX (smX n ((cpX (cpX B 7 6 0 0) 7 1 0 4) 7) (roX n (lyT n ((cpX (cpX B 7 6 0 0) 7 1 0 4) 7) T) (hd b) ro) k 1) (absX (detX n (lyT n ((cpX (cpX B 7 6 0 0) 7 1 0 4) 7) T)))))) (XW (Int32.ofNat n) (Int32.ofNat vs) be2 de2 sz2 ro2 co2 mi2 T2 (cpX (cpX B 7 6 0 0) 7 1 0 4) hd df) := by
  obtain ⟨B1, e1⟩ : ∃ z, z = cpX B 7 6 0 0 := ⟨_, rfl⟩
  obtain ⟨B2, e2⟩ : ∃ z, z = cpX B1 7 1 0 4 := ⟨_, rfl⟩
  rw [← e1, ← e2] at h0 ⊢
  obtain ⟨de2, co2, mi2, T2, hk2⟩ := c_solve1_7 (l := l) (D := D) (ca := ca) (ad := ad) (vs := vs) (be := be) (de := de) (sz := sz) (ro := ro) (co := co) (mi := mi) (df := df) (B := B2) hn hb h0
  obtain ⟨r1, er1⟩ : ∃ z, z = roX n (lyT n (B2 7) T) (hd b) ro := ⟨_, rfl⟩
  rw [← er1] at hk2
  rw [← er1]
  obtain ⟨dt, edt⟩ : ∃ z, z = detX n (lyT n (B2 7) T) := ⟨_, rfl⟩
  rw [← edt] at hk2 h0
  rw [← edt]
  refine ⟨absX dt, de2, (Int32.ofNat n), r1, co2, mi2, T2, ?_⟩
  refine PX2_mixedTotal (Nat.le_of_ble_eq_true rfl) ?_
  intro G hT hC hR
  refine mB hT 6 rfl ?_
  refine hC.1 _ 16 [_, _, _] _ _ _ _ _ (show KX0_copyRows l D ca ad _ _ none (XW (Int32.ofNat n) (Int32.ofNat vs) be de sz ro co mi T B1 hd df) from (by rw [e1]; exact c_copy_7_6_0_0)) rfl rfl (Nat.le_of_ble_eq_true rfl) rfl ?_
  refine mB hT 8 rfl ?_
  refine hC.2.1 _ 16 [_, _, _] _ _ _ _ _ (show KX0_copyRows l D ca ad _ _ none (XW (Int32.ofNat n) (Int32.ofNat vs) be de sz ro co mi T B2 hd df) from (by rw [e2]; exact c_copy_7_1_0_4)) rfl rfl (Nat.le_of_ble_eq_true rfl) rfl ?_
  refine mB hT 9 rfl ?_
  refine mAaldH hT (List.mem_of_getElem? (i := 23) rfl) hb ?_
  refine hC.2.2.1 _ 1 [_, _, _] _ _ _ _ _ (hk2) rfl rfl (Nat.le_of_ble_eq_true rfl) rfl ?_
  refine mB hT 7 rfl ?_
  refine hC.2.2.2.1 _ 1 [_, _, _] _ _ _ _ _ (c_sum_7 hn k 1 hk (by decide)) rfl rfl (Nat.le_of_ble_eq_true rfl) rfl ?_
  refine mB hT 3 rfl ?_
  refine hC.2.2.2.2 _ [_, _] _ _ _ _ (c_th (absX_ne h0)) rfl (Nat.le_of_ble_eq_true rfl) rfl ?_
  exact hR _ (by decide) _ _ _ rfl rfl
set_option maxRecDepth 20000 in
theorem x_mixed_B_1_1 {n vs : Nat} {be de : Int64} {sz : Int32} {ro co mi : Nat → Int64} {T : Nat → Nat → Int64} {B : Nat → Nat → Nat → Int32} {hd : Nat → Nat → Int32} {df : Nat → Int32} (hn : n ≤ 4) {b : Nat} (hb : b < 4) {k : Nat} (hk : k < 3) (h0 : detX n (lyT n ((cpX (cpX B 7 6 0 1) 7 1 1 4) 7) T) = 0) : ∃ (be2 de2 : Int64) (sz2 : Int32) (ro2 co2 mi2 : Nat → Int64) (T2 : Nat → Nat → Int64), KX2_mixedTotal l D ca ad [.ref 0, .int 1, .int 1, .int (Int32.ofNat b), .int (Int32.ofNat k)] (XW (Int32.ofNat n) (Int32.ofNat vs) be de sz ro co mi T B hd df) (some (.long (-9000000000000000004))) (XW (Int32.ofNat n) (Int32.ofNat vs) be2 de2 sz2 ro2 co2 mi2 T2 (cpX (cpX B 7 6 0 1) 7 1 1 4) hd df) := by
  obtain ⟨B1, e1⟩ : ∃ z, z = cpX B 7 6 0 1 := ⟨_, rfl⟩
  obtain ⟨B2, e2⟩ : ∃ z, z = cpX B1 7 1 1 4 := ⟨_, rfl⟩
  rw [← e1, ← e2] at h0 ⊢
  obtain ⟨de2, mi2, T2, hk2⟩ := c_solve0_7 (l := l) (D := D) (ca := ca) (ad := ad) (vs := vs) (be := be) (de := de) (sz := sz) (ro := ro) (co := co) (mi := mi) (df := df) (B := B2) hn hb h0
  refine ⟨be, de2, (Int32.ofNat n), ro, co, mi2, T2, ?_⟩
  refine PX2_mixedTotal (Nat.le_of_ble_eq_true rfl) ?_
  intro G hT hC hR
  refine mB hT 6 rfl ?_
  refine hC.1 _ 16 [_, _, _] _ _ _ _ _ (show KX0_copyRows l D ca ad _ _ none (XW (Int32.ofNat n) (Int32.ofNat vs) be de sz ro co mi T B1 hd df) from (by rw [e1]; exact c_copy_7_6_0_1)) rfl rfl (Nat.le_of_ble_eq_true rfl) rfl ?_
  refine mB hT 8 rfl ?_
  refine hC.2.1 _ 16 [_, _, _] _ _ _ _ _ (show KX0_copyRows l D ca ad _ _ none (XW (Int32.ofNat n) (Int32.ofNat vs) be de sz ro co mi T B2 hd df) from (by rw [e2]; exact c_copy_7_1_1_4)) rfl rfl (Nat.le_of_ble_eq_true rfl) rfl ?_
  refine mB hT 9 rfl ?_
  refine mAaldH hT (List.mem_of_getElem? (i := 23) rfl) hb ?_
  refine hC.2.2.1 _ 1 [_, _, _] _ _ _ _ _ (hk2) rfl rfl (Nat.le_of_ble_eq_true rfl) rfl ?_
  refine mB hT 2 rfl ?_
  exact hR _ (by decide) _ _ _ rfl rfl
set_option maxRecDepth 20000 in
theorem x_mixed_1_1 {n vs : Nat} {be de : Int64} {sz : Int32} {ro co mi : Nat → Int64} {T : Nat → Nat → Int64} {B : Nat → Nat → Nat → Int32} {hd : Nat → Nat → Int32} {df : Nat → Int32} (hn : n ≤ 4) {b : Nat} (hb : b < 4) {k : Nat} (hk : k < 3) (h0 : ¬ detX n (lyT n ((cpX (cpX B 7 6 0 1) 7 1 1 4) 7) T) = 0) : ∃ (be2 de2 : Int64) (sz2 : Int32) (ro2 co2 mi2 : Nat → Int64) (T2 : Nat → Nat → Int64), KX2_mixedTotal l D ca ad [.ref 0, .int 1, .int 1, .int (Int32.ofNat b), .int (Int32.ofNat k)] (XW (Int32.ofNat n) (Int32.ofNat vs) be de sz ro co mi T B hd df) (some (.long (thX (smX n ((cpX (cpX B 7 6 0 1) 7 1 1 4) 7) (roX n (lyT n ((cpX (cpX B 7 6 0 1) 7 1 1 4) 7) T) (hd b) ro) k 1) (absX (detX n (lyT n ((cpX (cpX B 7 6 0 1) 7 1 1 4) 7) T)))))) (XW (Int32.ofNat n) (Int32.ofNat vs) be2 de2 sz2 ro2 co2 mi2 T2 (cpX (cpX B 7 6 0 1) 7 1 1 4) hd df) := by
  obtain ⟨B1, e1⟩ : ∃ z, z = cpX B 7 6 0 1 := ⟨_, rfl⟩
  obtain ⟨B2, e2⟩ : ∃ z, z = cpX B1 7 1 1 4 := ⟨_, rfl⟩
  rw [← e1, ← e2] at h0 ⊢
  obtain ⟨de2, co2, mi2, T2, hk2⟩ := c_solve1_7 (l := l) (D := D) (ca := ca) (ad := ad) (vs := vs) (be := be) (de := de) (sz := sz) (ro := ro) (co := co) (mi := mi) (df := df) (B := B2) hn hb h0
  obtain ⟨r1, er1⟩ : ∃ z, z = roX n (lyT n (B2 7) T) (hd b) ro := ⟨_, rfl⟩
  rw [← er1] at hk2
  rw [← er1]
  obtain ⟨dt, edt⟩ : ∃ z, z = detX n (lyT n (B2 7) T) := ⟨_, rfl⟩
  rw [← edt] at hk2 h0
  rw [← edt]
  refine ⟨absX dt, de2, (Int32.ofNat n), r1, co2, mi2, T2, ?_⟩
  refine PX2_mixedTotal (Nat.le_of_ble_eq_true rfl) ?_
  intro G hT hC hR
  refine mB hT 6 rfl ?_
  refine hC.1 _ 16 [_, _, _] _ _ _ _ _ (show KX0_copyRows l D ca ad _ _ none (XW (Int32.ofNat n) (Int32.ofNat vs) be de sz ro co mi T B1 hd df) from (by rw [e1]; exact c_copy_7_6_0_1)) rfl rfl (Nat.le_of_ble_eq_true rfl) rfl ?_
  refine mB hT 8 rfl ?_
  refine hC.2.1 _ 16 [_, _, _] _ _ _ _ _ (show KX0_copyRows l D ca ad _ _ none (XW (Int32.ofNat n) (Int32.ofNat vs) be de sz ro co mi T B2 hd df) from (by rw [e2]; exact c_copy_7_1_1_4)) rfl rfl (Nat.le_of_ble_eq_true rfl) rfl ?_
  refine mB hT 9 rfl ?_
  refine mAaldH hT (List.mem_of_getElem? (i := 23) rfl) hb ?_
  refine hC.2.2.1 _ 1 [_, _, _] _ _ _ _ _ (hk2) rfl rfl (Nat.le_of_ble_eq_true rfl) rfl ?_
  refine mB hT 7 rfl ?_
  refine hC.2.2.2.1 _ 1 [_, _, _] _ _ _ _ _ (c_sum_7 hn k 1 hk (by decide)) rfl rfl (Nat.le_of_ble_eq_true rfl) rfl ?_
  refine mB hT 3 rfl ?_
  refine hC.2.2.2.2 _ [_, _] _ _ _ _ (c_th (absX_ne h0)) rfl (Nat.le_of_ble_eq_true rfl) rfl ?_
  exact hR _ (by decide) _ _ _ rfl rfl
set_option maxRecDepth 20000 in
theorem x_mixed_B_1_2 {n vs : Nat} {be de : Int64} {sz : Int32} {ro co mi : Nat → Int64} {T : Nat → Nat → Int64} {B : Nat → Nat → Nat → Int32} {hd : Nat → Nat → Int32} {df : Nat → Int32} (hn : n ≤ 4) {b : Nat} (hb : b < 4) {k : Nat} (hk : k < 3) (h0 : detX n (lyT n ((cpX (cpX B 7 6 0 2) 7 1 2 4) 7) T) = 0) : ∃ (be2 de2 : Int64) (sz2 : Int32) (ro2 co2 mi2 : Nat → Int64) (T2 : Nat → Nat → Int64), KX2_mixedTotal l D ca ad [.ref 0, .int 1, .int 2, .int (Int32.ofNat b), .int (Int32.ofNat k)] (XW (Int32.ofNat n) (Int32.ofNat vs) be de sz ro co mi T B hd df) (some (.long (-9000000000000000004))) (XW (Int32.ofNat n) (Int32.ofNat vs) be2 de2 sz2 ro2 co2 mi2 T2 (cpX (cpX B 7 6 0 2) 7 1 2 4) hd df) := by
  obtain ⟨B1, e1⟩ : ∃ z, z = cpX B 7 6 0 2 := ⟨_, rfl⟩
  obtain ⟨B2, e2⟩ : ∃ z, z = cpX B1 7 1 2 4 := ⟨_, rfl⟩
  rw [← e1, ← e2] at h0 ⊢
  obtain ⟨de2, mi2, T2, hk2⟩ := c_solve0_7 (l := l) (D := D) (ca := ca) (ad := ad) (vs := vs) (be := be) (de := de) (sz := sz) (ro := ro) (co := co) (mi := mi) (df := df) (B := B2) hn hb h0
  refine ⟨be, de2, (Int32.ofNat n), ro, co, mi2, T2, ?_⟩
  refine PX2_mixedTotal (Nat.le_of_ble_eq_true rfl) ?_
  intro G hT hC hR
  refine mB hT 6 rfl ?_
  refine hC.1 _ 16 [_, _, _] _ _ _ _ _ (show KX0_copyRows l D ca ad _ _ none (XW (Int32.ofNat n) (Int32.ofNat vs) be de sz ro co mi T B1 hd df) from (by rw [e1]; exact c_copy_7_6_0_2)) rfl rfl (Nat.le_of_ble_eq_true rfl) rfl ?_
  refine mB hT 8 rfl ?_
  refine hC.2.1 _ 16 [_, _, _] _ _ _ _ _ (show KX0_copyRows l D ca ad _ _ none (XW (Int32.ofNat n) (Int32.ofNat vs) be de sz ro co mi T B2 hd df) from (by rw [e2]; exact c_copy_7_1_2_4)) rfl rfl (Nat.le_of_ble_eq_true rfl) rfl ?_
  refine mB hT 9 rfl ?_
  refine mAaldH hT (List.mem_of_getElem? (i := 23) rfl) hb ?_
  refine hC.2.2.1 _ 1 [_, _, _] _ _ _ _ _ (hk2) rfl rfl (Nat.le_of_ble_eq_true rfl) rfl ?_
  refine mB hT 2 rfl ?_
  exact hR _ (by decide) _ _ _ rfl rfl
set_option maxRecDepth 20000 in
theorem x_mixed_1_2 {n vs : Nat} {be de : Int64} {sz : Int32} {ro co mi : Nat → Int64} {T : Nat → Nat → Int64} {B : Nat → Nat → Nat → Int32} {hd : Nat → Nat → Int32} {df : Nat → Int32} (hn : n ≤ 4) {b : Nat} (hb : b < 4) {k : Nat} (hk : k < 3) (h0 : ¬ detX n (lyT n ((cpX (cpX B 7 6 0 2) 7 1 2 4) 7) T) = 0) : ∃ (be2 de2 : Int64) (sz2 : Int32) (ro2 co2 mi2 : Nat → Int64) (T2 : Nat → Nat → Int64), KX2_mixedTotal l D ca ad [.ref 0, .int 1, .int 2, .int (Int32.ofNat b), .int (Int32.ofNat k)] (XW (Int32.ofNat n) (Int32.ofNat vs) be de sz ro co mi T B hd df) (some (.long (thX (smX n ((cpX (cpX B 7 6 0 2) 7 1 2 4) 7) (roX n (lyT n ((cpX (cpX B 7 6 0 2) 7 1 2 4) 7) T) (hd b) ro) k 1) (absX (detX n (lyT n ((cpX (cpX B 7 6 0 2) 7 1 2 4) 7) T)))))) (XW (Int32.ofNat n) (Int32.ofNat vs) be2 de2 sz2 ro2 co2 mi2 T2 (cpX (cpX B 7 6 0 2) 7 1 2 4) hd df) := by
  obtain ⟨B1, e1⟩ : ∃ z, z = cpX B 7 6 0 2 := ⟨_, rfl⟩
  obtain ⟨B2, e2⟩ : ∃ z, z = cpX B1 7 1 2 4 := ⟨_, rfl⟩
  rw [← e1, ← e2] at h0 ⊢
  obtain ⟨de2, co2, mi2, T2, hk2⟩ := c_solve1_7 (l := l) (D := D) (ca := ca) (ad := ad) (vs := vs) (be := be) (de := de) (sz := sz) (ro := ro) (co := co) (mi := mi) (df := df) (B := B2) hn hb h0
  obtain ⟨r1, er1⟩ : ∃ z, z = roX n (lyT n (B2 7) T) (hd b) ro := ⟨_, rfl⟩
  rw [← er1] at hk2
  rw [← er1]
  obtain ⟨dt, edt⟩ : ∃ z, z = detX n (lyT n (B2 7) T) := ⟨_, rfl⟩
  rw [← edt] at hk2 h0
  rw [← edt]
  refine ⟨absX dt, de2, (Int32.ofNat n), r1, co2, mi2, T2, ?_⟩
  refine PX2_mixedTotal (Nat.le_of_ble_eq_true rfl) ?_
  intro G hT hC hR
  refine mB hT 6 rfl ?_
  refine hC.1 _ 16 [_, _, _] _ _ _ _ _ (show KX0_copyRows l D ca ad _ _ none (XW (Int32.ofNat n) (Int32.ofNat vs) be de sz ro co mi T B1 hd df) from (by rw [e1]; exact c_copy_7_6_0_2)) rfl rfl (Nat.le_of_ble_eq_true rfl) rfl ?_
  refine mB hT 8 rfl ?_
  refine hC.2.1 _ 16 [_, _, _] _ _ _ _ _ (show KX0_copyRows l D ca ad _ _ none (XW (Int32.ofNat n) (Int32.ofNat vs) be de sz ro co mi T B2 hd df) from (by rw [e2]; exact c_copy_7_1_2_4)) rfl rfl (Nat.le_of_ble_eq_true rfl) rfl ?_
  refine mB hT 9 rfl ?_
  refine mAaldH hT (List.mem_of_getElem? (i := 23) rfl) hb ?_
  refine hC.2.2.1 _ 1 [_, _, _] _ _ _ _ _ (hk2) rfl rfl (Nat.le_of_ble_eq_true rfl) rfl ?_
  refine mB hT 7 rfl ?_
  refine hC.2.2.2.1 _ 1 [_, _, _] _ _ _ _ _ (c_sum_7 hn k 1 hk (by decide)) rfl rfl (Nat.le_of_ble_eq_true rfl) rfl ?_
  refine mB hT 3 rfl ?_
  refine hC.2.2.2.2 _ [_, _] _ _ _ _ (c_th (absX_ne h0)) rfl (Nat.le_of_ble_eq_true rfl) rfl ?_
  exact hR _ (by decide) _ _ _ rfl rfl
set_option maxRecDepth 20000 in
theorem x_mixed_B_1_3 {n vs : Nat} {be de : Int64} {sz : Int32} {ro co mi : Nat → Int64} {T : Nat → Nat → Int64} {B : Nat → Nat → Nat → Int32} {hd : Nat → Nat → Int32} {df : Nat → Int32} (hn : n ≤ 4) {b : Nat} (hb : b < 4) {k : Nat} (hk : k < 3) (h0 : detX n (lyT n ((cpX (cpX B 7 6 0 3) 7 1 3 4) 7) T) = 0) : ∃ (be2 de2 : Int64) (sz2 : Int32) (ro2 co2 mi2 : Nat → Int64) (T2 : Nat → Nat → Int64), KX2_mixedTotal l D ca ad [.ref 0, .int 1, .int 3, .int (Int32.ofNat b), .int (Int32.ofNat k)] (XW (Int32.ofNat n) (Int32.ofNat vs) be de sz ro co mi T B hd df) (some (.long (-9000000000000000004))) (XW (Int32.ofNat n) (Int32.ofNat vs) be2 de2 sz2 ro2 co2 mi2 T2 (cpX (cpX B 7 6 0 3) 7 1 3 4) hd df) := by
  obtain ⟨B1, e1⟩ : ∃ z, z = cpX B 7 6 0 3 := ⟨_, rfl⟩
  obtain ⟨B2, e2⟩ : ∃ z, z = cpX B1 7 1 3 4 := ⟨_, rfl⟩
  rw [← e1, ← e2] at h0 ⊢
  obtain ⟨de2, mi2, T2, hk2⟩ := c_solve0_7 (l := l) (D := D) (ca := ca) (ad := ad) (vs := vs) (be := be) (de := de) (sz := sz) (ro := ro) (co := co) (mi := mi) (df := df) (B := B2) hn hb h0
  refine ⟨be, de2, (Int32.ofNat n), ro, co, mi2, T2, ?_⟩
  refine PX2_mixedTotal (Nat.le_of_ble_eq_true rfl) ?_
  intro G hT hC hR
  refine mB hT 6 rfl ?_
  refine hC.1 _ 16 [_, _, _] _ _ _ _ _ (show KX0_copyRows l D ca ad _ _ none (XW (Int32.ofNat n) (Int32.ofNat vs) be de sz ro co mi T B1 hd df) from (by rw [e1]; exact c_copy_7_6_0_3)) rfl rfl (Nat.le_of_ble_eq_true rfl) rfl ?_
  refine mB hT 8 rfl ?_
  refine hC.2.1 _ 16 [_, _, _] _ _ _ _ _ (show KX0_copyRows l D ca ad _ _ none (XW (Int32.ofNat n) (Int32.ofNat vs) be de sz ro co mi T B2 hd df) from (by rw [e2]; exact c_copy_7_1_3_4)) rfl rfl (Nat.le_of_ble_eq_true rfl) rfl ?_
  refine mB hT 9 rfl ?_
  refine mAaldH hT (List.mem_of_getElem? (i := 23) rfl) hb ?_
  refine hC.2.2.1 _ 1 [_, _, _] _ _ _ _ _ (hk2) rfl rfl (Nat.le_of_ble_eq_true rfl) rfl ?_
  refine mB hT 2 rfl ?_
  exact hR _ (by decide) _ _ _ rfl rfl
set_option maxRecDepth 20000 in
theorem x_mixed_1_3 {n vs : Nat} {be de : Int64} {sz : Int32} {ro co mi : Nat → Int64} {T : Nat → Nat → Int64} {B : Nat → Nat → Nat → Int32} {hd : Nat → Nat → Int32} {df : Nat → Int32} (hn : n ≤ 4) {b : Nat} (hb : b < 4) {k : Nat} (hk : k < 3) (h0 : ¬ detX n (lyT n ((cpX (cpX B 7 6 0 3) 7 1 3 4) 7) T) = 0) : ∃ (be2 de2 : Int64) (sz2 : Int32) (ro2 co2 mi2 : Nat → Int64) (T2 : Nat → Nat → Int64), KX2_mixedTotal l D ca ad [.ref 0, .int 1, .int 3, .int (Int32.ofNat b), .int (Int32.ofNat k)] (XW (Int32.ofNat n) (Int32.ofNat vs) be de sz ro co mi T B hd df) (some (.long (thX (smX n ((cpX (cpX B 7 6 0 3) 7 1 3 4) 7) (roX n (lyT n ((cpX (cpX B 7 6 0 3) 7 1 3 4) 7) T) (hd b) ro) k 1) (absX (detX n (lyT n ((cpX (cpX B 7 6 0 3) 7 1 3 4) 7) T)))))) (XW (Int32.ofNat n) (Int32.ofNat vs) be2 de2 sz2 ro2 co2 mi2 T2 (cpX (cpX B 7 6 0 3) 7 1 3 4) hd df) := by
  obtain ⟨B1, e1⟩ : ∃ z, z = cpX B 7 6 0 3 := ⟨_, rfl⟩
  obtain ⟨B2, e2⟩ : ∃ z, z = cpX B1 7 1 3 4 := ⟨_, rfl⟩
  rw [← e1, ← e2] at h0 ⊢
  obtain ⟨de2, co2, mi2, T2, hk2⟩ := c_solve1_7 (l := l) (D := D) (ca := ca) (ad := ad) (vs := vs) (be := be) (de := de) (sz := sz) (ro := ro) (co := co) (mi := mi) (df := df) (B := B2) hn hb h0
  obtain ⟨r1, er1⟩ : ∃ z, z = roX n (lyT n (B2 7) T) (hd b) ro := ⟨_, rfl⟩
  rw [← er1] at hk2
  rw [← er1]
  obtain ⟨dt, edt⟩ : ∃ z, z = detX n (lyT n (B2 7) T) := ⟨_, rfl⟩
  rw [← edt] at hk2 h0
  rw [← edt]
  refine ⟨absX dt, de2, (Int32.ofNat n), r1, co2, mi2, T2, ?_⟩
  refine PX2_mixedTotal (Nat.le_of_ble_eq_true rfl) ?_
  intro G hT hC hR
  refine mB hT 6 rfl ?_
  refine hC.1 _ 16 [_, _, _] _ _ _ _ _ (show KX0_copyRows l D ca ad _ _ none (XW (Int32.ofNat n) (Int32.ofNat vs) be de sz ro co mi T B1 hd df) from (by rw [e1]; exact c_copy_7_6_0_3)) rfl rfl (Nat.le_of_ble_eq_true rfl) rfl ?_
  refine mB hT 8 rfl ?_
  refine hC.2.1 _ 16 [_, _, _] _ _ _ _ _ (show KX0_copyRows l D ca ad _ _ none (XW (Int32.ofNat n) (Int32.ofNat vs) be de sz ro co mi T B2 hd df) from (by rw [e2]; exact c_copy_7_1_3_4)) rfl rfl (Nat.le_of_ble_eq_true rfl) rfl ?_
  refine mB hT 9 rfl ?_
  refine mAaldH hT (List.mem_of_getElem? (i := 23) rfl) hb ?_
  refine hC.2.2.1 _ 1 [_, _, _] _ _ _ _ _ (hk2) rfl rfl (Nat.le_of_ble_eq_true rfl) rfl ?_
  refine mB hT 7 rfl ?_
  refine hC.2.2.2.1 _ 1 [_, _, _] _ _ _ _ _ (c_sum_7 hn k 1 hk (by decide)) rfl rfl (Nat.le_of_ble_eq_true rfl) rfl ?_
  refine mB hT 3 rfl ?_
  refine hC.2.2.2.2 _ [_, _] _ _ _ _ (c_th (absX_ne h0)) rfl (Nat.le_of_ble_eq_true rfl) rfl ?_
  exact hR _ (by decide) _ _ _ rfl rfl
set_option maxRecDepth 20000 in
theorem x_mixed_B_1_4 {n vs : Nat} {be de : Int64} {sz : Int32} {ro co mi : Nat → Int64} {T : Nat → Nat → Int64} {B : Nat → Nat → Nat → Int32} {hd : Nat → Nat → Int32} {df : Nat → Int32} (hn : n ≤ 4) {b : Nat} (hb : b < 4) {k : Nat} (hk : k < 3) (h0 : detX n (lyT n ((cpX (cpX B 7 6 0 4) 7 1 4 4) 7) T) = 0) : ∃ (be2 de2 : Int64) (sz2 : Int32) (ro2 co2 mi2 : Nat → Int64) (T2 : Nat → Nat → Int64), KX2_mixedTotal l D ca ad [.ref 0, .int 1, .int 4, .int (Int32.ofNat b), .int (Int32.ofNat k)] (XW (Int32.ofNat n) (Int32.ofNat vs) be de sz ro co mi T B hd df) (some (.long (-9000000000000000004))) (XW (Int32.ofNat n) (Int32.ofNat vs) be2 de2 sz2 ro2 co2 mi2 T2 (cpX (cpX B 7 6 0 4) 7 1 4 4) hd df) := by
  obtain ⟨B1, e1⟩ : ∃ z, z = cpX B 7 6 0 4 := ⟨_, rfl⟩
  obtain ⟨B2, e2⟩ : ∃ z, z = cpX B1 7 1 4 4 := ⟨_, rfl⟩
  rw [← e1, ← e2] at h0 ⊢
  obtain ⟨de2, mi2, T2, hk2⟩ := c_solve0_7 (l := l) (D := D) (ca := ca) (ad := ad) (vs := vs) (be := be) (de := de) (sz := sz) (ro := ro) (co := co) (mi := mi) (df := df) (B := B2) hn hb h0
  refine ⟨be, de2, (Int32.ofNat n), ro, co, mi2, T2, ?_⟩
  refine PX2_mixedTotal (Nat.le_of_ble_eq_true rfl) ?_
  intro G hT hC hR
  refine mB hT 6 rfl ?_
  refine hC.1 _ 16 [_, _, _] _ _ _ _ _ (show KX0_copyRows l D ca ad _ _ none (XW (Int32.ofNat n) (Int32.ofNat vs) be de sz ro co mi T B1 hd df) from (by rw [e1]; exact c_copy_7_6_0_4)) rfl rfl (Nat.le_of_ble_eq_true rfl) rfl ?_
  refine mB hT 8 rfl ?_
  refine hC.2.1 _ 16 [_, _, _] _ _ _ _ _ (show KX0_copyRows l D ca ad _ _ none (XW (Int32.ofNat n) (Int32.ofNat vs) be de sz ro co mi T B2 hd df) from (by rw [e2]; exact c_copy_7_1_4_4)) rfl rfl (Nat.le_of_ble_eq_true rfl) rfl ?_
  refine mB hT 9 rfl ?_
  refine mAaldH hT (List.mem_of_getElem? (i := 23) rfl) hb ?_
  refine hC.2.2.1 _ 1 [_, _, _] _ _ _ _ _ (hk2) rfl rfl (Nat.le_of_ble_eq_true rfl) rfl ?_
  refine mB hT 2 rfl ?_
  exact hR _ (by decide) _ _ _ rfl rfl
set_option maxRecDepth 20000 in
theorem x_mixed_1_4 {n vs : Nat} {be de : Int64} {sz : Int32} {ro co mi : Nat → Int64} {T : Nat → Nat → Int64} {B : Nat → Nat → Nat → Int32} {hd : Nat → Nat → Int32} {df : Nat → Int32} (hn : n ≤ 4) {b : Nat} (hb : b < 4) {k : Nat} (hk : k < 3) (h0 : ¬ detX n (lyT n ((cpX (cpX B 7 6 0 4) 7 1 4 4) 7) T) = 0) : ∃ (be2 de2 : Int64) (sz2 : Int32) (ro2 co2 mi2 : Nat → Int64) (T2 : Nat → Nat → Int64), KX2_mixedTotal l D ca ad [.ref 0, .int 1, .int 4, .int (Int32.ofNat b), .int (Int32.ofNat k)] (XW (Int32.ofNat n) (Int32.ofNat vs) be de sz ro co mi T B hd df) (some (.long (thX (smX n ((cpX (cpX B 7 6 0 4) 7 1 4 4) 7) (roX n (lyT n ((cpX (cpX B 7 6 0 4) 7 1 4 4) 7) T) (hd b) ro) k 1) (absX (detX n (lyT n ((cpX (cpX B 7 6 0 4) 7 1 4 4) 7) T)))))) (XW (Int32.ofNat n) (Int32.ofNat vs) be2 de2 sz2 ro2 co2 mi2 T2 (cpX (cpX B 7 6 0 4) 7 1 4 4) hd df) := by
  obtain ⟨B1, e1⟩ : ∃ z, z = cpX B 7 6 0 4 := ⟨_, rfl⟩
  obtain ⟨B2, e2⟩ : ∃ z, z = cpX B1 7 1 4 4 := ⟨_, rfl⟩
  rw [← e1, ← e2] at h0 ⊢
  obtain ⟨de2, co2, mi2, T2, hk2⟩ := c_solve1_7 (l := l) (D := D) (ca := ca) (ad := ad) (vs := vs) (be := be) (de := de) (sz := sz) (ro := ro) (co := co) (mi := mi) (df := df) (B := B2) hn hb h0
  obtain ⟨r1, er1⟩ : ∃ z, z = roX n (lyT n (B2 7) T) (hd b) ro := ⟨_, rfl⟩
  rw [← er1] at hk2
  rw [← er1]
  obtain ⟨dt, edt⟩ : ∃ z, z = detX n (lyT n (B2 7) T) := ⟨_, rfl⟩
  rw [← edt] at hk2 h0
  rw [← edt]
  refine ⟨absX dt, de2, (Int32.ofNat n), r1, co2, mi2, T2, ?_⟩
  refine PX2_mixedTotal (Nat.le_of_ble_eq_true rfl) ?_
  intro G hT hC hR
  refine mB hT 6 rfl ?_
  refine hC.1 _ 16 [_, _, _] _ _ _ _ _ (show KX0_copyRows l D ca ad _ _ none (XW (Int32.ofNat n) (Int32.ofNat vs) be de sz ro co mi T B1 hd df) from (by rw [e1]; exact c_copy_7_6_0_4)) rfl rfl (Nat.le_of_ble_eq_true rfl) rfl ?_
  refine mB hT 8 rfl ?_
  refine hC.2.1 _ 16 [_, _, _] _ _ _ _ _ (show KX0_copyRows l D ca ad _ _ none (XW (Int32.ofNat n) (Int32.ofNat vs) be de sz ro co mi T B2 hd df) from (by rw [e2]; exact c_copy_7_1_4_4)) rfl rfl (Nat.le_of_ble_eq_true rfl) rfl ?_
  refine mB hT 9 rfl ?_
  refine mAaldH hT (List.mem_of_getElem? (i := 23) rfl) hb ?_
  refine hC.2.2.1 _ 1 [_, _, _] _ _ _ _ _ (hk2) rfl rfl (Nat.le_of_ble_eq_true rfl) rfl ?_
  refine mB hT 7 rfl ?_
  refine hC.2.2.2.1 _ 1 [_, _, _] _ _ _ _ _ (c_sum_7 hn k 1 hk (by decide)) rfl rfl (Nat.le_of_ble_eq_true rfl) rfl ?_
  refine mB hT 3 rfl ?_
  refine hC.2.2.2.2 _ [_, _] _ _ _ _ (c_th (absX_ne h0)) rfl (Nat.le_of_ble_eq_true rfl) rfl ?_
  exact hR _ (by decide) _ _ _ rfl rfl
set_option maxRecDepth 20000 in
theorem x_mixed_B_2_0 {n vs : Nat} {be de : Int64} {sz : Int32} {ro co mi : Nat → Int64} {T : Nat → Nat → Int64} {B : Nat → Nat → Nat → Int32} {hd : Nat → Nat → Int32} {df : Nat → Int32} (hn : n ≤ 4) {b : Nat} (hb : b < 4) {k : Nat} (hk : k < 3) (h0 : detX n (lyT n ((cpX (cpX B 7 6 0 0) 7 2 0 4) 7) T) = 0) : ∃ (be2 de2 : Int64) (sz2 : Int32) (ro2 co2 mi2 : Nat → Int64) (T2 : Nat → Nat → Int64), KX2_mixedTotal l D ca ad [.ref 0, .int 2, .int 0, .int (Int32.ofNat b), .int (Int32.ofNat k)] (XW (Int32.ofNat n) (Int32.ofNat vs) be de sz ro co mi T B hd df) (some (.long (-9000000000000000004))) (XW (Int32.ofNat n) (Int32.ofNat vs) be2 de2 sz2 ro2 co2 mi2 T2 (cpX (cpX B 7 6 0 0) 7 2 0 4) hd df) := by
  obtain ⟨B1, e1⟩ : ∃ z, z = cpX B 7 6 0 0 := ⟨_, rfl⟩
  obtain ⟨B2, e2⟩ : ∃ z, z = cpX B1 7 2 0 4 := ⟨_, rfl⟩
  rw [← e1, ← e2] at h0 ⊢
  obtain ⟨de2, mi2, T2, hk2⟩ := c_solve0_7 (l := l) (D := D) (ca := ca) (ad := ad) (vs := vs) (be := be) (de := de) (sz := sz) (ro := ro) (co := co) (mi := mi) (df := df) (B := B2) hn hb h0
  refine ⟨be, de2, (Int32.ofNat n), ro, co, mi2, T2, ?_⟩
  refine PX2_mixedTotal (Nat.le_of_ble_eq_true rfl) ?_
  intro G hT hC hR
  refine mB hT 6 rfl ?_
  refine hC.1 _ 16 [_, _, _] _ _ _ _ _ (show KX0_copyRows l D ca ad _ _ none (XW (Int32.ofNat n) (Int32.ofNat vs) be de sz ro co mi T B1 hd df) from (by rw [e1]; exact c_copy_7_6_0_0)) rfl rfl (Nat.le_of_ble_eq_true rfl) rfl ?_
  refine mB hT 8 rfl ?_
  refine hC.2.1 _ 16 [_, _, _] _ _ _ _ _ (show KX0_copyRows l D ca ad _ _ none (XW (Int32.ofNat n) (Int32.ofNat vs) be de sz ro co mi T B2 hd df) from (by rw [e2]; exact c_copy_7_2_0_4)) rfl rfl (Nat.le_of_ble_eq_true rfl) rfl ?_
  refine mB hT 9 rfl ?_
  refine mAaldH hT (List.mem_of_getElem? (i := 23) rfl) hb ?_
  refine hC.2.2.1 _ 1 [_, _, _] _ _ _ _ _ (hk2) rfl rfl (Nat.le_of_ble_eq_true rfl) rfl ?_
  refine mB hT 2 rfl ?_
  exact hR _ (by decide) _ _ _ rfl rfl
set_option maxRecDepth 20000 in
theorem x_mixed_2_0 {n vs : Nat} {be de : Int64} {sz : Int32} {ro co mi : Nat → Int64} {T : Nat → Nat → Int64} {B : Nat → Nat → Nat → Int32} {hd : Nat → Nat → Int32} {df : Nat → Int32} (hn : n ≤ 4) {b : Nat} (hb : b < 4) {k : Nat} (hk : k < 3) (h0 : ¬ detX n (lyT n ((cpX (cpX B 7 6 0 0) 7 2 0 4) 7) T) = 0) : ∃ (be2 de2 : Int64) (sz2 : Int32) (ro2 co2 mi2 : Nat → Int64) (T2 : Nat → Nat → Int64), KX2_mixedTotal l D ca ad [.ref 0, .int 2, .int 0, .int (Int32.ofNat b), .int (Int32.ofNat k)] (XW (Int32.ofNat n) (Int32.ofNat vs) be de sz ro co mi T B hd df) (some (.long (thX (smX n ((cpX (cpX B 7 6 0 0) 7 2 0 4) 7) (roX n (lyT n ((cpX (cpX B 7 6 0 0) 7 2 0 4) 7) T) (hd b) ro) k 1) (absX (detX n (lyT n ((cpX (cpX B 7 6 0 0) 7 2 0 4) 7) T)))))) (XW (Int32.ofNat n) (Int32.ofNat vs) be2 de2 sz2 ro2 co2 mi2 T2 (cpX (cpX B 7 6 0 0) 7 2 0 4) hd df) := by
  obtain ⟨B1, e1⟩ : ∃ z, z = cpX B 7 6 0 0 := ⟨_, rfl⟩
  obtain ⟨B2, e2⟩ : ∃ z, z = cpX B1 7 2 0 4 := ⟨_, rfl⟩
  rw [← e1, ← e2] at h0 ⊢
  obtain ⟨de2, co2, mi2, T2, hk2⟩ := c_solve1_7 (l := l) (D := D) (ca := ca) (ad := ad) (vs := vs) (be := be) (de := de) (sz := sz) (ro := ro) (co := co) (mi := mi) (df := df) (B := B2) hn hb h0
  obtain ⟨r1, er1⟩ : ∃ z, z = roX n (lyT n (B2 7) T) (hd b) ro := ⟨_, rfl⟩
  rw [← er1] at hk2
  rw [← er1]
  obtain ⟨dt, edt⟩ : ∃ z, z = detX n (lyT n (B2 7) T) := ⟨_, rfl⟩
  rw [← edt] at hk2 h0
  rw [← edt]
  refine ⟨absX dt, de2, (Int32.ofNat n), r1, co2, mi2, T2, ?_⟩
  refine PX2_mixedTotal (Nat.le_of_ble_eq_true rfl) ?_
  intro G hT hC hR
  refine mB hT 6 rfl ?_
  refine hC.1 _ 16 [_, _, _] _ _ _ _ _ (show KX0_copyRows l D ca ad _ _ none (XW (Int32.ofNat n) (Int32.ofNat vs) be de sz ro co mi T B1 hd df) from (by rw [e1]; exact c_copy_7_6_0_0)) rfl rfl (Nat.le_of_ble_eq_true rfl) rfl ?_
  refine mB hT 8 rfl ?_
  refine hC.2.1 _ 16 [_, _, _] _ _ _ _ _ (show KX0_copyRows l D ca ad _ _ none (XW (Int32.ofNat n) (Int32.ofNat vs) be de sz ro co mi T B2 hd df) from (by rw [e2]; exact c_copy_7_2_0_4)) rfl rfl (Nat.le_of_ble_eq_true rfl) rfl ?_
  refine mB hT 9 rfl ?_
  refine mAaldH hT (List.mem_of_getElem? (i := 23) rfl) hb ?_
  refine hC.2.2.1 _ 1 [_, _, _] _ _ _ _ _ (hk2) rfl rfl (Nat.le_of_ble_eq_true rfl) rfl ?_
  refine mB hT 7 rfl ?_
  refine hC.2.2.2.1 _ 1 [_, _, _] _ _ _ _ _ (c_sum_7 hn k 1 hk (by decide)) rfl rfl (Nat.le_of_ble_eq_true rfl) rfl ?_
  refine mB hT 3 rfl ?_
  refine hC.2.2.2.2 _ [_, _] _ _ _ _ (c_th (absX_ne h0)) rfl (Nat.le_of_ble_eq_true rfl) rfl ?_
  exact hR _ (by decide) _ _ _ rfl rfl
set_option maxRecDepth 20000 in
theorem x_mixed_B_2_1 {n vs : Nat} {be de : Int64} {sz : Int32} {ro co mi : Nat → Int64} {T : Nat → Nat → Int64} {B : Nat → Nat → Nat → Int32} {hd : Nat → Nat → Int32} {df : Nat → Int32} (hn : n ≤ 4) {b : Nat} (hb : b < 4) {k : Nat} (hk : k < 3) (h0 : detX n (lyT n ((cpX (cpX B 7 6 0 1) 7 2 1 4) 7) T) = 0) : ∃ (be2 de2 : Int64) (sz2 : Int32) (ro2 co2 mi2 : Nat → Int64) (T2 : Nat → Nat → Int64), KX2_mixedTotal l D ca ad [.ref 0, .int 2, .int 1, .int (Int32.ofNat b), .int (Int32.ofNat k)] (XW (Int32.ofNat n) (Int32.ofNat vs) be de sz ro co mi T B hd df) (some (.long (-9000000000000000004))) (XW (Int32.ofNat n) (Int32.ofNat vs) be2 de2 sz2 ro2 co2 mi2 T2 (cpX (cpX B 7 6 0 1) 7 2 1 4) hd df) := by
  obtain ⟨B1, e1⟩ : ∃ z, z = cpX B 7 6 0 1 := ⟨_, rfl⟩
  obtain ⟨B2, e2⟩ : ∃ z, z = cpX B1 7 2 1 4 := ⟨_, rfl⟩
  rw [← e1, ← e2] at h0 ⊢
  obtain ⟨de2, mi2, T2, hk2⟩ := c_solve0_7 (l := l) (D := D) (ca := ca) (ad := ad) (vs := vs) (be := be) (de := de) (sz := sz) (ro := ro) (co := co) (mi := mi) (df := df) (B := B2) hn hb h0
  refine ⟨be, de2, (Int32.ofNat n), ro, co, mi2, T2, ?_⟩
  refine PX2_mixedTotal (Nat.le_of_ble_eq_true rfl) ?_
  intro G hT hC hR
  refine mB hT 6 rfl ?_
  refine hC.1 _ 16 [_, _, _] _ _ _ _ _ (show KX0_copyRows l D ca ad _ _ none (XW (Int32.ofNat n) (Int32.ofNat vs) be de sz ro co mi T B1 hd df) from (by rw [e1]; exact c_copy_7_6_0_1)) rfl rfl (Nat.le_of_ble_eq_true rfl) rfl ?_
  refine mB hT 8 rfl ?_
  refine hC.2.1 _ 16 [_, _, _] _ _ _ _ _ (show KX0_copyRows l D ca ad _ _ none (XW (Int32.ofNat n) (Int32.ofNat vs) be de sz ro co mi T B2 hd df) from (by rw [e2]; exact c_copy_7_2_1_4)) rfl rfl (Nat.le_of_ble_eq_true rfl) rfl ?_
  refine mB hT 9 rfl ?_
  refine mAaldH hT (List.mem_of_getElem? (i := 23) rfl) hb ?_
  refine hC.2.2.1 _ 1 [_, _, _] _ _ _ _ _ (hk2) rfl rfl (Nat.le_of_ble_eq_true rfl) rfl ?_
  refine mB hT 2 rfl ?_
  exact hR _ (by decide) _ _ _ rfl rfl
set_option maxRecDepth 20000 in
theorem x_mixed_2_1 {n vs : Nat} {be de : Int64} {sz : Int32} {ro co mi : Nat → Int64} {T : Nat → Nat → Int64} {B : Nat → Nat → Nat → Int32} {hd : Nat → Nat → Int32} {df : Nat → Int32} (hn : n ≤ 4) {b : Nat} (hb : b < 4) {k : Nat} (hk : k < 3) (h0 : ¬ detX n (lyT n ((cpX (cpX B 7 6 0 1) 7 2 1 4) 7) T) = 0) : ∃ (be2 de2 : Int64) (sz2 : Int32) (ro2 co2 mi2 : Nat → Int64) (T2 : Nat → Nat → Int64), KX2_mixedTotal l D ca ad [.ref 0, .int 2, .int 1, .int (Int32.ofNat b), .int (Int32.ofNat k)] (XW (Int32.ofNat n) (Int32.ofNat vs) be de sz ro co mi T B hd df) (some (.long (thX (smX n ((cpX (cpX B 7 6 0 1) 7 2 1 4) 7) (roX n (lyT n ((cpX (cpX B 7 6 0 1) 7 2 1 4) 7) T) (hd b) ro) k 1) (absX (detX n (lyT n ((cpX (cpX B 7 6 0 1) 7 2 1 4) 7) T)))))) (XW (Int32.ofNat n) (Int32.ofNat vs) be2 de2 sz2 ro2 co2 mi2 T2 (cpX (cpX B 7 6 0 1) 7 2 1 4) hd df) := by
  obtain ⟨B1, e1⟩ : ∃ z, z = cpX B 7 6 0 1 := ⟨_, rfl⟩
  obtain ⟨B2, e2⟩ : ∃ z, z = cpX B1 7 2 1 4 := ⟨_, rfl⟩
  rw [← e1, ← e2] at h0 ⊢
  obtain ⟨de2, co2, mi2, T2, hk2⟩ := c_solve1_7 (l := l) (D := D) (ca := ca) (ad := ad) (vs := vs) (be := be) (de := de) (sz := sz) (ro := ro) (co := co) (mi := mi) (df := df) (B := B2) hn hb h0
  obtain ⟨r1, er1⟩ : ∃ z, z = roX n (lyT n (B2 7) T) (hd b) ro := ⟨_, rfl⟩
  rw [← er1] at hk2
  rw [← er1]
  obtain ⟨dt, edt⟩ : ∃ z, z = detX n (lyT n (B2 7) T) := ⟨_, rfl⟩
  rw [← edt] at hk2 h0
  rw [← edt]
  refine ⟨absX dt, de2, (Int32.ofNat n), r1, co2, mi2, T2, ?_⟩
  refine PX2_mixedTotal (Nat.le_of_ble_eq_true rfl) ?_
  intro G hT hC hR
  refine mB hT 6 rfl ?_
  refine hC.1 _ 16 [_, _, _] _ _ _ _ _ (show KX0_copyRows l D ca ad _ _ none (XW (Int32.ofNat n) (Int32.ofNat vs) be de sz ro co mi T B1 hd df) from (by rw [e1]; exact c_copy_7_6_0_1)) rfl rfl (Nat.le_of_ble_eq_true rfl) rfl ?_
  refine mB hT 8 rfl ?_
  refine hC.2.1 _ 16 [_, _, _] _ _ _ _ _ (show KX0_copyRows l D ca ad _ _ none (XW (Int32.ofNat n) (Int32.ofNat vs) be de sz ro co mi T B2 hd df) from (by rw [e2]; exact c_copy_7_2_1_4)) rfl rfl (Nat.le_of_ble_eq_true rfl) rfl ?_
  refine mB hT 9 rfl ?_
  refine mAaldH hT (List.mem_of_getElem? (i := 23) rfl) hb ?_
  refine hC.2.2.1 _ 1 [_, _, _] _ _ _ _ _ (hk2) rfl rfl (Nat.le_of_ble_eq_true rfl) rfl ?_
  refine mB hT 7 rfl ?_
  refine hC.2.2.2.1 _ 1 [_, _, _] _ _ _ _ _ (c_sum_7 hn k 1 hk (by decide)) rfl rfl (Nat.le_of_ble_eq_true rfl) rfl ?_
  refine mB hT 3 rfl ?_
  refine hC.2.2.2.2 _ [_, _] _ _ _ _ (c_th (absX_ne h0)) rfl (Nat.le_of_ble_eq_true rfl) rfl ?_
  exact hR _ (by decide) _ _ _ rfl rfl
set_option maxRecDepth 20000 in
theorem x_mixed_B_2_2 {n vs : Nat} {be de : Int64} {sz : Int32} {ro co mi : Nat → Int64} {T : Nat → Nat → Int64} {B : Nat → Nat → Nat → Int32} {hd : Nat → Nat → Int32} {df : Nat → Int32} (hn : n ≤ 4) {b : Nat} (hb : b < 4) {k : Nat} (hk : k < 3) (h0 : detX n (lyT n ((cpX (cpX B 7 6 0 2) 7 2 2 4) 7) T) = 0) : ∃ (be2 de2 : Int64) (sz2 : Int32) (ro2 co2 mi2 : Nat → Int64) (T2 : Nat → Nat → Int64), KX2_mixedTotal l D ca ad [.ref 0, .int 2, .int 2, .int (Int32.ofNat b), .int (Int32.ofNat k)] (XW (Int32.ofNat n) (Int32.ofNat vs) be de sz ro co mi T B hd df) (some (.long (-9000000000000000004))) (XW (Int32.ofNat n) (Int32.ofNat vs) be2 de2 sz2 ro2 co2 mi2 T2 (cpX (cpX B 7 6 0 2) 7 2 2 4) hd df) := by
  obtain ⟨B1, e1⟩ : ∃ z, z = cpX B 7 6 0 2 := ⟨_, rfl⟩
  obtain ⟨B2, e2⟩ : ∃ z, z = cpX B1 7 2 2 4 := ⟨_, rfl⟩
  rw [← e1, ← e2] at h0 ⊢
  obtain ⟨de2, mi2, T2, hk2⟩ := c_solve0_7 (l := l) (D := D) (ca := ca) (ad := ad) (vs := vs) (be := be) (de := de) (sz := sz) (ro := ro) (co := co) (mi := mi) (df := df) (B := B2) hn hb h0
  refine ⟨be, de2, (Int32.ofNat n), ro, co, mi2, T2, ?_⟩
  refine PX2_mixedTotal (Nat.le_of_ble_eq_true rfl) ?_
  intro G hT hC hR
  refine mB hT 6 rfl ?_
  refine hC.1 _ 16 [_, _, _] _ _ _ _ _ (show KX0_copyRows l D ca ad _ _ none (XW (Int32.ofNat n) (Int32.ofNat vs) be de sz ro co mi T B1 hd df) from (by rw [e1]; exact c_copy_7_6_0_2)) rfl rfl (Nat.le_of_ble_eq_true rfl) rfl ?_
  refine mB hT 8 rfl ?_
  refine hC.2.1 _ 16 [_, _, _] _ _ _ _ _ (show KX0_copyRows l D ca ad _ _ none (XW (Int32.ofNat n) (Int32.ofNat vs) be de sz ro co mi T B2 hd df) from (by rw [e2]; exact c_copy_7_2_2_4)) rfl rfl (Nat.le_of_ble_eq_true rfl) rfl ?_
  refine mB hT 9 rfl ?_
  refine mAaldH hT (List.mem_of_getElem? (i := 23) rfl) hb ?_
  refine hC.2.2.1 _ 1 [_, _, _] _ _ _ _ _ (hk2) rfl rfl (Nat.le_of_ble_eq_true rfl) rfl ?_
  refine mB hT 2 rfl ?_
  exact hR _ (by decide) _ _ _ rfl rfl
set_option maxRecDepth 20000 in
theorem x_mixed_2_2 {n vs : Nat} {be de : Int64} {sz : Int32} {ro co mi : Nat → Int64} {T : Nat → Nat → Int64} {B : Nat → Nat → Nat → Int32} {hd : Nat → Nat → Int32} {df : Nat → Int32} (hn : n ≤ 4) {b : Nat} (hb : b < 4) {k : Nat} (hk : k < 3) (h0 : ¬ detX n (lyT n ((cpX (cpX B 7 6 0 2) 7 2 2 4) 7) T) = 0) : ∃ (be2 de2 : Int64) (sz2 : Int32) (ro2 co2 mi2 : Nat → Int64) (T2 : Nat → Nat → Int64), KX2_mixedTotal l D ca ad [.ref 0, .int 2, .int 2, .int (Int32.ofNat b), .int (Int32.ofNat k)] (XW (Int32.ofNat n) (Int32.ofNat vs) be de sz ro co mi T B hd df) (some (.long (thX (smX n ((cpX (cpX B 7 6 0 2) 7 2 2 4) 7) (roX n (lyT n ((cpX (cpX B 7 6 0 2) 7 2 2 4) 7) T) (hd b) ro) k 1) (absX (detX n (lyT n ((cpX (cpX B 7 6 0 2) 7 2 2 4) 7) T)))))) (XW (Int32.ofNat n) (Int32.ofNat vs) be2 de2 sz2 ro2 co2 mi2 T2 (cpX (cpX B 7 6 0 2) 7 2 2 4) hd df) := by
  obtain ⟨B1, e1⟩ : ∃ z, z = cpX B 7 6 0 2 := ⟨_, rfl⟩
  obtain ⟨B2, e2⟩ : ∃ z, z = cpX B1 7 2 2 4 := ⟨_, rfl⟩
  rw [← e1, ← e2] at h0 ⊢
  obtain ⟨de2, co2, mi2, T2, hk2⟩ := c_solve1_7 (l := l) (D := D) (ca := ca) (ad := ad) (vs := vs) (be := be) (de := de) (sz := sz) (ro := ro) (co := co) (mi := mi) (df := df) (B := B2) hn hb h0
  obtain ⟨r1, er1⟩ : ∃ z, z = roX n (lyT n (B2 7) T) (hd b) ro := ⟨_, rfl⟩
  rw [← er1] at hk2
  rw [← er1]
  obtain ⟨dt, edt⟩ : ∃ z, z = detX n (lyT n (B2 7) T) := ⟨_, rfl⟩
  rw [← edt] at hk2 h0
  rw [← edt]
  refine ⟨absX dt, de2, (Int32.ofNat n), r1, co2, mi2, T2, ?_⟩
  refine PX2_mixedTotal (Nat.le_of_ble_eq_true rfl) ?_
  intro G hT hC hR
  refine mB hT 6 rfl ?_
  refine hC.1 _ 16 [_, _, _] _ _ _ _ _ (show KX0_copyRows l D ca ad _ _ none (XW (Int32.ofNat n) (Int32.ofNat vs) be de sz ro co mi T B1 hd df) from (by rw [e1]; exact c_copy_7_6_0_2)) rfl rfl (Nat.le_of_ble_eq_true rfl) rfl ?_
  refine mB hT 8 rfl ?_
  refine hC.2.1 _ 16 [_, _, _] _ _ _ _ _ (show KX0_copyRows l D ca ad _ _ none (XW (Int32.ofNat n) (Int32.ofNat vs) be de sz ro co mi T B2 hd df) from (by rw [e2]; exact c_copy_7_2_2_4)) rfl rfl (Nat.le_of_ble_eq_true rfl) rfl ?_
  refine mB hT 9 rfl ?_
  refine mAaldH hT (List.mem_of_getElem? (i := 23) rfl) hb ?_
  refine hC.2.2.1 _ 1 [_, _, _] _ _ _ _ _ (hk2) rfl rfl (Nat.le_of_ble_eq_true rfl) rfl ?_
  refine mB hT 7 rfl ?_
  refine hC.2.2.2.1 _ 1 [_, _, _] _ _ _ _ _ (c_sum_7 hn k 1 hk (by decide)) rfl rfl (Nat.le_of_ble_eq_true rfl) rfl ?_
  refine mB hT 3 rfl ?_
  refine hC.2.2.2.2 _ [_, _] _ _ _ _ (c_th (absX_ne h0)) rfl (Nat.le_of_ble_eq_true rfl) rfl ?_
  exact hR _ (by decide) _ _ _ rfl rfl
set_option maxRecDepth 20000 in
theorem x_mixed_B_2_3 {n vs : Nat} {be de : Int64} {sz : Int32} {ro co mi : Nat → Int64} {T : Nat → Nat → Int64} {B : Nat → Nat → Nat → Int32} {hd : Nat → Nat → Int32} {df : Nat → Int32} (hn : n ≤ 4) {b : Nat} (hb : b < 4) {k : Nat} (hk : k < 3) (h0 : detX n (lyT n ((cpX (cpX B 7 6 0 3) 7 2 3 4) 7) T) = 0) : ∃ (be2 de2 : Int64) (sz2 : Int32) (ro2 co2 mi2 : Nat → Int64) (T2 : Nat → Nat → Int64), KX2_mixedTotal l D ca ad [.ref 0, .int 2, .int 3, .int (Int32.ofNat b), .int (Int32.ofNat k)] (XW (Int32.ofNat n) (Int32.ofNat vs) be de sz ro co mi T B hd df) (some (.long (-9000000000000000004))) (XW (Int32.ofNat n) (Int32.ofNat vs) be2 de2 sz2 ro2 co2 mi2 T2 (cpX (cpX B 7 6 0 3) 7 2 3 4) hd df) := by
  obtain ⟨B1, e1⟩ : ∃ z, z = cpX B 7 6 0 3 := ⟨_, rfl⟩
  obtain ⟨B2, e2⟩ : ∃ z, z = cpX B1 7 2 3 4 := ⟨_, rfl⟩
  rw [← e1, ← e2] at h0 ⊢
  obtain ⟨de2, mi2, T2, hk2⟩ := c_solve0_7 (l := l) (D := D) (ca := ca) (ad := ad) (vs := vs) (be := be) (de := de) (sz := sz) (ro := ro) (co := co) (mi := mi) (df := df) (B := B2) hn hb h0
  refine ⟨be, de2, (Int32.ofNat n), ro, co, mi2, T2, ?_⟩
  refine PX2_mixedTotal (Nat.le_of_ble_eq_true rfl) ?_
  intro G hT hC hR
  refine mB hT 6 rfl ?_
  refine hC.1 _ 16 [_, _, _] _ _ _ _ _ (show KX0_copyRows l D ca ad _ _ none (XW (Int32.ofNat n) (Int32.ofNat vs) be de sz ro co mi T B1 hd df) from (by rw [e1]; exact c_copy_7_6_0_3)) rfl rfl (Nat.le_of_ble_eq_true rfl) rfl ?_
  refine mB hT 8 rfl ?_
  refine hC.2.1 _ 16 [_, _, _] _ _ _ _ _ (show KX0_copyRows l D ca ad _ _ none (XW (Int32.ofNat n) (Int32.ofNat vs) be de sz ro co mi T B2 hd df) from (by rw [e2]; exact c_copy_7_2_3_4)) rfl rfl (Nat.le_of_ble_eq_true rfl) rfl ?_
  refine mB hT 9 rfl ?_
  refine mAaldH hT (List.mem_of_getElem? (i := 23) rfl) hb ?_
  refine hC.2.2.1 _ 1 [_, _, _] _ _ _ _ _ (hk2) rfl rfl (Nat.le_of_ble_eq_true rfl) rfl ?_
  refine mB hT 2 rfl ?_
  exact hR _ (by decide) _ _ _ rfl rfl
set_option maxRecDepth 20000 in
theorem x_mixed_2_3 {n vs : Nat} {be de : Int64} {sz : Int32} {ro co mi : Nat → Int64} {T : Nat → Nat → Int64} {B : Nat → Nat → Nat → Int32} {hd : Nat → Nat → Int32} {df : Nat → Int32} (hn : n ≤ 4) {b : Nat} (hb : b < 4) {k : Nat} (hk : k < 3) (h0 : ¬ detX n (lyT n ((cpX (cpX B 7 6 0 3) 7 2 3 4) 7) T) = 0) : ∃ (be2 de2 : Int64) (sz2 : Int32) (ro2 co2 mi2 : Nat → Int64) (T2 : Nat → Nat → Int64), KX2_mixedTotal l D ca ad [.ref 0, .int 2, .int 3, .int (Int32.ofNat b), .int (Int32.ofNat k)] (XW (Int32.ofNat n) (Int32.ofNat vs) be de sz ro co mi T B hd df) (some (.long (thX (smX n ((cpX (cpX B 7 6 0 3) 7 2 3 4) 7) (roX n (lyT n ((cpX (cpX B 7 6 0 3) 7 2 3 4) 7) T) (hd b) ro) k 1) (absX (detX n (lyT n ((cpX (cpX B 7 6 0 3) 7 2 3 4) 7) T)))))) (XW (Int32.ofNat n) (Int32.ofNat vs) be2 de2 sz2 ro2 co2 mi2 T2 (cpX (cpX B 7 6 0 3) 7 2 3 4) hd df) := by
  obtain ⟨B1, e1⟩ : ∃ z, z = cpX B 7 6 0 3 := ⟨_, rfl⟩
  obtain ⟨B2, e2⟩ : ∃ z, z = cpX B1 7 2 3 4 := ⟨_, rfl⟩
  rw [← e1, ← e2] at h0 ⊢
  obtain ⟨de2, co2, mi2, T2, hk2⟩ := c_solve1_7 (l := l) (D := D) (ca := ca) (ad := ad) (vs := vs) (be := be) (de := de) (sz := sz) (ro := ro) (co := co) (mi := mi) (df := df) (B := B2) hn hb h0
  obtain ⟨r1, er1⟩ : ∃ z, z = roX n (lyT n (B2 7) T) (hd b) ro := ⟨_, rfl⟩
  rw [← er1] at hk2
  rw [← er1]
  obtain ⟨dt, edt⟩ : ∃ z, z = detX n (lyT n (B2 7) T) := ⟨_, rfl⟩
  rw [← edt] at hk2 h0
  rw [← edt]
  refine ⟨absX dt, de2, (Int32.ofNat n), r1, co2, mi2, T2, ?_⟩
  refine PX2_mixedTotal (Nat.le_of_ble_eq_true rfl) ?_
  intro G hT hC hR
  refine mB hT 6 rfl ?_
  refine hC.1 _ 16 [_, _, _] _ _ _ _ _ (show KX0_copyRows l D ca ad _ _ none (XW (Int32.ofNat n) (Int32.ofNat vs) be de sz ro co mi T B1 hd df) from (by rw [e1]; exact c_copy_7_6_0_3)) rfl rfl (Nat.le_of_ble_eq_true rfl) rfl ?_
  refine mB hT 8 rfl ?_
  refine hC.2.1 _ 16 [_, _, _] _ _ _ _ _ (show KX0_copyRows l D ca ad _ _ none (XW (Int32.ofNat n) (Int32.ofNat vs) be de sz ro co mi T B2 hd df) from (by rw [e2]; exact c_copy_7_2_3_4)) rfl rfl (Nat.le_of_ble_eq_true rfl) rfl ?_
  refine mB hT 9 rfl ?_
  refine mAaldH hT (List.mem_of_getElem? (i := 23) rfl) hb ?_
  refine hC.2.2.1 _ 1 [_, _, _] _ _ _ _ _ (hk2) rfl rfl (Nat.le_of_ble_eq_true rfl) rfl ?_
  refine mB hT 7 rfl ?_
  refine hC.2.2.2.1 _ 1 [_, _, _] _ _ _ _ _ (c_sum_7 hn k 1 hk (by decide)) rfl rfl (Nat.le_of_ble_eq_true rfl) rfl ?_
  refine mB hT 3 rfl ?_
  refine hC.2.2.2.2 _ [_, _] _ _ _ _ (c_th (absX_ne h0)) rfl (Nat.le_of_ble_eq_true rfl) rfl ?_
  exact hR _ (by decide) _ _ _ rfl rfl
set_option maxRecDepth 20000 in
theorem x_mixed_B_2_4 {n vs : Nat} {be de : Int64} {sz : Int32} {ro co mi : Nat → Int64} {T : Nat → Nat → Int64} {B : Nat → Nat → Nat → Int32} {hd : Nat → Nat → Int32} {df : Nat → Int32} (hn : n ≤ 4) {b : Nat} (hb : b < 4) {k : Nat} (hk : k < 3) (h0 : detX n (lyT n ((cpX (cpX B 7 6 0 4) 7 2 4 4) 7) T) = 0) : ∃ (be2 de2 : Int64) (sz2 : Int32) (ro2 co2 mi2 : Nat → Int64) (T2 : Nat → Nat → Int64), KX2_mixedTotal l D ca ad [.ref 0, .int 2, .int 4, .int (Int32.ofNat b), .int (Int32.ofNat k)] (XW (Int32.ofNat n) (Int32.ofNat vs) be de sz ro co mi T B hd df) (some (.long (-9000000000000000004))) (XW (Int32.ofNat n) (Int32.ofNat vs) be2 de2 sz2 ro2 co2 mi2 T2 (cpX (cpX B 7 6 0 4) 7 2 4 4) hd df) := by
  obtain ⟨B1, e1⟩ : ∃ z, z = cpX B 7 6 0 4 := ⟨_, rfl⟩
  obtain ⟨B2, e2⟩ : ∃ z, z = cpX B1 7 2 4 4 := ⟨_, rfl⟩
  rw [← e1, ← e2] at h0 ⊢
  obtain ⟨de2, mi2, T2, hk2⟩ := c_solve0_7 (l := l) (D := D) (ca := ca) (ad := ad) (vs := vs) (be := be) (de := de) (sz := sz) (ro := ro) (co := co) (mi := mi) (df := df) (B := B2) hn hb h0
  refine ⟨be, de2, (Int32.ofNat n), ro, co, mi2, T2, ?_⟩
  refine PX2_mixedTotal (Nat.le_of_ble_eq_true rfl) ?_
  intro G hT hC hR
  refine mB hT 6 rfl ?_
  refine hC.1 _ 16 [_, _, _] _ _ _ _ _ (show KX0_copyRows l D ca ad _ _ none (XW (Int32.ofNat n) (Int32.ofNat vs) be de sz ro co mi T B1 hd df) from (by rw [e1]; exact c_copy_7_6_0_4)) rfl rfl (Nat.le_of_ble_eq_true rfl) rfl ?_
  refine mB hT 8 rfl ?_
  refine hC.2.1 _ 16 [_, _, _] _ _ _ _ _ (show KX0_copyRows l D ca ad _ _ none (XW (Int32.ofNat n) (Int32.ofNat vs) be de sz ro co mi T B2 hd df) from (by rw [e2]; exact c_copy_7_2_4_4)) rfl rfl (Nat.le_of_ble_eq_true rfl) rfl ?_
  refine mB hT 9 rfl ?_
  refine mAaldH hT (List.mem_of_getElem? (i := 23) rfl) hb ?_
  refine hC.2.2.1 _ 1 [_, _, _] _ _ _ _ _ (hk2) rfl rfl (Nat.le_of_ble_eq_true rfl) rfl ?_
  refine mB hT 2 rfl ?_
  exact hR _ (by decide) _ _ _ rfl rfl
set_option maxRecDepth 20000 in
theorem x_mixed_2_4 {n vs : Nat} {be de : Int64} {sz : Int32} {ro co mi : Nat → Int64} {T : Nat → Nat → Int64} {B : Nat → Nat → Nat → Int32} {hd : Nat → Nat → Int32} {df : Nat → Int32} (hn : n ≤ 4) {b : Nat} (hb : b < 4) {k : Nat} (hk : k < 3) (h0 : ¬ detX n (lyT n ((cpX (cpX B 7 6 0 4) 7 2 4 4) 7) T) = 0) : ∃ (be2 de2 : Int64) (sz2 : Int32) (ro2 co2 mi2 : Nat → Int64) (T2 : Nat → Nat → Int64), KX2_mixedTotal l D ca ad [.ref 0, .int 2, .int 4, .int (Int32.ofNat b), .int (Int32.ofNat k)] (XW (Int32.ofNat n) (Int32.ofNat vs) be de sz ro co mi T B hd df) (some (.long (thX (smX n ((cpX (cpX B 7 6 0 4) 7 2 4 4) 7) (roX n (lyT n ((cpX (cpX B 7 6 0 4) 7 2 4 4) 7) T) (hd b) ro) k 1) (absX (detX n (lyT n ((cpX (cpX B 7 6 0 4) 7 2 4 4) 7) T)))))) (XW (Int32.ofNat n) (Int32.ofNat vs) be2 de2 sz2 ro2 co2 mi2 T2 (cpX (cpX B 7 6 0 4) 7 2 4 4) hd df) := by
  obtain ⟨B1, e1⟩ : ∃ z, z = cpX B 7 6 0 4 := ⟨_, rfl⟩
  obtain ⟨B2, e2⟩ : ∃ z, z = cpX B1 7 2 4 4 := ⟨_, rfl⟩
  rw [← e1, ← e2] at h0 ⊢
  obtain ⟨de2, co2, mi2, T2, hk2⟩ := c_solve1_7 (l := l) (D := D) (ca := ca) (ad := ad) (vs := vs) (be := be) (de := de) (sz := sz) (ro := ro) (co := co) (mi := mi) (df := df) (B := B2) hn hb h0
  obtain ⟨r1, er1⟩ : ∃ z, z = roX n (lyT n (B2 7) T) (hd b) ro := ⟨_, rfl⟩
  rw [← er1] at hk2
  rw [← er1]
  obtain ⟨dt, edt⟩ : ∃ z, z = detX n (lyT n (B2 7) T) := ⟨_, rfl⟩
  rw [← edt] at hk2 h0
  rw [← edt]
  refine ⟨absX dt, de2, (Int32.ofNat n), r1, co2, mi2, T2, ?_⟩
  refine PX2_mixedTotal (Nat.le_of_ble_eq_true rfl) ?_
  intro G hT hC hR
  refine mB hT 6 rfl ?_
  refine hC.1 _ 16 [_, _, _] _ _ _ _ _ (show KX0_copyRows l D ca ad _ _ none (XW (Int32.ofNat n) (Int32.ofNat vs) be de sz ro co mi T B1 hd df) from (by rw [e1]; exact c_copy_7_6_0_4)) rfl rfl (Nat.le_of_ble_eq_true rfl) rfl ?_
  refine mB hT 8 rfl ?_
  refine hC.2.1 _ 16 [_, _, _] _ _ _ _ _ (show KX0_copyRows l D ca ad _ _ none (XW (Int32.ofNat n) (Int32.ofNat vs) be de sz ro co mi T B2 hd df) from (by rw [e2]; exact c_copy_7_2_4_4)) rfl rfl (Nat.le_of_ble_eq_true rfl) rfl ?_
  refine mB hT 9 rfl ?_
  refine mAaldH hT (List.mem_of_getElem? (i := 23) rfl) hb ?_
  refine hC.2.2.1 _ 1 [_, _, _] _ _ _ _ _ (hk2) rfl rfl (Nat.le_of_ble_eq_true rfl) rfl ?_
  refine mB hT 7 rfl ?_
  refine hC.2.2.2.1 _ 1 [_, _, _] _ _ _ _ _ (c_sum_7 hn k 1 hk (by decide)) rfl rfl (Nat.le_of_ble_eq_true rfl) rfl ?_
  refine mB hT 3 rfl ?_
  refine hC.2.2.2.2 _ [_, _] _ _ _ _ (c_th (absX_ne h0)) rfl (Nat.le_of_ble_eq_true rfl) rfl ?_
  exact hR _ (by decide) _ _ _ rfl rfl
set_option maxRecDepth 20000 in
theorem x_mixed_B_3_0 {n vs : Nat} {be de : Int64} {sz : Int32} {ro co mi : Nat → Int64} {T : Nat → Nat → Int64} {B : Nat → Nat → Nat → Int32} {hd : Nat → Nat → Int32} {df : Nat → Int32} (hn : n ≤ 4) {b : Nat} (hb : b < 4) {k : Nat} (hk : k < 3) (h0 : detX n (lyT n ((cpX (cpX B 7 6 0 0) 7 3 0 4) 7) T) = 0) : ∃ (be2 de2 : Int64) (sz2 : Int32) (ro2 co2 mi2 : Nat → Int64) (T2 : Nat → Nat → Int64), KX2_mixedTotal l D ca ad [.ref 0, .int 3, .int 0, .int (Int32.ofNat b), .int (Int32.ofNat k)] (XW (Int32.ofNat n) (Int32.ofNat vs) be de sz ro co mi T B hd df) (some (.long (-9000000000000000004))) (XW (Int32.ofNat n) (Int32.ofNat vs) be2 de2 sz2 ro2 co2 mi2 T2 (cpX (cpX B 7 6 0 0) 7 3 0 4) hd df) := by
  obtain ⟨B1, e1⟩ : ∃ z, z = cpX B 7 6 0 0 := ⟨_, rfl⟩
  obtain ⟨B2, e2⟩ : ∃ z, z = cpX B1 7 3 0 4 := ⟨_, rfl⟩
  rw [← e1, ← e2] at h0 ⊢
  obtain ⟨de2, mi2, T2, hk2⟩ := c_solve0_7 (l := l) (D := D) (ca := ca) (ad := ad) (vs := vs) (be := be) (de := de) (sz := sz) (ro := ro) (co := co) (mi := mi) (df := df) (B := B2) hn hb h0
  refine ⟨be, de2, (Int32.ofNat n), ro, co, mi2, T2, ?_⟩
  refine PX2_mixedTotal (Nat.le_of_ble_eq_true rfl) ?_
  intro G hT hC hR
  refine mB hT 6 rfl ?_
  refine hC.1 _ 16 [_, _, _] _ _ _ _ _ (show KX0_copyRows l D ca ad _ _ none (XW (Int32.ofNat n) (Int32.ofNat vs) be de sz ro co mi T B1 hd df) from (by rw [e1]; exact c_copy_7_6_0_0)) rfl rfl (Nat.le_of_ble_eq_true rfl) rfl ?_
  refine mB hT 8 rfl ?_
  refine hC.2.1 _ 16 [_, _, _] _ _ _ _ _ (show KX0_copyRows l D ca ad _ _ none (XW (Int32.ofNat n) (Int32.ofNat vs) be de sz ro co mi T B2 hd df) from (by rw [e2]; exact c_copy_7_3_0_4)) rfl rfl (Nat.le_of_ble_eq_true rfl) rfl ?_
  refine mB hT 9 rfl ?_
  refine mAaldH hT (List.mem_of_getElem? (i := 23) rfl) hb ?_
  refine hC.2.2.1 _ 1 [_, _, _] _ _ _ _ _ (hk2) rfl rfl (Nat.le_of_ble_eq_true rfl) rfl ?_
  refine mB hT 2 rfl ?_
  exact hR _ (by decide) _ _ _ rfl rfl
set_option maxRecDepth 20000 in
theorem x_mixed_3_0 {n vs : Nat} {be de : Int64} {sz : Int32} {ro co mi : Nat → Int64} {T : Nat → Nat → Int64} {B : Nat → Nat → Nat → Int32} {hd : Nat → Nat → Int32} {df : Nat → Int32} (hn : n ≤ 4) {b : Nat} (hb : b < 4) {k : Nat} (hk : k < 3) (h0 : ¬ detX n (lyT n ((cpX (cpX B 7 6 0 0) 7 3 0 4) 7) T) = 0) : ∃ (be2 de2 : Int64) (sz2 : Int32) (ro2 co2 mi2 : Nat → Int64) (T2 : Nat → Nat → Int64), KX2_mixedTotal l D ca ad [.ref 0, .int 3, .int 0, .int (Int32.ofNat b), .int (Int32.ofNat k)] (XW (Int32.ofNat n) (Int32.ofNat vs) be de sz ro co mi T B hd df) (some (.long (thX (smX n ((cpX (cpX B 7 6 0 0) 7 3 0 4) 7) (roX n (lyT n ((cpX (cpX B 7 6 0 0) 7 3 0 4) 7) T) (hd b) ro) k 1) (absX (detX n (lyT n ((cpX (cpX B 7 6 0 0) 7 3 0 4) 7) T)))))) (XW (Int32.ofNat n) (Int32.ofNat vs) be2 de2 sz2 ro2 co2 mi2 T2 (cpX (cpX B 7 6 0 0) 7 3 0 4) hd df) := by
  obtain ⟨B1, e1⟩ : ∃ z, z = cpX B 7 6 0 0 := ⟨_, rfl⟩
  obtain ⟨B2, e2⟩ : ∃ z, z = cpX B1 7 3 0 4 := ⟨_, rfl⟩
  rw [← e1, ← e2] at h0 ⊢
  obtain ⟨de2, co2, mi2, T2, hk2⟩ := c_solve1_7 (l := l) (D := D) (ca := ca) (ad := ad) (vs := vs) (be := be) (de := de) (sz := sz) (ro := ro) (co := co) (mi := mi) (df := df) (B := B2) hn hb h0
  obtain ⟨r1, er1⟩ : ∃ z, z = roX n (lyT n (B2 7) T) (hd b) ro := ⟨_, rfl⟩
  rw [← er1] at hk2
  rw [← er1]
  obtain ⟨dt, edt⟩ : ∃ z, z = detX n (lyT n (B2 7) T) := ⟨_, rfl⟩
  rw [← edt] at hk2 h0
  rw [← edt]
  refine ⟨absX dt, de2, (Int32.ofNat n), r1, co2, mi2, T2, ?_⟩
  refine PX2_mixedTotal (Nat.le_of_ble_eq_true rfl) ?_
  intro G hT hC hR
  refine mB hT 6 rfl ?_
  refine hC.1 _ 16 [_, _, _] _ _ _ _ _ (show KX0_copyRows l D ca ad _ _ none (XW (Int32.ofNat n) (Int32.ofNat vs) be de sz ro co mi T B1 hd df) from (by rw [e1]; exact c_copy_7_6_0_0)) rfl rfl (Nat.le_of_ble_eq_true rfl) rfl ?_
  refine mB hT 8 rfl ?_
  refine hC.2.1 _ 16 [_, _, _] _ _ _ _ _ (show KX0_copyRows l D ca ad _ _ none (XW (Int32.ofNat n) (Int32.ofNat vs) be de sz ro co mi T B2 hd df) from (by rw [e2]; exact c_copy_7_3_0_4)) rfl rfl (Nat.le_of_ble_eq_true rfl) rfl ?_
  refine mB hT 9 rfl ?_
  refine mAaldH hT (List.mem_of_getElem? (i := 23) rfl) hb ?_
  refine hC.2.2.1 _ 1 [_, _, _] _ _ _ _ _ (hk2) rfl rfl (Nat.le_of_ble_eq_true rfl) rfl ?_
  refine mB hT 7 rfl ?_
  refine hC.2.2.2.1 _ 1 [_, _, _] _ _ _ _ _ (c_sum_7 hn k 1 hk (by decide)) rfl rfl (Nat.le_of_ble_eq_true rfl) rfl ?_
  refine mB hT 3 rfl ?_
  refine hC.2.2.2.2 _ [_, _] _ _ _ _ (c_th (absX_ne h0)) rfl (Nat.le_of_ble_eq_true rfl) rfl ?_
  exact hR _ (by decide) _ _ _ rfl rfl
set_option maxRecDepth 20000 in
theorem x_mixed_B_3_1 {n vs : Nat} {be de : Int64} {sz : Int32} {ro co mi : Nat → Int64} {T : Nat → Nat → Int64} {B : Nat → Nat → Nat → Int32} {hd : Nat → Nat → Int32} {df : Nat → Int32} (hn : n ≤ 4) {b : Nat} (hb : b < 4) {k : Nat} (hk : k < 3) (h0 : detX n (lyT n ((cpX (cpX B 7 6 0 1) 7 3 1 4) 7) T) = 0) : ∃ (be2 de2 : Int64) (sz2 : Int32) (ro2 co2 mi2 : Nat → Int64) (T2 : Nat → Nat → Int64), KX2_mixedTotal l D ca ad [.ref 0, .int 3, .int 1, .int (Int32.ofNat b), .int (Int32.ofNat k)] (XW (Int32.ofNat n) (Int32.ofNat vs) be de sz ro co mi T B hd df) (some (.long (-9000000000000000004))) (XW (Int32.ofNat n) (Int32.ofNat vs) be2 de2 sz2 ro2 co2 mi2 T2 (cpX (cpX B 7 6 0 1) 7 3 1 4) hd df) := by
  obtain ⟨B1, e1⟩ : ∃ z, z = cpX B 7 6 0 1 := ⟨_, rfl⟩
  obtain ⟨B2, e2⟩ : ∃ z, z = cpX B1 7 3 1 4 := ⟨_, rfl⟩
  rw [← e1, ← e2] at h0 ⊢
  obtain ⟨de2, mi2, T2, hk2⟩ := c_solve0_7 (l := l) (D := D) (ca := ca) (ad := ad) (vs := vs) (be := be) (de := de) (sz := sz) (ro := ro) (co := co) (mi := mi) (df := df) (B := B2) hn hb h0
  refine ⟨be, de2, (Int32.ofNat n), ro, co, mi2, T2, ?_⟩
  refine PX2_mixedTotal (Nat.le_of_ble_eq_true rfl) ?_
  intro G hT hC hR
  refine mB hT 6 rfl ?_
  refine hC.1 _ 16 [_, _, _] _ _ _ _ _ (show KX0_copyRows l D ca ad _ _ none (XW (Int32.ofNat n) (Int32.ofNat vs) be de sz ro co mi T B1 hd df) from (by rw [e1]; exact c_copy_7_6_0_1)) rfl rfl (Nat.le_of_ble_eq_true rfl) rfl ?_
  refine mB hT 8 rfl ?_
  refine hC.2.1 _ 16 [_, _, _] _ _ _ _ _ (show KX0_copyRows l D ca ad _ _ none (XW (Int32.ofNat n) (Int32.ofNat vs) be de sz ro co mi T B2 hd df) from (by rw [e2]; exact c_copy_7_3_1_4)) rfl rfl (Nat.le_of_ble_eq_true rfl) rfl ?_
  refine mB hT 9 rfl ?_
  refine mAaldH hT (List.mem_of_getElem? (i := 23) rfl) hb ?_
  refine hC.2.2.1 _ 1 [_, _, _] _ _ _ _ _ (hk2) rfl rfl (Nat.le_of_ble_eq_true rfl) rfl ?_
  refine mB hT 2 rfl ?_
  exact hR _ (by decide) _ _ _ rfl rfl
set_option maxRecDepth 20000 in
theorem x_mixed_3_1 {n vs : Nat} {be de : Int64} {sz : Int32} {ro co mi : Nat → Int64} {T : Nat → Nat → Int64} {B : Nat → Nat → Nat → Int32} {hd : Nat → Nat → Int32} {df : Nat → Int32} (hn : n ≤ 4) {b : Nat} (hb : b < 4) {k : Nat} (hk : k < 3) (h0 : ¬ detX n (lyT n ((cpX (cpX B 7 6 0 1) 7 3 1 4) 7) T) = 0) : ∃ (be2 de2 : Int64) (sz2 : Int32) (ro2 co2 mi2 : Nat → Int64) (T2 : Nat → Nat → Int64), KX2_mixedTotal l D ca ad [.ref 0, .int 3, .int 1, .int (Int32.ofNat b), .int (Int32.ofNat k)] (XW (Int32.ofNat n) (Int32.ofNat vs) be de sz ro co mi T B hd df) (some (.long (thX (smX n ((cpX (cpX B 7 6 0 1) 7 3 1 4) 7) (roX n (lyT n ((cpX (cpX B 7 6 0 1) 7 3 1 4) 7) T) (hd b) ro) k 1) (absX (detX n (lyT n ((cpX (cpX B 7 6 0 1) 7 3 1 4) 7) T)))))) (XW (Int32.ofNat n) (Int32.ofNat vs) be2 de2 sz2 ro2 co2 mi2 T2 (cpX (cpX B 7 6 0 1) 7 3 1 4) hd df) := by
  obtain ⟨B1, e1⟩ : ∃ z, z = cpX B 7 6 0 1 := ⟨_, rfl⟩
  obtain ⟨B2, e2⟩ : ∃ z, z = cpX B1 7 3 1 4 := ⟨_, rfl⟩
  rw [← e1, ← e2] at h0 ⊢
  obtain ⟨de2, co2, mi2, T2, hk2⟩ := c_solve1_7 (l := l) (D := D) (ca := ca) (ad := ad) (vs := vs) (be := be) (de := de) (sz := sz) (ro := ro) (co := co) (mi := mi) (df := df) (B := B2) hn hb h0
  obtain ⟨r1, er1⟩ : ∃ z, z = roX n (lyT n (B2 7) T) (hd b) ro := ⟨_, rfl⟩
  rw [← er1] at hk2
  rw [← er1]
  obtain ⟨dt, edt⟩ : ∃ z, z = detX n (lyT n (B2 7) T) := ⟨_, rfl⟩
  rw [← edt] at hk2 h0
  rw [← edt]
  refine ⟨absX dt, de2, (Int32.ofNat n), r1, co2, mi2, T2, ?_⟩
  refine PX2_mixedTotal (Nat.le_of_ble_eq_true rfl) ?_
  intro G hT hC hR
  refine mB hT 6 rfl ?_
  refine hC.1 _ 16 [_, _, _] _ _ _ _ _ (show KX0_copyRows l D ca ad _ _ none (XW (Int32.ofNat n) (Int32.ofNat vs) be de sz ro co mi T B1 hd df) from (by rw [e1]; exact c_copy_7_6_0_1)) rfl rfl (Nat.le_of_ble_eq_true rfl) rfl ?_
  refine mB hT 8 rfl ?_
  refine hC.2.1 _ 16 [_, _, _] _ _ _ _ _ (show KX0_copyRows l D ca ad _ _ none (XW (Int32.ofNat n) (Int32.ofNat vs) be de sz ro co mi T B2 hd df) from (by rw [e2]; exact c_copy_7_3_1_4)) rfl rfl (Nat.le_of_ble_eq_true rfl) rfl ?_
  refine mB hT 9 rfl ?_
  refine mAaldH hT (List.mem_of_getElem? (i := 23) rfl) hb ?_
  refine hC.2.2.1 _ 1 [_, _, _] _ _ _ _ _ (hk2) rfl rfl (Nat.le_of_ble_eq_true rfl) rfl ?_
  refine mB hT 7 rfl ?_
  refine hC.2.2.2.1 _ 1 [_, _, _] _ _ _ _ _ (c_sum_7 hn k 1 hk (by decide)) rfl rfl (Nat.le_of_ble_eq_true rfl) rfl ?_
  refine mB hT 3 rfl ?_
  refine hC.2.2.2.2 _ [_, _] _ _ _ _ (c_th (absX_ne h0)) rfl (Nat.le_of_ble_eq_true rfl) rfl ?_
  exact hR _ (by decide) _ _ _ rfl rfl
set_option maxRecDepth 20000 in
theorem x_mixed_B_3_2 {n vs : Nat} {be de : Int64} {sz : Int32} {ro co mi : Nat → Int64} {T : Nat → Nat → Int64} {B : Nat → Nat → Nat → Int32} {hd : Nat → Nat → Int32} {df : Nat → Int32} (hn : n ≤ 4) {b : Nat} (hb : b < 4) {k : Nat} (hk : k < 3) (h0 : detX n (lyT n ((cpX (cpX B 7 6 0 2) 7 3 2 4) 7) T) = 0) : ∃ (be2 de2 : Int64) (sz2 : Int32) (ro2 co2 mi2 : Nat → Int64) (T2 : Nat → Nat → Int64), KX2_mixedTotal l D ca ad [.ref 0, .int 3, .int 2, .int (Int32.ofNat b), .int (Int32.ofNat k)] (XW (Int32.ofNat n) (Int32.ofNat vs) be de sz ro co mi T B hd df) (some (.long (-9000000000000000004))) (XW (Int32.ofNat n) (Int32.ofNat vs) be2 de2 sz2 ro2 co2 mi2 T2 (cpX (cpX B 7 6 0 2) 7 3 2 4) hd df) := by
  obtain ⟨B1, e1⟩ : ∃ z, z = cpX B 7 6 0 2 := ⟨_, rfl⟩
  obtain ⟨B2, e2⟩ : ∃ z, z = cpX B1 7 3 2 4 := ⟨_, rfl⟩
  rw [← e1, ← e2] at h0 ⊢
  obtain ⟨de2, mi2, T2, hk2⟩ := c_solve0_7 (l := l) (D := D) (ca := ca) (ad := ad) (vs := vs) (be := be) (de := de) (sz := sz) (ro := ro) (co := co) (mi := mi) (df := df) (B := B2) hn hb h0
  refine ⟨be, de2, (Int32.ofNat n), ro, co, mi2, T2, ?_⟩
  refine PX2_mixedTotal (Nat.le_of_ble_eq_true rfl) ?_
  intro G hT hC hR
  refine mB hT 6 rfl ?_
  refine hC.1 _ 16 [_, _, _] _ _ _ _ _ (show KX0_copyRows l D ca ad _ _ none (XW (Int32.ofNat n) (Int32.ofNat vs) be de sz ro co mi T B1 hd df) from (by rw [e1]; exact c_copy_7_6_0_2)) rfl rfl (Nat.le_of_ble_eq_true rfl) rfl ?_
  refine mB hT 8 rfl ?_
  refine hC.2.1 _ 16 [_, _, _] _ _ _ _ _ (show KX0_copyRows l D ca ad _ _ none (XW (Int32.ofNat n) (Int32.ofNat vs) be de sz ro co mi T B2 hd df) from (by rw [e2]; exact c_copy_7_3_2_4)) rfl rfl (Nat.le_of_ble_eq_true rfl) rfl ?_
  refine mB hT 9 rfl ?_
  refine mAaldH hT (List.mem_of_getElem? (i := 23) rfl) hb ?_
  refine hC.2.2.1 _ 1 [_, _, _] _ _ _ _ _ (hk2) rfl rfl (Nat.le_of_ble_eq_true rfl) rfl ?_
  refine mB hT 2 rfl ?_
  exact hR _ (by decide) _ _ _ rfl rfl
set_option maxRecDepth 20000 in
theorem x_mixed_3_2 {n vs : Nat} {be de : Int64} {sz : Int32} {ro co mi : Nat → Int64} {T : Nat → Nat → Int64} {B : Nat → Nat → Nat → Int32} {hd : Nat → Nat → Int32} {df : Nat → Int32} (hn : n ≤ 4) {b : Nat} (hb : b < 4) {k : Nat} (hk : k < 3) (h0 : ¬ detX n (lyT n ((cpX (cpX B 7 6 0 2) 7 3 2 4) 7) T) = 0) : ∃ (be2 de2 : Int64) (sz2 : Int32) (ro2 co2 mi2 : Nat → Int64) (T2 : Nat → Nat → Int64), KX2_mixedTotal l D ca ad [.ref 0, .int 3, .int 2, .int (Int32.ofNat b), .int (Int32.ofNat k)] (XW (Int32.ofNat n) (Int32.ofNat vs) be de sz ro co mi T B hd df) (some (.long (thX (smX n ((cpX (cpX B 7 6 0 2) 7 3 2 4) 7) (roX n (lyT n ((cpX (cpX B 7 6 0 2) 7 3 2 4) 7) T) (hd b) ro) k 1) (absX (detX n (lyT n ((cpX (cpX B 7 6 0 2) 7 3 2 4) 7) T)))))) (XW (Int32.ofNat n) (Int32.ofNat vs) be2 de2 sz2 ro2 co2 mi2 T2 (cpX (cpX B 7 6 0 2) 7 3 2 4) hd df) := by
  obtain ⟨B1, e1⟩ : ∃ z, z = cpX B 7 6 0 2 := ⟨_, rfl⟩
  obtain ⟨B2, e2⟩ : ∃ z, z = cpX B1 7 3 2 4 := ⟨_, rfl⟩
  rw [← e1, ← e2] at h0 ⊢
  obtain ⟨de2, co2, mi2, T2, hk2⟩ := c_solve1_7 (l := l) (D := D) (ca := ca) (ad := ad) (vs := vs) (be := be) (de := de) (sz := sz) (ro := ro) (co := co) (mi := mi) (df := df) (B := B2) hn hb h0
  obtain ⟨r1, er1⟩ : ∃ z, z = roX n (lyT n (B2 7) T) (hd b) ro := ⟨_, rfl⟩
  rw [← er1] at hk2
  rw [← er1]
  obtain ⟨dt, edt⟩ : ∃ z, z = detX n (lyT n (B2 7) T) := ⟨_, rfl⟩
  rw [← edt] at hk2 h0
  rw [← edt]
  refine ⟨absX dt, de2, (Int32.ofNat n), r1, co2, mi2, T2, ?_⟩
  refine PX2_mixedTotal (Nat.le_of_ble_eq_true rfl) ?_
  intro G hT hC hR
  refine mB hT 6 rfl ?_
  refine hC.1 _ 16 [_, _, _] _ _ _ _ _ (show KX0_copyRows l D ca ad _ _ none (XW (Int32.ofNat n) (Int32.ofNat vs) be de sz ro co mi T B1 hd df) from (by rw [e1]; exact c_copy_7_6_0_2)) rfl rfl (Nat.le_of_ble_eq_true rfl) rfl ?_
  refine mB hT 8 rfl ?_
  refine hC.2.1 _ 16 [_, _, _] _ _ _ _ _ (show KX0_copyRows l D ca ad _ _ none (XW (Int32.ofNat n) (Int32.ofNat vs) be de sz ro co mi T B2 hd df) from (by rw [e2]; exact c_copy_7_3_2_4)) rfl rfl (Nat.le_of_ble_eq_true rfl) rfl ?_
  refine mB hT 9 rfl ?_
  refine mAaldH hT (List.mem_of_getElem? (i := 23) rfl) hb ?_
  refine hC.2.2.1 _ 1 [_, _, _] _ _ _ _ _ (hk2) rfl rfl (Nat.le_of_ble_eq_true rfl) rfl ?_
  refine mB hT 7 rfl ?_
  refine hC.2.2.2.1 _ 1 [_, _, _] _ _ _ _ _ (c_sum_7 hn k 1 hk (by decide)) rfl rfl (Nat.le_of_ble_eq_true rfl) rfl ?_
  refine mB hT 3 rfl ?_
  refine hC.2.2.2.2 _ [_, _] _ _ _ _ (c_th (absX_ne h0)) rfl (Nat.le_of_ble_eq_true rfl) rfl ?_
  exact hR _ (by decide) _ _ _ rfl rfl
set_option maxRecDepth 20000 in
theorem x_mixed_B_3_3 {n vs : Nat} {be de : Int64} {sz : Int32} {ro co mi : Nat → Int64} {T : Nat → Nat → Int64} {B : Nat → Nat → Nat → Int32} {hd : Nat → Nat → Int32} {df : Nat → Int32} (hn : n ≤ 4) {b : Nat} (hb : b < 4) {k : Nat} (hk : k < 3) (h0 : detX n (lyT n ((cpX (cpX B 7 6 0 3) 7 3 3 4) 7) T) = 0) : ∃ (be2 de2 : Int64) (sz2 : Int32) (ro2 co2 mi2 : Nat → Int64) (T2 : Nat → Nat → Int64), KX2_mixedTotal l D ca ad [.ref 0, .int 3, .int 3, .int (Int32.ofNat b), .int (Int32.ofNat k)] (XW (Int32.ofNat n) (Int32.ofNat vs) be de sz ro co mi T B hd df) (some (.long (-9000000000000000004))) (XW (Int32.ofNat n) (Int32.ofNat vs) be2 de2 sz2 ro2 co2 mi2 T2 (cpX (cpX B 7 6 0 3) 7 3 3 4) hd df) := by
  obtain ⟨B1, e1⟩ : ∃ z, z = cpX B 7 6 0 3 := ⟨_, rfl⟩
  obtain ⟨B2, e2⟩ : ∃ z, z = cpX B1 7 3 3 4 := ⟨_, rfl⟩
  rw [← e1, ← e2] at h0 ⊢
  obtain ⟨de2, mi2, T2, hk2⟩ := c_solve0_7 (l := l) (D := D) (ca := ca) (ad := ad) (vs := vs) (be := be) (de := de) (sz := sz) (ro := ro) (co := co) (mi := mi) (df := df) (B := B2) hn hb h0
  refine ⟨be, de2, (Int32.ofNat n), ro, co, mi2, T2, ?_⟩
  refine PX2_mixedTotal (Nat.le_of_ble_eq_true rfl) ?_
  intro G hT hC hR
  refine mB hT 6 rfl ?_
  refine hC.1 _ 16 [_, _, _] _ _ _ _ _ (show KX0_copyRows l D ca ad _ _ none (XW (Int32.ofNat n) (Int32.ofNat vs) be de sz ro co mi T B1 hd df) from (by rw [e1]; exact c_copy_7_6_0_3)) rfl rfl (Nat.le_of_ble_eq_true rfl) rfl ?_
  refine mB hT 8 rfl ?_
  refine hC.2.1 _ 16 [_, _, _] _ _ _ _ _ (show KX0_copyRows l D ca ad _ _ none (XW (Int32.ofNat n) (Int32.ofNat vs) be de sz ro co mi T B2 hd df) from (by rw [e2]; exact c_copy_7_3_3_4)) rfl rfl (Nat.le_of_ble_eq_true rfl) rfl ?_
  refine mB hT 9 rfl ?_
  refine mAaldH hT (List.mem_of_getElem? (i := 23) rfl) hb ?_
  refine hC.2.2.1 _ 1 [_, _, _] _ _ _ _ _ (hk2) rfl rfl (Nat.le_of_ble_eq_true rfl) rfl ?_
  refine mB hT 2 rfl ?_
  exact hR _ (by decide) _ _ _ rfl rfl
set_option maxRecDepth 20000 in
theorem x_mixed_3_3 {n vs : Nat} {be de : Int64} {sz : Int32} {ro co mi : Nat → Int64} {T : Nat → Nat → Int64} {B : Nat → Nat → Nat → Int32} {hd : Nat → Nat → Int32} {df : Nat → Int32} (hn : n ≤ 4) {b : Nat} (hb : b < 4) {k : Nat} (hk : k < 3) (h0 : ¬ detX n (lyT n ((cpX (cpX B 7 6 0 3) 7 3 3 4) 7) T) = 0) : ∃ (be2 de2 : Int64) (sz2 : Int32) (ro2 co2 mi2 : Nat → Int64) (T2 : Nat → Nat → Int64), KX2_mixedTotal l D ca ad [.ref 0, .int 3, .int 3, .int (Int32.ofNat b), .int (Int32.ofNat k)] (XW (Int32.ofNat n) (Int32.ofNat vs) be de sz ro co mi T B hd df) (some (.long (thX (smX n ((cpX (cpX B 7 6 0 3) 7 3 3 4) 7) (roX n (lyT n ((cpX (cpX B 7 6 0 3) 7 3 3 4) 7) T) (hd b) ro) k 1) (absX (detX n (lyT n ((cpX (cpX B 7 6 0 3) 7 3 3 4) 7) T)))))) (XW (Int32.ofNat n) (Int32.ofNat vs) be2 de2 sz2 ro2 co2 mi2 T2 (cpX (cpX B 7 6 0 3) 7 3 3 4) hd df) := by
  obtain ⟨B1, e1⟩ : ∃ z, z = cpX B 7 6 0 3 := ⟨_, rfl⟩
  obtain ⟨B2, e2⟩ : ∃ z, z = cpX B1 7 3 3 4 := ⟨_, rfl⟩
  rw [← e1, ← e2] at h0 ⊢
  obtain ⟨de2, co2, mi2, T2, hk2⟩ := c_solve1_7 (l := l) (D := D) (ca := ca) (ad := ad) (vs := vs) (be := be) (de := de) (sz := sz) (ro := ro) (co := co) (mi := mi) (df := df) (B := B2) hn hb h0
  obtain ⟨r1, er1⟩ : ∃ z, z = roX n (lyT n (B2 7) T) (hd b) ro := ⟨_, rfl⟩
  rw [← er1] at hk2
  rw [← er1]
  obtain ⟨dt, edt⟩ : ∃ z, z = detX n (lyT n (B2 7) T) := ⟨_, rfl⟩
  rw [← edt] at hk2 h0
  rw [← edt]
  refine ⟨absX dt, de2, (Int32.ofNat n), r1, co2, mi2, T2, ?_⟩
  refine PX2_mixedTotal (Nat.le_of_ble_eq_true rfl) ?_
  intro G hT hC hR
  refine mB hT 6 rfl ?_
  refine hC.1 _ 16 [_, _, _] _ _ _ _ _ (show KX0_copyRows l D ca ad _ _ none (XW (Int32.ofNat n) (Int32.ofNat vs) be de sz ro co mi T B1 hd df) from (by rw [e1]; exact c_copy_7_6_0_3)) rfl rfl (Nat.le_of_ble_eq_true rfl) rfl ?_
  refine mB hT 8 rfl ?_
  refine hC.2.1 _ 16 [_, _, _] _ _ _ _ _ (show KX0_copyRows l D ca ad _ _ none (XW (Int32.ofNat n) (Int32.ofNat vs) be de sz ro co mi T B2 hd df) from (by rw [e2]; exact c_copy_7_3_3_4)) rfl rfl (Nat.le_of_ble_eq_true rfl) rfl ?_
  refine mB hT 9 rfl ?_
  refine mAaldH hT (List.mem_of_getElem? (i := 23) rfl) hb ?_
  refine hC.2.2.1 _ 1 [_, _, _] _ _ _ _ _ (hk2) rfl rfl (Nat.le_of_ble_eq_true rfl) rfl ?_
  refine mB hT 7 rfl ?_
  refine hC.2.2.2.1 _ 1 [_, _, _] _ _ _ _ _ (c_sum_7 hn k 1 hk (by decide)) rfl rfl (Nat.le_of_ble_eq_true rfl) rfl ?_
  refine mB hT 3 rfl ?_
  refine hC.2.2.2.2 _ [_, _] _ _ _ _ (c_th (absX_ne h0)) rfl (Nat.le_of_ble_eq_true rfl) rfl ?_
  exact hR _ (by decide) _ _ _ rfl rfl
set_option maxRecDepth 20000 in
theorem x_mixed_B_3_4 {n vs : Nat} {be de : Int64} {sz : Int32} {ro co mi : Nat → Int64} {T : Nat → Nat → Int64} {B : Nat → Nat → Nat → Int32} {hd : Nat → Nat → Int32} {df : Nat → Int32} (hn : n ≤ 4) {b : Nat} (hb : b < 4) {k : Nat} (hk : k < 3) (h0 : detX n (lyT n ((cpX (cpX B 7 6 0 4) 7 3 4 4) 7) T) = 0) : ∃ (be2 de2 : Int64) (sz2 : Int32) (ro2 co2 mi2 : Nat → Int64) (T2 : Nat → Nat → Int64), KX2_mixedTotal l D ca ad [.ref 0, .int 3, .int 4, .int (Int32.ofNat b), .int (Int32.ofNat k)] (XW (Int32.ofNat n) (Int32.ofNat vs) be de sz ro co mi T B hd df) (some (.long (-9000000000000000004))) (XW (Int32.ofNat n) (Int32.ofNat vs) be2 de2 sz2 ro2 co2 mi2 T2 (cpX (cpX B 7 6 0 4) 7 3 4 4) hd df) := by
  obtain ⟨B1, e1⟩ : ∃ z, z = cpX B 7 6 0 4 := ⟨_, rfl⟩
  obtain ⟨B2, e2⟩ : ∃ z, z = cpX B1 7 3 4 4 := ⟨_, rfl⟩
  rw [← e1, ← e2] at h0 ⊢
  obtain ⟨de2, mi2, T2, hk2⟩ := c_solve0_7 (l := l) (D := D) (ca := ca) (ad := ad) (vs := vs) (be := be) (de := de) (sz := sz) (ro := ro) (co := co) (mi := mi) (df := df) (B := B2) hn hb h0
  refine ⟨be, de2, (Int32.ofNat n), ro, co, mi2, T2, ?_⟩
  refine PX2_mixedTotal (Nat.le_of_ble_eq_true rfl) ?_
  intro G hT hC hR
  refine mB hT 6 rfl ?_
  refine hC.1 _ 16 [_, _, _] _ _ _ _ _ (show KX0_copyRows l D ca ad _ _ none (XW (Int32.ofNat n) (Int32.ofNat vs) be de sz ro co mi T B1 hd df) from (by rw [e1]; exact c_copy_7_6_0_4)) rfl rfl (Nat.le_of_ble_eq_true rfl) rfl ?_
  refine mB hT 8 rfl ?_
  refine hC.2.1 _ 16 [_, _, _] _ _ _ _ _ (show KX0_copyRows l D ca ad _ _ none (XW (Int32.ofNat n) (Int32.ofNat vs) be de sz ro co mi T B2 hd df) from (by rw [e2]; exact c_copy_7_3_4_4)) rfl rfl (Nat.le_of_ble_eq_true rfl) rfl ?_
  refine mB hT 9 rfl ?_
  refine mAaldH hT (List.mem_of_getElem? (i := 23) rfl) hb ?_
  refine hC.2.2.1 _ 1 [_, _, _] _ _ _ _ _ (hk2) rfl rfl (Nat.le_of_ble_eq_true rfl) rfl ?_
  refine mB hT 2 rfl ?_
  exact hR _ (by decide) _ _ _ rfl rfl
set_option maxRecDepth 20000 in
theorem x_mixed_3_4 {n vs : Nat} {be de : Int64} {sz : Int32} {ro co mi : Nat → Int64} {T : Nat → Nat → Int64} {B : Nat → Nat → Nat → Int32} {hd : Nat → Nat → Int32} {df : Nat → Int32} (hn : n ≤ 4) {b : Nat} (hb : b < 4) {k : Nat} (hk : k < 3) (h0 : ¬ detX n (lyT n ((cpX (cpX B 7 6 0 4) 7 3 4 4) 7) T) = 0) : ∃ (be2 de2 : Int64) (sz2 : Int32) (ro2 co2 mi2 : Nat → Int64) (T2 : Nat → Nat → Int64), KX2_mixedTotal l D ca ad [.ref 0, .int 3, .int 4, .int (Int32.ofNat b), .int (Int32.ofNat k)] (XW (Int32.ofNat n) (Int32.ofNat vs) be de sz ro co mi T B hd df) (some (.long (thX (smX n ((cpX (cpX B 7 6 0 4) 7 3 4 4) 7) (roX n (lyT n ((cpX (cpX B 7 6 0 4) 7 3 4 4) 7) T) (hd b) ro) k 1) (absX (detX n (lyT n ((cpX (cpX B 7 6 0 4) 7 3 4 4) 7) T)))))) (XW (Int32.ofNat n) (Int32.ofNat vs) be2 de2 sz2 ro2 co2 mi2 T2 (cpX (cpX B 7 6 0 4) 7 3 4 4) hd df) := by
  obtain ⟨B1, e1⟩ : ∃ z, z = cpX B 7 6 0 4 := ⟨_, rfl⟩
  obtain ⟨B2, e2⟩ : ∃ z, z = cpX B1 7 3 4 4 := ⟨_, rfl⟩
  rw [← e1, ← e2] at h0 ⊢
  obtain ⟨de2, co2, mi2, T2, hk2⟩ := c_solve1_7 (l := l) (D := D) (ca := ca) (ad := ad) (vs := vs) (be := be) (de := de) (sz := sz) (ro := ro) (co := co) (mi := mi) (df := df) (B := B2) hn hb h0
  obtain ⟨r1, er1⟩ : ∃ z, z = roX n (lyT n (B2 7) T) (hd b) ro := ⟨_, rfl⟩
  rw [← er1] at hk2
  rw [← er1]
  obtain ⟨dt, edt⟩ : ∃ z, z = detX n (lyT n (B2 7) T) := ⟨_, rfl⟩
  rw [← edt] at hk2 h0
  rw [← edt]
  refine ⟨absX dt, de2, (Int32.ofNat n), r1, co2, mi2, T2, ?_⟩
  refine PX2_mixedTotal (Nat.le_of_ble_eq_true rfl) ?_
  intro G hT hC hR
  refine mB hT 6 rfl ?_
  refine hC.1 _ 16 [_, _, _] _ _ _ _ _ (show KX0_copyRows l D ca ad _ _ none (XW (Int32.ofNat n) (Int32.ofNat vs) be de sz ro co mi T B1 hd df) from (by rw [e1]; exact c_copy_7_6_0_4)) rfl rfl (Nat.le_of_ble_eq_true rfl) rfl ?_
  refine mB hT 8 rfl ?_
  refine hC.2.1 _ 16 [_, _, _] _ _ _ _ _ (show KX0_copyRows l D ca ad _ _ none (XW (Int32.ofNat n) (Int32.ofNat vs) be de sz ro co mi T B2 hd df) from (by rw [e2]; exact c_copy_7_3_4_4)) rfl rfl (Nat.le_of_ble_eq_true rfl) rfl ?_
  refine mB hT 9 rfl ?_
  refine mAaldH hT (List.mem_of_getElem? (i := 23) rfl) hb ?_
  refine hC.2.2.1 _ 1 [_, _, _] _ _ _ _ _ (hk2) rfl rfl (Nat.le_of_ble_eq_true rfl) rfl ?_
  refine mB hT 7 rfl ?_
  refine hC.2.2.2.1 _ 1 [_, _, _] _ _ _ _ _ (c_sum_7 hn k 1 hk (by decide)) rfl rfl (Nat.le_of_ble_eq_true rfl) rfl ?_
  refine mB hT 3 rfl ?_
  refine hC.2.2.2.2 _ [_, _] _ _ _ _ (c_th (absX_ne h0)) rfl (Nat.le_of_ble_eq_true rfl) rfl ?_
  exact hR _ (by decide) _ _ _ rfl rfl
set_option maxRecDepth 20000 in
theorem x_mixed_B_4_0 {n vs : Nat} {be de : Int64} {sz : Int32} {ro co mi : Nat → Int64} {T : Nat → Nat → Int64} {B : Nat → Nat → Nat → Int32} {hd : Nat → Nat → Int32} {df : Nat → Int32} (hn : n ≤ 4) {b : Nat} (hb : b < 4) {k : Nat} (hk : k < 3) (h0 : detX n (lyT n ((cpX (cpX B 7 6 0 0) 7 4 0 4) 7) T) = 0) : ∃ (be2 de2 : Int64) (sz2 : Int32) (ro2 co2 mi2 : Nat → Int64) (T2 : Nat → Nat → Int64), KX2_mixedTotal l D ca ad [.ref 0, .int 4, .int 0, .int (Int32.ofNat b), .int (Int32.ofNat k)] (XW (Int32.ofNat n) (Int32.ofNat vs) be de sz ro co mi T B hd df) (some (.long (-9000000000000000004))) (XW (Int32.ofNat n) (Int32.ofNat vs) be2 de2 sz2 ro2 co2 mi2 T2 (cpX (cpX B 7 6 0 0) 7 4 0 4) hd df) := by
  obtain ⟨B1, e1⟩ : ∃ z, z = cpX B 7 6 0 0 := ⟨_, rfl⟩
  obtain ⟨B2, e2⟩ : ∃ z, z = cpX B1 7 4 0 4 := ⟨_, rfl⟩
  rw [← e1, ← e2] at h0 ⊢
  obtain ⟨de2, mi2, T2, hk2⟩ := c_solve0_7 (l := l) (D := D) (ca := ca) (ad := ad) (vs := vs) (be := be) (de := de) (sz := sz) (ro := ro) (co := co) (mi := mi) (df := df) (B := B2) hn hb h0
  refine ⟨be, de2, (Int32.ofNat n), ro, co, mi2, T2, ?_⟩
  refine PX2_mixedTotal (Nat.le_of_ble_eq_true rfl) ?_
  intro G hT hC hR
  refine mB hT 6 rfl ?_
  refine hC.1 _ 16 [_, _, _] _ _ _ _ _ (show KX0_copyRows l D ca ad _ _ none (XW (Int32.ofNat n) (Int32.ofNat vs) be de sz ro co mi T B1 hd df) from (by rw [e1]; exact c_copy_7_6_0_0)) rfl rfl (Nat.le_of_ble_eq_true rfl) rfl ?_
  refine mB hT 8 rfl ?_
  refine hC.2.1 _ 16 [_, _, _] _ _ _ _ _ (show KX0_copyRows l D ca ad _ _ none (XW (Int32.ofNat n) (Int32.ofNat vs) be de sz ro co mi T B2 hd df) from (by rw [e2]; exact c_copy_7_4_0_4)) rfl rfl (Nat.le_of_ble_eq_true rfl) rfl ?_
  refine mB hT 9 rfl ?_
  refine mAaldH hT (List.mem_of_getElem? (i := 23) rfl) hb ?_
  refine hC.2.2.1 _ 1 [_, _, _] _ _ _ _ _ (hk2) rfl rfl (Nat.le_of_ble_eq_true rfl) rfl ?_
  refine mB hT 2 rfl ?_
  exact hR _ (by decide) _ _ _ rfl rfl
set_option maxRecDepth 20000 in
theorem x_mixed_4_0 {n vs : Nat} {be de : Int64} {sz : Int32} {ro co mi : Nat → Int64} {T : Nat → Nat → Int64} {B : Nat → Nat → Nat → Int32} {hd : Nat → Nat → Int32} {df : Nat → Int32} (hn : n ≤ 4) {b : Nat} (hb : b < 4) {k : Nat} (hk : k < 3) (h0 : ¬ detX n (lyT n ((cpX (cpX B 7 6 0 0) 7 4 0 4) 7) T) = 0) : ∃ (be2 de2 : Int64) (sz2 : Int32) (ro2 co2 mi2 : Nat → Int64) (T2 : Nat → Nat → Int64), KX2_mixedTotal l D ca ad [.ref 0, .int 4, .int 0, .int (Int32.ofNat b), .int (Int32.ofNat k)] (XW (Int32.ofNat n) (Int32.ofNat vs) be de sz ro co mi T B hd df) (some (.long (thX (smX n ((cpX (cpX B 7 6 0 0) 7 4 0 4) 7) (roX n (lyT n ((cpX (cpX B 7 6 0 0) 7 4 0 4) 7) T) (hd b) ro) k 1) (absX (detX n (lyT n ((cpX (cpX B 7 6 0 0) 7 4 0 4) 7) T)))))) (XW (Int32.ofNat n) (Int32.ofNat vs) be2 de2 sz2 ro2 co2 mi2 T2 (cpX (cpX B 7 6 0 0) 7 4 0 4) hd df) := by
  obtain ⟨B1, e1⟩ : ∃ z, z = cpX B 7 6 0 0 := ⟨_, rfl⟩
  obtain ⟨B2, e2⟩ : ∃ z, z = cpX B1 7 4 0 4 := ⟨_, rfl⟩
  rw [← e1, ← e2] at h0 ⊢
  obtain ⟨de2, co2, mi2, T2, hk2⟩ := c_solve1_7 (l := l) (D := D) (ca := ca) (ad := ad) (vs := vs) (be := be) (de := de) (sz := sz) (ro := ro) (co := co) (mi := mi) (df := df) (B := B2) hn hb h0
  obtain ⟨r1, er1⟩ : ∃ z, z = roX n (lyT n (B2 7) T) (hd b) ro := ⟨_, rfl⟩
  rw [← er1] at hk2
  rw [← er1]
  obtain ⟨dt, edt⟩ : ∃ z, z = detX n (lyT n (B2 7) T) := ⟨_, rfl⟩
  rw [← edt] at hk2 h0
  rw [← edt]
  refine ⟨absX dt, de2, (Int32.ofNat n), r1, co2, mi2, T2, ?_⟩
  refine PX2_mixedTotal (Nat.le_of_ble_eq_true rfl) ?_
  intro G hT hC hR
  refine mB hT 6 rfl ?_
  refine hC.1 _ 16 [_, _, _] _ _ _ _ _ (show KX0_copyRows l D ca ad _ _ none (XW (Int32.ofNat n) (Int32.ofNat vs) be de sz ro co mi T B1 hd df) from (by rw [e1]; exact c_copy_7_6_0_0)) rfl rfl (Nat.le_of_ble_eq_true rfl) rfl ?_
  refine mB hT 8 rfl ?_
  refine hC.2.1 _ 16 [_, _, _] _ _ _ _ _ (show KX0_copyRows l D ca ad _ _ none (XW (Int32.ofNat n) (Int32.ofNat vs) be de sz ro co mi T B2 hd df) from (by rw [e2]; exact c_copy_7_4_0_4)) rfl rfl (Nat.le_of_ble_eq_true rfl) rfl ?_
  refine mB hT 9 rfl ?_
  refine mAaldH hT (List.mem_of_getElem? (i := 23) rfl) hb ?_
  refine hC.2.2.1 _ 1 [_, _, _] _ _ _ _ _ (hk2) rfl rfl (Nat.le_of_ble_eq_true rfl) rfl ?_
  refine mB hT 7 rfl ?_
  refine hC.2.2.2.1 _ 1 [_, _, _] _ _ _ _ _ (c_sum_7 hn k 1 hk (by decide)) rfl rfl (Nat.le_of_ble_eq_true rfl) rfl ?_
  refine mB hT 3 rfl ?_
  refine hC.2.2.2.2 _ [_, _] _ _ _ _ (c_th (absX_ne h0)) rfl (Nat.le_of_ble_eq_true rfl) rfl ?_
  exact hR _ (by decide) _ _ _ rfl rfl
set_option maxRecDepth 20000 in
theorem x_mixed_B_4_1 {n vs : Nat} {be de : Int64} {sz : Int32} {ro co mi : Nat → Int64} {T : Nat → Nat → Int64} {B : Nat → Nat → Nat → Int32} {hd : Nat → Nat → Int32} {df : Nat → Int32} (hn : n ≤ 4) {b : Nat} (hb : b < 4) {k : Nat} (hk : k < 3) (h0 : detX n (lyT n ((cpX (cpX B 7 6 0 1) 7 4 1 4) 7) T) = 0) : ∃ (be2 de2 : Int64) (sz2 : Int32) (ro2 co2 mi2 : Nat → Int64) (T2 : Nat → Nat → Int64), KX2_mixedTotal l D ca ad [.ref 0, .int 4, .int 1, .int (Int32.ofNat b), .int (Int32.ofNat k)] (XW (Int32.ofNat n) (Int32.ofNat vs) be de sz ro co mi T B hd df) (some (.long (-9000000000000000004))) (XW (Int32.ofNat n) (Int32.ofNat vs) be2 de2 sz2 ro2 co2 mi2 T2 (cpX (cpX B 7 6 0 1) 7 4 1 4) hd df) := by
  obtain ⟨B1, e1⟩ : ∃ z, z = cpX B 7 6 0 1 := ⟨_, rfl⟩
  obtain ⟨B2, e2⟩ : ∃ z, z = cpX B1 7 4 1 4 := ⟨_, rfl⟩
  rw [← e1, ← e2] at h0 ⊢
  obtain ⟨de2, mi2, T2, hk2⟩ := c_solve0_7 (l := l) (D := D) (ca := ca) (ad := ad) (vs := vs) (be := be) (de := de) (sz := sz) (ro := ro) (co := co) (mi := mi) (df := df) (B := B2) hn hb h0
  refine ⟨be, de2, (Int32.ofNat n), ro, co, mi2, T2, ?_⟩
  refine PX2_mixedTotal (Nat.le_of_ble_eq_true rfl) ?_
  intro G hT hC hR
  refine mB hT 6 rfl ?_
  refine hC.1 _ 16 [_, _, _] _ _ _ _ _ (show KX0_copyRows l D ca ad _ _ none (XW (Int32.ofNat n) (Int32.ofNat vs) be de sz ro co mi T B1 hd df) from (by rw [e1]; exact c_copy_7_6_0_1)) rfl rfl (Nat.le_of_ble_eq_true rfl) rfl ?_
  refine mB hT 8 rfl ?_
  refine hC.2.1 _ 16 [_, _, _] _ _ _ _ _ (show KX0_copyRows l D ca ad _ _ none (XW (Int32.ofNat n) (Int32.ofNat vs) be de sz ro co mi T B2 hd df) from (by rw [e2]; exact c_copy_7_4_1_4)) rfl rfl (Nat.le_of_ble_eq_true rfl) rfl ?_
  refine mB hT 9 rfl ?_
  refine mAaldH hT (List.mem_of_getElem? (i := 23) rfl) hb ?_
  refine hC.2.2.1 _ 1 [_, _, _] _ _ _ _ _ (hk2) rfl rfl (Nat.le_of_ble_eq_true rfl) rfl ?_
  refine mB hT 2 rfl ?_
  exact hR _ (by decide) _ _ _ rfl rfl
set_option maxRecDepth 20000 in
theorem x_mixed_4_1 {n vs : Nat} {be de : Int64} {sz : Int32} {ro co mi : Nat → Int64} {T : Nat → Nat → Int64} {B : Nat → Nat → Nat → Int32} {hd : Nat → Nat → Int32} {df : Nat → Int32} (hn : n ≤ 4) {b : Nat} (hb : b < 4) {k : Nat} (hk : k < 3) (h0 : ¬ detX n (lyT n ((cpX (cpX B 7 6 0 1) 7 4 1 4) 7) T) = 0) : ∃ (be2 de2 : Int64) (sz2 : Int32) (ro2 co2 mi2 : Nat → Int64) (T2 : Nat → Nat → Int64), KX2_mixedTotal l D ca ad [.ref 0, .int 4, .int 1, .int (Int32.ofNat b), .int (Int32.ofNat k)] (XW (Int32.ofNat n) (Int32.ofNat vs) be de sz ro co mi T B hd df) (some (.long (thX (smX n ((cpX (cpX B 7 6 0 1) 7 4 1 4) 7) (roX n (lyT n ((cpX (cpX B 7 6 0 1) 7 4 1 4) 7) T) (hd b) ro) k 1) (absX (detX n (lyT n ((cpX (cpX B 7 6 0 1) 7 4 1 4) 7) T)))))) (XW (Int32.ofNat n) (Int32.ofNat vs) be2 de2 sz2 ro2 co2 mi2 T2 (cpX (cpX B 7 6 0 1) 7 4 1 4) hd df) := by
  obtain ⟨B1, e1⟩ : ∃ z, z = cpX B 7 6 0 1 := ⟨_, rfl⟩
  obtain ⟨B2, e2⟩ : ∃ z, z = cpX B1 7 4 1 4 := ⟨_, rfl⟩
  rw [← e1, ← e2] at h0 ⊢
  obtain ⟨de2, co2, mi2, T2, hk2⟩ := c_solve1_7 (l := l) (D := D) (ca := ca) (ad := ad) (vs := vs) (be := be) (de := de) (sz := sz) (ro := ro) (co := co) (mi := mi) (df := df) (B := B2) hn hb h0
  obtain ⟨r1, er1⟩ : ∃ z, z = roX n (lyT n (B2 7) T) (hd b) ro := ⟨_, rfl⟩
  rw [← er1] at hk2
  rw [← er1]
  obtain ⟨dt, edt⟩ : ∃ z, z = detX n (lyT n (B2 7) T) := ⟨_, rfl⟩
  rw [← edt] at hk2 h0
  rw [← edt]
  refine ⟨absX dt, de2, (Int32.ofNat n), r1, co2, mi2, T2, ?_⟩
  refine PX2_mixedTotal (Nat.le_of_ble_eq_true rfl) ?_
  intro G hT hC hR
  refine mB hT 6 rfl ?_
  refine hC.1 _ 16 [_, _, _] _ _ _ _ _ (show KX0_copyRows l D ca ad _ _ none (XW (Int32.ofNat n) (Int32.ofNat vs) be de sz ro co mi T B1 hd df) from (by rw [e1]; exact c_copy_7_6_0_1)) rfl rfl (Nat.le_of_ble_eq_true rfl) rfl ?_
  refine mB hT 8 rfl ?_
  refine hC.2.1 _ 16 [_, _, _] _ _ _ _ _ (show KX0_copyRows l D ca ad _ _ none (XW (Int32.ofNat n) (Int32.ofNat vs) be de sz ro co mi T B2 hd df) from (by rw [e2]; exact c_copy_7_4_1_4)) rfl rfl (Nat.le_of_ble_eq_true rfl) rfl ?_
  refine mB hT 9 rfl ?_
  refine mAaldH hT (List.mem_of_getElem? (i := 23) rfl) hb ?_
  refine hC.2.2.1 _ 1 [_, _, _] _ _ _ _ _ (hk2) rfl rfl (Nat.le_of_ble_eq_true rfl) rfl ?_
  refine mB hT 7 rfl ?_
  refine hC.2.2.2.1 _ 1 [_, _, _] _ _ _ _ _ (c_sum_7 hn k 1 hk (by decide)) rfl rfl (Nat.le_of_ble_eq_true rfl) rfl ?_
  refine mB hT 3 rfl ?_
  refine hC.2.2.2.2 _ [_, _] _ _ _ _ (c_th (absX_ne h0)) rfl (Nat.le_of_ble_eq_true rfl) rfl ?_
  exact hR _ (by decide) _ _ _ rfl rfl
set_option maxRecDepth 20000 in
theorem x_mixed_B_4_2 {n vs : Nat} {be de : Int64} {sz : Int32} {ro co mi : Nat → Int64} {T : Nat → Nat → Int64} {B : Nat → Nat → Nat → Int32} {hd : Nat → Nat → Int32} {df : Nat → Int32} (hn : n ≤ 4) {b : Nat} (hb : b < 4) {k : Nat} (hk : k < 3) (h0 : detX n (lyT n ((cpX (cpX B 7 6 0 2) 7 4 2 4) 7) T) = 0) : ∃ (be2 de2 : Int64) (sz2 : Int32) (ro2 co2 mi2 : Nat → Int64) (T2 : Nat → Nat → Int64), KX2_mixedTotal l D ca ad [.ref 0, .int 4, .int 2, .int (Int32.ofNat b), .int (Int32.ofNat k)] (XW (Int32.ofNat n) (Int32.ofNat vs) be de sz ro co mi T B hd df) (some (.long (-9000000000000000004))) (XW (Int32.ofNat n) (Int32.ofNat vs) be2 de2 sz2 ro2 co2 mi2 T2 (cpX (cpX B 7 6 0 2) 7 4 2 4) hd df) := by
  obtain ⟨B1, e1⟩ : ∃ z, z = cpX B 7 6 0 2 := ⟨_, rfl⟩
  obtain ⟨B2, e2⟩ : ∃ z, z = cpX B1 7 4 2 4 := ⟨_, rfl⟩
  rw [← e1, ← e2] at h0 ⊢
  obtain ⟨de2, mi2, T2, hk2⟩ := c_solve0_7 (l := l) (D := D) (ca := ca) (ad := ad) (vs := vs) (be := be) (de := de) (sz := sz) (ro := ro) (co := co) (mi := mi) (df := df) (B := B2) hn hb h0
  refine ⟨be, de2, (Int32.ofNat n), ro, co, mi2, T2, ?_⟩
  refine PX2_mixedTotal (Nat.le_of_ble_eq_true rfl) ?_
  intro G hT hC hR
  refine mB hT 6 rfl ?_
  refine hC.1 _ 16 [_, _, _] _ _ _ _ _ (show KX0_copyRows l D ca ad _ _ none (XW (Int32.ofNat n) (Int32.ofNat vs) be de sz ro co mi T B1 hd df) from (by rw [e1]; exact c_copy_7_6_0_2)) rfl rfl (Nat.le_of_ble_eq_true rfl) rfl ?_
  refine mB hT 8 rfl ?_
  refine hC.2.1 _ 16 [_, _, _] _ _ _ _ _ (show KX0_copyRows l D ca ad _ _ none (XW (Int32.ofNat n) (Int32.ofNat vs) be de sz ro co mi T B2 hd df) from (by rw [e2]; exact c_copy_7_4_2_4)) rfl rfl (Nat.le_of_ble_eq_true rfl) rfl ?_
  refine mB hT 9 rfl ?_
  refine mAaldH hT (List.mem_of_getElem? (i := 23) rfl) hb ?_
  refine hC.2.2.1 _ 1 [_, _, _] _ _ _ _ _ (hk2) rfl rfl (Nat.le_of_ble_eq_true rfl) rfl ?_
  refine mB hT 2 rfl ?_
  exact hR _ (by decide) _ _ _ rfl rfl
set_option maxRecDepth 20000 in
theorem x_mixed_4_2 {n vs : Nat} {be de : Int64} {sz : Int32} {ro co mi : Nat → Int64} {T : Nat → Nat → Int64} {B : Nat → Nat → Nat → Int32} {hd : Nat → Nat → Int32} {df : Nat → Int32} (hn : n ≤ 4) {b : Nat} (hb : b < 4) {k : Nat} (hk : k < 3) (h0 : ¬ detX n (lyT n ((cpX (cpX B 7 6 0 2) 7 4 2 4) 7) T) = 0) : ∃ (be2 de2 : Int64) (sz2 : Int32) (ro2 co2 mi2 : Nat → Int64) (T2 : Nat → Nat → Int64), KX2_mixedTotal l D ca ad [.ref 0, .int 4, .int 2, .int (Int32.ofNat b), .int (Int32.ofNat k)] (XW (Int32.ofNat n) (Int32.ofNat vs) be de sz ro co mi T B hd df) (some (.long (thX (smX n ((cpX (cpX B 7 6 0 2) 7 4 2 4) 7) (roX n (lyT n ((cpX (cpX B 7 6 0 2) 7 4 2 4) 7) T) (hd b) ro) k 1) (absX (detX n (lyT n ((cpX (cpX B 7 6 0 2) 7 4 2 4) 7) T)))))) (XW (Int32.ofNat n) (Int32.ofNat vs) be2 de2 sz2 ro2 co2 mi2 T2 (cpX (cpX B 7 6 0 2) 7 4 2 4) hd df) := by
  obtain ⟨B1, e1⟩ : ∃ z, z = cpX B 7 6 0 2 := ⟨_, rfl⟩
  obtain ⟨B2, e2⟩ : ∃ z, z = cpX B1 7 4 2 4 := ⟨_, rfl⟩
  rw [← e1, ← e2] at h0 ⊢
  obtain ⟨de2, co2, mi2, T2, hk2⟩ := c_solve1_7 (l := l) (D := D) (ca := ca) (ad := ad) (vs := vs) (be := be) (de := de) (sz := sz) (ro := ro) (co := co) (mi := mi) (df := df) (B := B2) hn hb h0
  obtain ⟨r1, er1⟩ : ∃ z, z = roX n (lyT n (B2 7) T) (hd b) ro := ⟨_, rfl⟩
  rw [← er1] at hk2
  rw [← er1]
  obtain ⟨dt, edt⟩ : ∃ z, z = detX n (lyT n (B2 7) T) := ⟨_, rfl⟩
  rw [← edt] at hk2 h0
  rw [← edt]
  refine ⟨absX dt, de2, (Int32.ofNat n), r1, co2, mi2, T2, ?_⟩
  refine PX2_mixedTotal (Nat.le_of_ble_eq_true rfl) ?_
  intro G hT hC hR
  refine mB hT 6 rfl ?_
  refine hC.1 _ 16 [_, _, _] _ _ _ _ _ (show KX0_copyRows l D ca ad _ _ none (XW (Int32.ofNat n) (Int32.ofNat vs) be de sz ro co mi T B1 hd df) from (by rw [e1]; exact c_copy_7_6_0_2)) rfl rfl (Nat.le_of_ble_eq_true rfl) rfl ?_
  refine mB hT 8 rfl ?_
  refine hC.2.1 _ 16 [_, _, _] _ _ _ _ _ (show KX0_copyRows l D ca ad _ _ none (XW (Int32.ofNat n) (Int32.ofNat vs) be de sz ro co mi T B2 hd df) from (by rw [e2]; exact c_copy_7_4_2_4)) rfl rfl (Nat.le_of_ble_eq_true rfl) rfl ?_
  refine mB hT 9 rfl ?_
  refine mAaldH hT (List.mem_of_getElem? (i := 23) rfl) hb ?_
  refine hC.2.2.1 _ 1 [_, _, _] _ _ _ _ _ (hk2) rfl rfl (Nat.le_of_ble_eq_true rfl) rfl ?_
  refine mB hT 7 rfl ?_
  refine hC.2.2.2.1 _ 1 [_, _, _] _ _ _ _ _ (c_sum_7 hn k 1 hk (by decide)) rfl rfl (Nat.le_of_ble_eq_true rfl) rfl ?_
  refine mB hT 3 rfl ?_
  refine hC.2.2.2.2 _ [_, _] _ _ _ _ (c_th (absX_ne h0)) rfl (Nat.le_of_ble_eq_true rfl) rfl ?_
  exact hR _ (by decide) _ _ _ rfl rfl
set_option maxRecDepth 20000 in
theorem x_mixed_B_4_3 {n vs : Nat} {be de : Int64} {sz : Int32} {ro co mi : Nat → Int64} {T : Nat → Nat → Int64} {B : Nat → Nat → Nat → Int32} {hd : Nat → Nat → Int32} {df : Nat → Int32} (hn : n ≤ 4) {b : Nat} (hb : b < 4) {k : Nat} (hk : k < 3) (h0 : detX n (lyT n ((cpX (cpX B 7 6 0 3) 7 4 3 4) 7) T) = 0) : ∃ (be2 de2 : Int64) (sz2 : Int32) (ro2 co2 mi2 : Nat → Int64) (T2 : Nat → Nat → Int64), KX2_mixedTotal l D ca ad [.ref 0, .int 4, .int 3, .int (Int32.ofNat b), .int (Int32.ofNat k)] (XW (Int32.ofNat n) (Int32.ofNat vs) be de sz ro co mi T B hd df) (some (.long (-9000000000000000004))) (XW (Int32.ofNat n) (Int32.ofNat vs) be2 de2 sz2 ro2 co2 mi2 T2 (cpX (cpX B 7 6 0 3) 7 4 3 4) hd df) := by
  obtain ⟨B1, e1⟩ : ∃ z, z = cpX B 7 6 0 3 := ⟨_, rfl⟩
  obtain ⟨B2, e2⟩ : ∃ z, z = cpX B1 7 4 3 4 := ⟨_, rfl⟩
  rw [← e1, ← e2] at h0 ⊢
  obtain ⟨de2, mi2, T2, hk2⟩ := c_solve0_7 (l := l) (D := D) (ca := ca) (ad := ad) (vs := vs) (be := be) (de := de) (sz := sz) (ro := ro) (co := co) (mi := mi) (df := df) (B := B2) hn hb h0
  refine ⟨be, de2, (Int32.ofNat n), ro, co, mi2, T2, ?_⟩
  refine PX2_mixedTotal (Nat.le_of_ble_eq_true rfl) ?_
  intro G hT hC hR
  refine mB hT 6 rfl ?_
  refine hC.1 _ 16 [_, _, _] _ _ _ _ _ (show KX0_copyRows l D ca ad _ _ none (XW (Int32.ofNat n) (Int32.ofNat vs) be de sz ro co mi T B1 hd df) from (by rw [e1]; exact c_copy_7_6_0_3)) rfl rfl (Nat.le_of_ble_eq_true rfl) rfl ?_
  refine mB hT 8 rfl ?_
  refine hC.2.1 _ 16 [_, _, _] _ _ _ _ _ (show KX0_copyRows l D ca ad _ _ none (XW (Int32.ofNat n) (Int32.ofNat vs) be de sz ro co mi T B2 hd df) from (by rw [e2]; exact c_copy_7_4_3_4)) rfl rfl (Nat.le_of_ble_eq_true rfl) rfl ?_
  refine mB hT 9 rfl ?_
  refine mAaldH hT (List.mem_of_getElem? (i := 23) rfl) hb ?_
  refine hC.2.2.1 _ 1 [_, _, _] _ _ _ _ _ (hk2) rfl rfl (Nat.le_of_ble_eq_true rfl) rfl ?_
  refine mB hT 2 rfl ?_
  exact hR _ (by decide) _ _ _ rfl rfl
set_option maxRecDepth 20000 in
theorem x_mixed_4_3 {n vs : Nat} {be de : Int64} {sz : Int32} {ro co mi : Nat → Int64} {T : Nat → Nat → Int64} {B : Nat → Nat → Nat → Int32} {hd : Nat → Nat → Int32} {df : Nat → Int32} (hn : n ≤ 4) {b : Nat} (hb : b < 4) {k : Nat} (hk : k < 3) (h0 : ¬ detX n (lyT n ((cpX (cpX B 7 6 0 3) 7 4 3 4) 7) T) = 0) : ∃ (be2 de2 : Int64) (sz2 : Int32) (ro2 co2 mi2 : Nat → Int64) (T2 : Nat → Nat → Int64), KX2_mixedTotal l D ca ad [.ref 0, .int 4, .int 3, .int (Int32.ofNat b), .int (Int32.ofNat k)] (XW (Int32.ofNat n) (Int32.ofNat vs) be de sz ro co mi T B hd df) (some (.long (thX (smX n ((cpX (cpX B 7 6 0 3) 7 4 3 4) 7) (roX n (lyT n ((cpX (cpX B 7 6 0 3) 7 4 3 4) 7) T) (hd b) ro) k 1) (absX (detX n (lyT n ((cpX (cpX B 7 6 0 3) 7 4 3 4) 7) T)))))) (XW (Int32.ofNat n) (Int32.ofNat vs) be2 de2 sz2 ro2 co2 mi2 T2 (cpX (cpX B 7 6 0 3) 7 4 3 4) hd df) := by
  obtain ⟨B1, e1⟩ : ∃ z, z = cpX B 7 6 0 3 := ⟨_, rfl⟩
  obtain ⟨B2, e2⟩ : ∃ z, z = cpX B1 7 4 3 4 := ⟨_, rfl⟩
  rw [← e1, ← e2] at h0 ⊢
  obtain ⟨de2, co2, mi2, T2, hk2⟩ := c_solve1_7 (l := l) (D := D) (ca := ca) (ad := ad) (vs := vs) (be := be) (de := de) (sz := sz) (ro := ro) (co := co) (mi := mi) (df := df) (B := B2) hn hb h0
  obtain ⟨r1, er1⟩ : ∃ z, z = roX n (lyT n (B2 7) T) (hd b) ro := ⟨_, rfl⟩
  rw [← er1] at hk2
  rw [← er1]
  obtain ⟨dt, edt⟩ : ∃ z, z = detX n (lyT n (B2 7) T) := ⟨_, rfl⟩
  rw [← edt] at hk2 h0
  rw [← edt]
  refine ⟨absX dt, de2, (Int32.ofNat n), r1, co2, mi2, T2, ?_⟩
  refine PX2_mixedTotal (Nat.le_of_ble_eq_true rfl) ?_
  intro G hT hC hR
  refine mB hT 6 rfl ?_
  refine hC.1 _ 16 [_, _, _] _ _ _ _ _ (show KX0_copyRows l D ca ad _ _ none (XW (Int32.ofNat n) (Int32.ofNat vs) be de sz ro co mi T B1 hd df) from (by rw [e1]; exact c_copy_7_6_0_3)) rfl rfl (Nat.le_of_ble_eq_true rfl) rfl ?_
  refine mB hT 8 rfl ?_
  refine hC.2.1 _ 16 [_, _, _] _ _ _ _ _ (show KX0_copyRows l D ca ad _ _ none (XW (Int32.ofNat n) (Int32.ofNat vs) be de sz ro co mi T B2 hd df) from (by rw [e2]; exact c_copy_7_4_3_4)) rfl rfl (Nat.le_of_ble_eq_true rfl) rfl ?_
  refine mB hT 9 rfl ?_
  refine mAaldH hT (List.mem_of_getElem? (i := 23) rfl) hb ?_
  refine hC.2.2.1 _ 1 [_, _, _] _ _ _ _ _ (hk2) rfl rfl (Nat.le_of_ble_eq_true rfl) rfl ?_
  refine mB hT 7 rfl ?_
  refine hC.2.2.2.1 _ 1 [_, _, _] _ _ _ _ _ (c_sum_7 hn k 1 hk (by decide)) rfl rfl (Nat.le_of_ble_eq_true rfl) rfl ?_
  refine mB hT 3 rfl ?_
  refine hC.2.2.2.2 _ [_, _] _ _ _ _ (c_th (absX_ne h0)) rfl (Nat.le_of_ble_eq_true rfl) rfl ?_
  exact hR _ (by decide) _ _ _ rfl rfl
set_option maxRecDepth 20000 in
theorem x_mixed_B_4_4 {n vs : Nat} {be de : Int64} {sz : Int32} {ro co mi : Nat → Int64} {T : Nat → Nat → Int64} {B : Nat → Nat → Nat → Int32} {hd : Nat → Nat → Int32} {df : Nat → Int32} (hn : n ≤ 4) {b : Nat} (hb : b < 4) {k : Nat} (hk : k < 3) (h0 : detX n (lyT n ((cpX (cpX B 7 6 0 4) 7 4 4 4) 7) T) = 0) : ∃ (be2 de2 : Int64) (sz2 : Int32) (ro2 co2 mi2 : Nat → Int64) (T2 : Nat → Nat → Int64), KX2_mixedTotal l D ca ad [.ref 0, .int 4, .int 4, .int (Int32.ofNat b), .int (Int32.ofNat k)] (XW (Int32.ofNat n) (Int32.ofNat vs) be de sz ro co mi T B hd df) (some (.long (-9000000000000000004))) (XW (Int32.ofNat n) (Int32.ofNat vs) be2 de2 sz2 ro2 co2 mi2 T2 (cpX (cpX B 7 6 0 4) 7 4 4 4) hd df) := by
  obtain ⟨B1, e1⟩ : ∃ z, z = cpX B 7 6 0 4 := ⟨_, rfl⟩
  obtain ⟨B2, e2⟩ : ∃ z, z = cpX B1 7 4 4 4 := ⟨_, rfl⟩
  rw [← e1, ← e2] at h0 ⊢
  obtain ⟨de2, mi2, T2, hk2⟩ := c_solve0_7 (l := l) (D := D) (ca := ca) (ad := ad) (vs := vs) (be := be) (de := de) (sz := sz) (ro := ro) (co := co) (mi := mi) (df := df) (B := B2) hn hb h0
  refine ⟨be, de2, (Int32.ofNat n), ro, co, mi2, T2, ?_⟩
  refine PX2_mixedTotal (Nat.le_of_ble_eq_true rfl) ?_
  intro G hT hC hR
  refine mB hT 6 rfl ?_
  refine hC.1 _ 16 [_, _, _] _ _ _ _ _ (show KX0_copyRows l D ca ad _ _ none (XW (Int32.ofNat n) (Int32.ofNat vs) be de sz ro co mi T B1 hd df) from (by rw [e1]; exact c_copy_7_6_0_4)) rfl rfl (Nat.le_of_ble_eq_true rfl) rfl ?_
  refine mB hT 8 rfl ?_
  refine hC.2.1 _ 16 [_, _, _] _ _ _ _ _ (show KX0_copyRows l D ca ad _ _ none (XW (Int32.ofNat n) (Int32.ofNat vs) be de sz ro co mi T B2 hd df) from (by rw [e2]; exact c_copy_7_4_4_4)) rfl rfl (Nat.le_of_ble_eq_true rfl) rfl ?_
  refine mB hT 9 rfl ?_
  refine mAaldH hT (List.mem_of_getElem? (i := 23) rfl) hb ?_
  refine hC.2.2.1 _ 1 [_, _, _] _ _ _ _ _ (hk2) rfl rfl (Nat.le_of_ble_eq_true rfl) rfl ?_
  refine mB hT 2 rfl ?_
  exact hR _ (by decide) _ _ _ rfl rfl
set_option maxRecDepth 20000 in
theorem x_mixed_4_4 {n vs : Nat} {be de : Int64} {sz : Int32} {ro co mi : Nat → Int64} {T : Nat → Nat → Int64} {B : Nat → Nat → Nat → Int32} {hd : Nat → Nat → Int32} {df : Nat → Int32} (hn : n ≤ 4) {b : Nat} (hb : b < 4) {k : Nat} (hk : k < 3) (h0 : ¬ detX n (lyT n ((cpX (cpX B 7 6 0 4) 7 4 4 4) 7) T) = 0) : ∃ (be2 de2 : Int64) (sz2 : Int32) (ro2 co2 mi2 : Nat → Int64) (T2 : Nat → Nat → Int64), KX2_mixedTotal l D ca ad [.ref 0, .int 4, .int 4, .int (Int32.ofNat b), .int (Int32.ofNat k)] (XW (Int32.ofNat n) (Int32.ofNat vs) be de sz ro co mi T B hd df) (some (.long (thX (smX n ((cpX (cpX B 7 6 0 4) 7 4 4 4) 7) (roX n (lyT n ((cpX (cpX B 7 6 0 4) 7 4 4 4) 7) T) (hd b) ro) k 1) (absX (detX n (lyT n ((cpX (cpX B 7 6 0 4) 7 4 4 4) 7) T)))))) (XW (Int32.ofNat n) (Int32.ofNat vs) be2 de2 sz2 ro2 co2 mi2 T2 (cpX (cpX B 7 6 0 4) 7 4 4 4) hd df) := by
  obtain ⟨B1, e1⟩ : ∃ z, z = cpX B 7 6 0 4 := ⟨_, rfl⟩
  obtain ⟨B2, e2⟩ : ∃ z, z = cpX B1 7 4 4 4 := ⟨_, rfl⟩
  rw [← e1, ← e2] at h0 ⊢
  obtain ⟨de2, co2, mi2, T2, hk2⟩ := c_solve1_7 (l := l) (D := D) (ca := ca) (ad := ad) (vs := vs) (be := be) (de := de) (sz := sz) (ro := ro) (co := co) (mi := mi) (df := df) (B := B2) hn hb h0
  obtain ⟨r1, er1⟩ : ∃ z, z = roX n (lyT n (B2 7) T) (hd b) ro := ⟨_, rfl⟩
  rw [← er1] at hk2
  rw [← er1]
  obtain ⟨dt, edt⟩ : ∃ z, z = detX n (lyT n (B2 7) T) := ⟨_, rfl⟩
  rw [← edt] at hk2 h0
  rw [← edt]
  refine ⟨absX dt, de2, (Int32.ofNat n), r1, co2, mi2, T2, ?_⟩
  refine PX2_mixedTotal (Nat.le_of_ble_eq_true rfl) ?_
  intro G hT hC hR
  refine mB hT 6 rfl ?_
  refine hC.1 _ 16 [_, _, _] _ _ _ _ _ (show KX0_copyRows l D ca ad _ _ none (XW (Int32.ofNat n) (Int32.ofNat vs) be de sz ro co mi T B1 hd df) from (by rw [e1]; exact c_copy_7_6_0_4)) rfl rfl (Nat.le_of_ble_eq_true rfl) rfl ?_
  refine mB hT 8 rfl ?_
  refine hC.2.1 _ 16 [_, _, _] _ _ _ _ _ (show KX0_copyRows l D ca ad _ _ none (XW (Int32.ofNat n) (Int32.ofNat vs) be de sz ro co mi T B2 hd df) from (by rw [e2]; exact c_copy_7_4_4_4)) rfl rfl (Nat.le_of_ble_eq_true rfl) rfl ?_
  refine mB hT 9 rfl ?_
  refine mAaldH hT (List.mem_of_getElem? (i := 23) rfl) hb ?_
  refine hC.2.2.1 _ 1 [_, _, _] _ _ _ _ _ (hk2) rfl rfl (Nat.le_of_ble_eq_true rfl) rfl ?_
  refine mB hT 7 rfl ?_
  refine hC.2.2.2.1 _ 1 [_, _, _] _ _ _ _ _ (c_sum_7 hn k 1 hk (by decide)) rfl rfl (Nat.le_of_ble_eq_true rfl) rfl ?_
  refine mB hT 3 rfl ?_
  refine hC.2.2.2.2 _ [_, _] _ _ _ _ (c_th (absX_ne h0)) rfl (Nat.le_of_ble_eq_true rfl) rfl ?_
  exact hR _ (by decide) _ _ _ rfl rfl
set_option maxRecDepth 20000 in
theorem x_mixed_B_5_0 {n vs : Nat} {be de : Int64} {sz : Int32} {ro co mi : Nat → Int64} {T : Nat → Nat → Int64} {B : Nat → Nat → Nat → Int32} {hd : Nat → Nat → Int32} {df : Nat → Int32} (hn : n ≤ 4) {b : Nat} (hb : b < 4) {k : Nat} (hk : k < 3) (h0 : detX n (lyT n ((cpX (cpX B 7 6 0 0) 7 5 0 4) 7) T) = 0) : ∃ (be2 de2 : Int64) (sz2 : Int32) (ro2 co2 mi2 : Nat → Int64) (T2 : Nat → Nat → Int64), KX2_mixedTotal l D ca ad [.ref 0, .int 5, .int 0, .int (Int32.ofNat b), .int (Int32.ofNat k)] (XW (Int32.ofNat n) (Int32.ofNat vs) be de sz ro co mi T B hd df) (some (.long (-9000000000000000004))) (XW (Int32.ofNat n) (Int32.ofNat vs) be2 de2 sz2 ro2 co2 mi2 T2 (cpX (cpX B 7 6 0 0) 7 5 0 4) hd df) := by
  obtain ⟨B1, e1⟩ : ∃ z, z = cpX B 7 6 0 0 := ⟨_, rfl⟩
  obtain ⟨B2, e2⟩ : ∃ z, z = cpX B1 7 5 0 4 := ⟨_, rfl⟩
  rw [← e1, ← e2] at h0 ⊢
  obtain ⟨de2, mi2, T2, hk2⟩ := c_solve0_7 (l := l) (D := D) (ca := ca) (ad := ad) (vs := vs) (be := be) (de := de) (sz := sz) (ro := ro) (co := co) (mi := mi) (df := df) (B := B2) hn hb h0
  refine ⟨be, de2, (Int32.ofNat n), ro, co, mi2, T2, ?_⟩
  refine PX2_mixedTotal (Nat.le_of_ble_eq_true rfl) ?_
  intro G hT hC hR
  refine mB hT 6 rfl ?_
  refine hC.1 _ 16 [_, _, _] _ _ _ _ _ (show KX0_copyRows l D ca ad _ _ none (XW (Int32.ofNat n) (Int32.ofNat vs) be de sz ro co mi T B1 hd df) from (by rw [e1]; exact c_copy_7_6_0_0)) rfl rfl (Nat.le_of_ble_eq_true rfl) rfl ?_
  refine mB hT 8 rfl ?_
  refine hC.2.1 _ 16 [_, _, _] _ _ _ _ _ (show KX0_copyRows l D ca ad _ _ none (XW (Int32.ofNat n) (Int32.ofNat vs) be de sz ro co mi T B2 hd df) from (by rw [e2]; exact c_copy_7_5_0_4)) rfl rfl (Nat.le_of_ble_eq_true rfl) rfl ?_
  refine mB hT 9 rfl ?_
  refine mAaldH hT (List.mem_of_getElem? (i := 23) rfl) hb ?_
  refine hC.2.2.1 _ 1 [_, _, _] _ _ _ _ _ (hk2) rfl rfl (Nat.le_of_ble_eq_true rfl) rfl ?_
  refine mB hT 2 rfl ?_
  exact hR _ (by decide) _ _ _ rfl rfl
set_option maxRecDepth 20000 in
theorem x_mixed_5_0 {n vs : Nat} {be de : Int64} {sz : Int32} {ro co mi : Nat → Int64} {T : Nat → Nat → Int64} {B : Nat → Nat → Nat → Int32} {hd : Nat → Nat → Int32} {df : Nat → Int32} (hn : n ≤ 4) {b : Nat} (hb : b < 4) {k : Nat} (hk : k < 3) (h0 : ¬ detX n (lyT n ((cpX (cpX B 7 6 0 0) 7 5 0 4) 7) T) = 0) : ∃ (be2 de2 : Int64) (sz2 : Int32) (ro2 co2 mi2 : Nat → Int64) (T2 : Nat → Nat → Int64), KX2_mixedTotal l D ca ad [.ref 0, .int 5, .int 0, .int (Int32.ofNat b), .int (Int32.ofNat k)] (XW (Int32.ofNat n) (Int32.ofNat vs) be de sz ro co mi T B hd df) (some (.long (thX (smX n ((cpX (cpX B 7 6 0 0) 7 5 0 4) 7) (roX n (lyT n ((cpX (cpX B 7 6 0 0) 7 5 0 4) 7) T) (hd b) ro) k 1) (absX (detX n (lyT n ((cpX (cpX B 7 6 0 0) 7 5 0 4) 7) T)))))) (XW (Int32.ofNat n) (Int32.ofNat vs) be2 de2 sz2 ro2 co2 mi2 T2 (cpX (cpX B 7 6 0 0) 7 5 0 4) hd df) := by
  obtain ⟨B1, e1⟩ : ∃ z, z = cpX B 7 6 0 0 := ⟨_, rfl⟩
  obtain ⟨B2, e2⟩ : ∃ z, z = cpX B1 7 5 0 4 := ⟨_, rfl⟩
  rw [← e1, ← e2] at h0 ⊢
  obtain ⟨de2, co2, mi2, T2, hk2⟩ := c_solve1_7 (l := l) (D := D) (ca := ca) (ad := ad) (vs := vs) (be := be) (de := de) (sz := sz) (ro := ro) (co := co) (mi := mi) (df := df) (B := B2) hn hb h0
  obtain ⟨r1, er1⟩ : ∃ z, z = roX n (lyT n (B2 7) T) (hd b) ro := ⟨_, rfl⟩
  rw [← er1] at hk2
  rw [← er1]
  obtain ⟨dt, edt⟩ : ∃ z, z = detX n (lyT n (B2 7) T) := ⟨_, rfl⟩
  rw [← edt] at hk2 h0
  rw [← edt]
  refine ⟨absX dt, de2, (Int32.ofNat n), r1, co2, mi2, T2, ?_⟩
  refine PX2_mixedTotal (Nat.le_of_ble_eq_true rfl) ?_
  intro G hT hC hR
  refine mB hT 6 rfl ?_
  refine hC.1 _ 16 [_, _, _] _ _ _ _ _ (show KX0_copyRows l D ca ad _ _ none (XW (Int32.ofNat n) (Int32.ofNat vs) be de sz ro co mi T B1 hd df) from (by rw [e1]; exact c_copy_7_6_0_0)) rfl rfl (Nat.le_of_ble_eq_true rfl) rfl ?_
  refine mB hT 8 rfl ?_
  refine hC.2.1 _ 16 [_, _, _] _ _ _ _ _ (show KX0_copyRows l D ca ad _ _ none (XW (Int32.ofNat n) (Int32.ofNat vs) be de sz ro co mi T B2 hd df) from (by rw [e2]; exact c_copy_7_5_0_4)) rfl rfl (Nat.le_of_ble_eq_true rfl) rfl ?_
  refine mB hT 9 rfl ?_
  refine mAaldH hT (List.mem_of_getElem? (i := 23) rfl) hb ?_
  refine hC.2.2.1 _ 1 [_, _, _] _ _ _ _ _ (hk2) rfl rfl (Nat.le_of_ble_eq_true rfl) rfl ?_
  refine mB hT 7 rfl ?_
  refine hC.2.2.2.1 _ 1 [_, _, _] _ _ _ _ _ (c_sum_7 hn k 1 hk (by decide)) rfl rfl (Nat.le_of_ble_eq_true rfl) rfl ?_
  refine mB hT 3 rfl ?_
  refine hC.2.2.2.2 _ [_, _] _ _ _ _ (c_th (absX_ne h0)) rfl (Nat.le_of_ble_eq_true rfl) rfl ?_
  exact hR _ (by decide) _ _ _ rfl rfl
set_option maxRecDepth 20000 in
theorem x_mixed_B_5_1 {n vs : Nat} {be de : Int64} {sz : Int32} {ro co mi : Nat → Int64} {T : Nat → Nat → Int64} {B : Nat → Nat → Nat → Int32} {hd : Nat → Nat → Int32} {df : Nat → Int32} (hn : n ≤ 4) {b : Nat} (hb : b < 4) {k : Nat} (hk : k < 3) (h0 : detX n (lyT n ((cpX (cpX B 7 6 0 1) 7 5 1 4) 7) T) = 0) : ∃ (be2 de2 : Int64) (sz2 : Int32) (ro2 co2 mi2 : Nat → Int64) (T2 : Nat → Nat → Int64), KX2_mixedTotal l D ca ad [.ref 0, .int 5, .int 1, .int (Int32.ofNat b), .int (Int32.ofNat k)] (XW (Int32.ofNat n) (Int32.ofNat vs) be de sz ro co mi T B hd df) (some (.long (-9000000000000000004))) (XW (Int32.ofNat n) (Int32.ofNat vs) be2 de2 sz2 ro2 co2 mi2 T2 (cpX (cpX B 7 6 0 1) 7 5 1 4) hd df) := by
  obtain ⟨B1, e1⟩ : ∃ z, z = cpX B 7 6 0 1 := ⟨_, rfl⟩
  obtain ⟨B2, e2⟩ : ∃ z, z = cpX B1 7 5 1 4 := ⟨_, rfl⟩
  rw [← e1, ← e2] at h0 ⊢
  obtain ⟨de2, mi2, T2, hk2⟩ := c_solve0_7 (l := l) (D := D) (ca := ca) (ad := ad) (vs := vs) (be := be) (de := de) (sz := sz) (ro := ro) (co := co) (mi := mi) (df := df) (B := B2) hn hb h0
  refine ⟨be, de2, (Int32.ofNat n), ro, co, mi2, T2, ?_⟩
  refine PX2_mixedTotal (Nat.le_of_ble_eq_true rfl) ?_
  intro G hT hC hR
  refine mB hT 6 rfl ?_
  refine hC.1 _ 16 [_, _, _] _ _ _ _ _ (show KX0_copyRows l D ca ad _ _ none (XW (Int32.ofNat n) (Int32.ofNat vs) be de sz ro co mi T B1 hd df) from (by rw [e1]; exact c_copy_7_6_0_1)) rfl rfl (Nat.le_of_ble_eq_true rfl) rfl ?_
  refine mB hT 8 rfl ?_
  refine hC.2.1 _ 16 [_, _, _] _ _ _ _ _ (show KX0_copyRows l D ca ad _ _ none (XW (Int32.ofNat n) (Int32.ofNat vs) be de sz ro co mi T B2 hd df) from (by rw [e2]; exact c_copy_7_5_1_4)) rfl rfl (Nat.le_of_ble_eq_true rfl) rfl ?_
  refine mB hT 9 rfl ?_
  refine mAaldH hT (List.mem_of_getElem? (i := 23) rfl) hb ?_
  refine hC.2.2.1 _ 1 [_, _, _] _ _ _ _ _ (hk2) rfl rfl (Nat.le_of_ble_eq_true rfl) rfl ?_
  refine mB hT 2 rfl ?_
  exact hR _ (by decide) _ _ _ rfl rfl
set_option maxRecDepth 20000 in
theorem x_mixed_5_1 {n vs : Nat} {be de : Int64} {sz : Int32} {ro co mi : Nat → Int64} {T : Nat → Nat → Int64} {B : Nat → Nat → Nat → Int32} {hd : Nat → Nat → Int32} {df : Nat → Int32} (hn : n ≤ 4) {b : Nat} (hb : b < 4) {k : Nat} (hk : k < 3) (h0 : ¬ detX n (lyT n ((cpX (cpX B 7 6 0 1) 7 5 1 4) 7) T) = 0) : ∃ (be2 de2 : Int64) (sz2 : Int32) (ro2 co2 mi2 : Nat → Int64) (T2 : Nat → Nat → Int64), KX2_mixedTotal l D ca ad [.ref 0, .int 5, .int 1, .int (Int32.ofNat b), .int (Int32.ofNat k)] (XW (Int32.ofNat n) (Int32.ofNat vs) be de sz ro co mi T B hd df) (some (.long (thX (smX n ((cpX (cpX B 7 6 0 1) 7 5 1 4) 7) (roX n (lyT n ((cpX (cpX B 7 6 0 1) 7 5 1 4) 7) T) (hd b) ro) k 1) (absX (detX n (lyT n ((cpX (cpX B 7 6 0 1) 7 5 1 4) 7) T)))))) (XW (Int32.ofNat n) (Int32.ofNat vs) be2 de2 sz2 ro2 co2 mi2 T2 (cpX (cpX B 7 6 0 1) 7 5 1 4) hd df) := by
  obtain ⟨B1, e1⟩ : ∃ z, z = cpX B 7 6 0 1 := ⟨_, rfl⟩
  obtain ⟨B2, e2⟩ : ∃ z, z = cpX B1 7 5 1 4 := ⟨_, rfl⟩
  rw [← e1, ← e2] at h0 ⊢
  obtain ⟨de2, co2, mi2, T2, hk2⟩ := c_solve1_7 (l := l) (D := D) (ca := ca) (ad := ad) (vs := vs) (be := be) (de := de) (sz := sz) (ro := ro) (co := co) (mi := mi) (df := df) (B := B2) hn hb h0
  obtain ⟨r1, er1⟩ : ∃ z, z = roX n (lyT n (B2 7) T) (hd b) ro := ⟨_, rfl⟩
  rw [← er1] at hk2
  rw [← er1]
  obtain ⟨dt, edt⟩ : ∃ z, z = detX n (lyT n (B2 7) T) := ⟨_, rfl⟩
  rw [← edt] at hk2 h0
  rw [← edt]
  refine ⟨absX dt, de2, (Int32.ofNat n), r1, co2, mi2, T2, ?_⟩
  refine PX2_mixedTotal (Nat.le_of_ble_eq_true rfl) ?_
  intro G hT hC hR
  refine mB hT 6 rfl ?_
  refine hC.1 _ 16 [_, _, _] _ _ _ _ _ (show KX0_copyRows l D ca ad _ _ none (XW (Int32.ofNat n) (Int32.ofNat vs) be de sz ro co mi T B1 hd df) from (by rw [e1]; exact c_copy_7_6_0_1)) rfl rfl (Nat.le_of_ble_eq_true rfl) rfl ?_
  refine mB hT 8 rfl ?_
  refine hC.2.1 _ 16 [_, _, _] _ _ _ _ _ (show KX0_copyRows l D ca ad _ _ none (XW (Int32.ofNat n) (Int32.ofNat vs) be de sz ro co mi T B2 hd df) from (by rw [e2]; exact c_copy_7_5_1_4)) rfl rfl (Nat.le_of_ble_eq_true rfl) rfl ?_
  refine mB hT 9 rfl ?_
  refine mAaldH hT (List.mem_of_getElem? (i := 23) rfl) hb ?_
  refine hC.2.2.1 _ 1 [_, _, _] _ _ _ _ _ (hk2) rfl rfl (Nat.le_of_ble_eq_true rfl) rfl ?_
  refine mB hT 7 rfl ?_
  refine hC.2.2.2.1 _ 1 [_, _, _] _ _ _ _ _ (c_sum_7 hn k 1 hk (by decide)) rfl rfl (Nat.le_of_ble_eq_true rfl) rfl ?_
  refine mB hT 3 rfl ?_
  refine hC.2.2.2.2 _ [_, _] _ _ _ _ (c_th (absX_ne h0)) rfl (Nat.le_of_ble_eq_true rfl) rfl ?_
  exact hR _ (by decide) _ _ _ rfl rfl
set_option maxRecDepth 20000 in
theorem x_mixed_B_5_2 {n vs : Nat} {be de : Int64} {sz : Int32} {ro co mi : Nat → Int64} {T : Nat → Nat → Int64} {B : Nat → Nat → Nat → Int32} {hd : Nat → Nat → Int32} {df : Nat → Int32} (hn : n ≤ 4) {b : Nat} (hb : b < 4) {k : Nat} (hk : k < 3) (h0 : detX n (lyT n ((cpX (cpX B 7 6 0 2) 7 5 2 4) 7) T) = 0) : ∃ (be2 de2 : Int64) (sz2 : Int32) (ro2 co2 mi2 : Nat → Int64) (T2 : Nat → Nat → Int64), KX2_mixedTotal l D ca ad [.ref 0, .int 5, .int 2, .int (Int32.ofNat b), .int (Int32.ofNat k)] (XW (Int32.ofNat n) (Int32.ofNat vs) be de sz ro co mi T B hd df) (some (.long (-9000000000000000004))) (XW (Int32.ofNat n) (Int32.ofNat vs) be2 de2 sz2 ro2 co2 mi2 T2 (cpX (cpX B 7 6 0 2) 7 5 2 4) hd df) := by
  obtain ⟨B1, e1⟩ : ∃ z, z = cpX B 7 6 0 2 := ⟨_, rfl⟩
  obtain ⟨B2, e2⟩ : ∃ z, z = cpX B1 7 5 2 4 := ⟨_, rfl⟩
  rw [← e1, ← e2] at h0 ⊢
  obtain ⟨de2, mi2, T2, hk2⟩ := c_solve0_7 (l := l) (D := D) (ca := ca) (ad := ad) (vs := vs) (be := be) (de := de) (sz := sz) (ro := ro) (co := co) (mi := mi) (df := df) (B := B2) hn hb h0
  refine ⟨be, de2, (Int32.ofNat n), ro, co, mi2, T2, ?_⟩
  refine PX2_mixedTotal (Nat.le_of_ble_eq_true rfl) ?_
  intro G hT hC hR
  refine mB hT 6 rfl ?_
  refine hC.1 _ 16 [_, _, _] _ _ _ _ _ (show KX0_copyRows l D ca ad _ _ none (XW (Int32.ofNat n) (Int32.ofNat vs) be de sz ro co mi T B1 hd df) from (by rw [e1]; exact c_copy_7_6_0_2)) rfl rfl (Nat.le_of_ble_eq_true rfl) rfl ?_
  refine mB hT 8 rfl ?_
  refine hC.2.1 _ 16 [_, _, _] _ _ _ _ _ (show KX0_copyRows l D ca ad _ _ none (XW (Int32.ofNat n) (Int32.ofNat vs) be de sz ro co mi T B2 hd df) from (by rw [e2]; exact c_copy_7_5_2_4)) rfl rfl (Nat.le_of_ble_eq_true rfl) rfl ?_
  refine mB hT 9 rfl ?_
  refine mAaldH hT (List.mem_of_getElem? (i := 23) rfl) hb ?_
  refine hC.2.2.1 _ 1 [_, _, _] _ _ _ _ _ (hk2) rfl rfl (Nat.le_of_ble_eq_true rfl) rfl ?_
  refine mB hT 2 rfl ?_
  exact hR _ (by decide) _ _ _ rfl rfl
set_option maxRecDepth 20000 in
theorem x_mixed_5_2 {n vs : Nat} {be de : Int64} {sz : Int32} {ro co mi : Nat → Int64} {T : Nat → Nat → Int64} {B : Nat → Nat → Nat → Int32} {hd : Nat → Nat → Int32} {df : Nat → Int32} (hn : n ≤ 4) {b : Nat} (hb : b < 4) {k : Nat} (hk : k < 3) (h0 : ¬ detX n (lyT n ((cpX (cpX B 7 6 0 2) 7 5 2 4) 7) T) = 0) : ∃ (be2 de2 : Int64) (sz2 : Int32) (ro2 co2 mi2 : Nat → Int64) (T2 : Nat → Nat → Int64), KX2_mixedTotal l D ca ad [.ref 0, .int 5, .int 2, .int (Int32.ofNat b), .int (Int32.ofNat k)] (XW (Int32.ofNat n) (Int32.ofNat vs) be de sz ro co mi T B hd df) (some (.long (thX (smX n ((cpX (cpX B 7 6 0 2) 7 5 2 4) 7) (roX n (lyT n ((cpX (cpX B 7 6 0 2) 7 5 2 4) 7) T) (hd b) ro) k 1) (absX (detX n (lyT n ((cpX (cpX B 7 6 0 2) 7 5 2 4) 7) T)))))) (XW (Int32.ofNat n) (Int32.ofNat vs) be2 de2 sz2 ro2 co2 mi2 T2 (cpX (cpX B 7 6 0 2) 7 5 2 4) hd df) := by
  obtain ⟨B1, e1⟩ : ∃ z, z = cpX B 7 6 0 2 := ⟨_, rfl⟩
  obtain ⟨B2, e2⟩ : ∃ z, z = cpX B1 7 5 2 4 := ⟨_, rfl⟩
  rw [← e1, ← e2] at h0 ⊢
  obtain ⟨de2, co2, mi2, T2, hk2⟩ := c_solve1_7 (l := l) (D := D) (ca := ca) (ad := ad) (vs := vs) (be := be) (de := de) (sz := sz) (ro := ro) (co := co) (mi := mi) (df := df) (B := B2) hn hb h0
  obtain ⟨r1, er1⟩ : ∃ z, z = roX n (lyT n (B2 7) T) (hd b) ro := ⟨_, rfl⟩
  rw [← er1] at hk2
  rw [← er1]
  obtain ⟨dt, edt⟩ : ∃ z, z = detX n (lyT n (B2 7) T) := ⟨_, rfl⟩
  rw [← edt] at hk2 h0
  rw [← edt]
  refine ⟨absX dt, de2, (Int32.ofNat n), r1, co2, mi2, T2, ?_⟩
  refine PX2_mixedTotal (Nat.le_of_ble_eq_true rfl) ?_
  intro G hT hC hR
  refine mB hT 6 rfl ?_
  refine hC.1 _ 16 [_, _, _] _ _ _ _ _ (show KX0_copyRows l D ca ad _ _ none (XW (Int32.ofNat n) (Int32.ofNat vs) be de sz ro co mi T B1 hd df) from (by rw [e1]; exact c_copy_7_6_0_2)) rfl rfl (Nat.le_of_ble_eq_true rfl) rfl ?_
  refine mB hT 8 rfl ?_
  refine hC.2.1 _ 16 [_, _, _] _ _ _ _ _ (show KX0_copyRows l D ca ad _ _ none (XW (Int32.ofNat n) (Int32.ofNat vs) be de sz ro co mi T B2 hd df) from (by rw [e2]; exact c_copy_7_5_2_4)) rfl rfl (Nat.le_of_ble_eq_true rfl) rfl ?_
  refine mB hT 9 rfl ?_
  refine mAaldH hT (List.mem_of_getElem? (i := 23) rfl) hb ?_
  refine hC.2.2.1 _ 1 [_, _, _] _ _ _ _ _ (hk2) rfl rfl (Nat.le_of_ble_eq_true rfl) rfl ?_
  refine mB hT 7 rfl ?_
  refine hC.2.2.2.1 _ 1 [_, _, _] _ _ _ _ _ (c_sum_7 hn k 1 hk (by decide)) rfl rfl (Nat.le_of_ble_eq_true rfl) rfl ?_
  refine mB hT 3 rfl ?_
  refine hC.2.2.2.2 _ [_, _] _ _ _ _ (c_th (absX_ne h0)) rfl (Nat.le_of_ble_eq_true rfl) rfl ?_
  exact hR _ (by decide) _ _ _ rfl rfl
set_option maxRecDepth 20000 in
theorem x_mixed_B_5_3 {n vs : Nat} {be de : Int64} {sz : Int32} {ro co mi : Nat → Int64} {T : Nat → Nat → Int64} {B : Nat → Nat → Nat → Int32} {hd : Nat → Nat → Int32} {df : Nat → Int32} (hn : n ≤ 4) {b : Nat} (hb : b < 4) {k : Nat} (hk : k < 3) (h0 : detX n (lyT n ((cpX (cpX B 7 6 0 3) 7 5 3 4) 7) T) = 0) : ∃ (be2 de2 : Int64) (sz2 : Int32) (ro2 co2 mi2 : Nat → Int64) (T2 : Nat → Nat → Int64), KX2_mixedTotal l D ca ad [.ref 0, .int 5, .int 3, .int (Int32.ofNat b), .int (Int32.ofNat k)] (XW (Int32.ofNat n) (Int32.ofNat vs) be de sz ro co mi T B hd df) (some (.long (-9000000000000000004))) (XW (Int32.ofNat n) (Int32.ofNat vs) be2 de2 sz2 ro2 co2 mi2 T2 (cpX (cpX B 7 6 0 3) 7 5 3 4) hd df) := by
  obtain ⟨B1, e1⟩ : ∃ z, z = cpX B 7 6 0 3 := ⟨_, rfl⟩
  obtain ⟨B2, e2⟩ : ∃ z, z = cpX B1 7 5 3 4 := ⟨_, rfl⟩
  rw [← e1, ← e2] at h0 ⊢
  obtain ⟨de2, mi2, T2, hk2⟩ := c_solve0_7 (l := l) (D := D) (ca := ca) (ad := ad) (vs := vs) (be := be) (de := de) (sz := sz) (ro := ro) (co := co) (mi := mi) (df := df) (B := B2) hn hb h0
  refine ⟨be, de2, (Int32.ofNat n), ro, co, mi2, T2, ?_⟩
  refine PX2_mixedTotal (Nat.le_of_ble_eq_true rfl) ?_
  intro G hT hC hR
  refine mB hT 6 rfl ?_
  refine hC.1 _ 16 [_, _, _] _ _ _ _ _ (show KX0_copyRows l D ca ad _ _ none (XW (Int32.ofNat n) (Int32.ofNat vs) be de sz ro co mi T B1 hd df) from (by rw [e1]; exact c_copy_7_6_0_3)) rfl rfl (Nat.le_of_ble_eq_true rfl) rfl ?_
  refine mB hT 8 rfl ?_
  refine hC.2.1 _ 16 [_, _, _] _ _ _ _ _ (show KX0_copyRows l D ca ad _ _ none (XW (Int32.ofNat n) (Int32.ofNat vs) be de sz ro co mi T B2 hd df) from (by rw [e2]; exact c_copy_7_5_3_4)) rfl rfl (Nat.le_of_ble_eq_true rfl) rfl ?_
  refine mB hT 9 rfl ?_
  refine mAaldH hT (List.mem_of_getElem? (i := 23) rfl) hb ?_
  refine hC.2.2.1 _ 1 [_, _, _] _ _ _ _ _ (hk2) rfl rfl (Nat.le_of_ble_eq_true rfl) rfl ?_
  refine mB hT 2 rfl ?_
  exact hR _ (by decide) _ _ _ rfl rfl
set_option maxRecDepth 20000 in
theorem x_mixed_5_3 {n vs : Nat} {be de : Int64} {sz : Int32} {ro co mi : Nat → Int64} {T : Nat → Nat → Int64} {B : Nat → Nat → Nat → Int32} {hd : Nat → Nat → Int32} {df : Nat → Int32} (hn : n ≤ 4) {b : Nat} (hb : b < 4) {k : Nat} (hk : k < 3) (h0 : ¬ detX n (lyT n ((cpX (cpX B 7 6 0 3) 7 5 3 4) 7) T) = 0) : ∃ (be2 de2 : Int64) (sz2 : Int32) (ro2 co2 mi2 : Nat → Int64) (T2 : Nat → Nat → Int64), KX2_mixedTotal l D ca ad [.ref 0, .int 5, .int 3, .int (Int32.ofNat b), .int (Int32.ofNat k)] (XW (Int32.ofNat n) (Int32.ofNat vs) be de sz ro co mi T B hd df) (some (.long (thX (smX n ((cpX (cpX B 7 6 0 3) 7 5 3 4) 7) (roX n (lyT n ((cpX (cpX B 7 6 0 3) 7 5 3 4) 7) T) (hd b) ro) k 1) (absX (detX n (lyT n ((cpX (cpX B 7 6 0 3) 7 5 3 4) 7) T)))))) (XW (Int32.ofNat n) (Int32.ofNat vs) be2 de2 sz2 ro2 co2 mi2 T2 (cpX (cpX B 7 6 0 3) 7 5 3 4) hd df) := by
  obtain ⟨B1, e1⟩ : ∃ z, z = cpX B 7 6 0 3 := ⟨_, rfl⟩
  obtain ⟨B2, e2⟩ : ∃ z, z = cpX B1 7 5 3 4 := ⟨_, rfl⟩
  rw [← e1, ← e2] at h0 ⊢
  obtain ⟨de2, co2, mi2, T2, hk2⟩ := c_solve1_7 (l := l) (D := D) (ca := ca) (ad := ad) (vs := vs) (be := be) (de := de) (sz := sz) (ro := ro) (co := co) (mi := mi) (df := df) (B := B2) hn hb h0
  obtain ⟨r1, er1⟩ : ∃ z, z = roX n (lyT n (B2 7) T) (hd b) ro := ⟨_, rfl⟩
  rw [← er1] at hk2
  rw [← er1]
  obtain ⟨dt, edt⟩ : ∃ z, z = detX n (lyT n (B2 7) T) := ⟨_, rfl⟩
  rw [← edt] at hk2 h0
  rw [← edt]
  refine ⟨absX dt, de2, (Int32.ofNat n), r1, co2, mi2, T2, ?_⟩
  refine PX2_mixedTotal (Nat.le_of_ble_eq_true rfl) ?_
  intro G hT hC hR
  refine mB hT 6 rfl ?_
  refine hC.1 _ 16 [_, _, _] _ _ _ _ _ (show KX0_copyRows l D ca ad _ _ none (XW (Int32.ofNat n) (Int32.ofNat vs) be de sz ro co mi T B1 hd df) from (by rw [e1]; exact c_copy_7_6_0_3)) rfl rfl (Nat.le_of_ble_eq_true rfl) rfl ?_
  refine mB hT 8 rfl ?_
  refine hC.2.1 _ 16 [_, _, _] _ _ _ _ _ (show KX0_copyRows l D ca ad _ _ none (XW (Int32.ofNat n) (Int32.ofNat vs) be de sz ro co mi T B2 hd df) from (by rw [e2]; exact c_copy_7_5_3_4)) rfl rfl (Nat.le_of_ble_eq_true rfl) rfl ?_
  refine mB hT 9 rfl ?_
  refine mAaldH hT (List.mem_of_getElem? (i := 23) rfl) hb ?_
  refine hC.2.2.1 _ 1 [_, _, _] _ _ _ _ _ (hk2) rfl rfl (Nat.le_of_ble_eq_true rfl) rfl ?_
  refine mB hT 7 rfl ?_
  refine hC.2.2.2.1 _ 1 [_, _, _] _ _ _ _ _ (c_sum_7 hn k 1 hk (by decide)) rfl rfl (Nat.le_of_ble_eq_true rfl) rfl ?_
  refine mB hT 3 rfl ?_
  refine hC.2.2.2.2 _ [_, _] _ _ _ _ (c_th (absX_ne h0)) rfl (Nat.le_of_ble_eq_true rfl) rfl ?_
  exact hR _ (by decide) _ _ _ rfl rfl
set_option maxRecDepth 20000 in
theorem x_mixed_B_5_4 {n vs : Nat} {be de : Int64} {sz : Int32} {ro co mi : Nat → Int64} {T : Nat → Nat → Int64} {B : Nat → Nat → Nat → Int32} {hd : Nat → Nat → Int32} {df : Nat → Int32} (hn : n ≤ 4) {b : Nat} (hb : b < 4) {k : Nat} (hk : k < 3) (h0 : detX n (lyT n ((cpX (cpX B 7 6 0 4) 7 5 4 4) 7) T) = 0) : ∃ (be2 de2 : Int64) (sz2 : Int32) (ro2 co2 mi2 : Nat → Int64) (T2 : Nat → Nat → Int64), KX2_mixedTotal l D ca ad [.ref 0, .int 5, .int 4, .int (Int32.ofNat b), .int (Int32.ofNat k)] (XW (Int32.ofNat n) (Int32.ofNat vs) be de sz ro co mi T B hd df) (some (.long (-9000000000000000004))) (XW (Int32.ofNat n) (Int32.ofNat vs) be2 de2 sz2 ro2 co2 mi2 T2 (cpX (cpX B 7 6 0 4) 7 5 4 4) hd df) := by
  obtain ⟨B1, e1⟩ : ∃ z, z = cpX B 7 6 0 4 := ⟨_, rfl⟩
  obtain ⟨B2, e2⟩ : ∃ z, z = cpX B1 7 5 4 4 := ⟨_, rfl⟩
  rw [← e1, ← e2] at h0 ⊢
  obtain ⟨de2, mi2, T2, hk2⟩ := c_solve0_7 (l := l) (D := D) (ca := ca) (ad := ad) (vs := vs) (be := be) (de := de) (sz := sz) (ro := ro) (co := co) (mi := mi) (df := df) (B := B2) hn hb h0
  refine ⟨be, de2, (Int32.ofNat n), ro, co, mi2, T2, ?_⟩
  refine PX2_mixedTotal (Nat.le_of_ble_eq_true rfl) ?_
  intro G hT hC hR
  refine mB hT 6 rfl ?_
  refine hC.1 _ 16 [_, _, _] _ _ _ _ _ (show KX0_copyRows l D ca ad _ _ none (XW (Int32.ofNat n) (Int32.ofNat vs) be de sz ro co mi T B1 hd df) from (by rw [e1]; exact c_copy_7_6_0_4)) rfl rfl (Nat.le_of_ble_eq_true rfl) rfl ?_
  refine mB hT 8 rfl ?_
  refine hC.2.1 _ 16 [_, _, _] _ _ _ _ _ (show KX0_copyRows l D ca ad _ _ none (XW (Int32.ofNat n) (Int32.ofNat vs) be de sz ro co mi T B2 hd df) from (by rw [e2]; exact c_copy_7_5_4_4)) rfl rfl (Nat.le_of_ble_eq_true rfl) rfl ?_
  refine mB hT 9 rfl ?_
  refine mAaldH hT (List.mem_of_getElem? (i := 23) rfl) hb ?_
  refine hC.2.2.1 _ 1 [_, _, _] _ _ _ _ _ (hk2) rfl rfl (Nat.le_of_ble_eq_true rfl) rfl ?_
  refine mB hT 2 rfl ?_
  exact hR _ (by decide) _ _ _ rfl rfl
set_option maxRecDepth 20000 in
theorem x_mixed_5_4 {n vs : Nat} {be de : Int64} {sz : Int32} {ro co mi : Nat → Int64} {T : Nat → Nat → Int64} {B : Nat → Nat → Nat → Int32} {hd : Nat → Nat → Int32} {df : Nat → Int32} (hn : n ≤ 4) {b : Nat} (hb : b < 4) {k : Nat} (hk : k < 3) (h0 : ¬ detX n (lyT n ((cpX (cpX B 7 6 0 4) 7 5 4 4) 7) T) = 0) : ∃ (be2 de2 : Int64) (sz2 : Int32) (ro2 co2 mi2 : Nat → Int64) (T2 : Nat → Nat → Int64), KX2_mixedTotal l D ca ad [.ref 0, .int 5, .int 4, .int (Int32.ofNat b), .int (Int32.ofNat k)] (XW (Int32.ofNat n) (Int32.ofNat vs) be de sz ro co mi T B hd df) (some (.long (thX (smX n ((cpX (cpX B 7 6 0 4) 7 5 4 4) 7) (roX n (lyT n ((cpX (cpX B 7 6 0 4) 7 5 4 4) 7) T) (hd b) ro) k 1) (absX (detX n (lyT n ((cpX (cpX B 7 6 0 4) 7 5 4 4) 7) T)))))) (XW (Int32.ofNat n) (Int32.ofNat vs) be2 de2 sz2 ro2 co2 mi2 T2 (cpX (cpX B 7 6 0 4) 7 5 4 4) hd df) := by
  obtain ⟨B1, e1⟩ : ∃ z, z = cpX B 7 6 0 4 := ⟨_, rfl⟩
  obtain ⟨B2, e2⟩ : ∃ z, z = cpX B1 7 5 4 4 := ⟨_, rfl⟩
  rw [← e1, ← e2] at h0 ⊢
  obtain ⟨de2, co2, mi2, T2, hk2⟩ := c_solve1_7 (l := l) (D := D) (ca := ca) (ad := ad) (vs := vs) (be := be) (de := de) (sz := sz) (ro := ro) (co := co) (mi := mi) (df := df) (B := B2) hn hb h0
  obtain ⟨r1, er1⟩ : ∃ z, z = roX n (lyT n (B2 7) T) (hd b) ro := ⟨_, rfl⟩
  rw [← er1] at hk2
  rw [← er1]
  obtain ⟨dt, edt⟩ : ∃ z, z = detX n (lyT n (B2 7) T) := ⟨_, rfl⟩
  rw [← edt] at hk2 h0
  rw [← edt]
  refine ⟨absX dt, de2, (Int32.ofNat n), r1, co2, mi2, T2, ?_⟩
  refine PX2_mixedTotal (Nat.le_of_ble_eq_true rfl) ?_
  intro G hT hC hR
  refine mB hT 6 rfl ?_
  refine hC.1 _ 16 [_, _, _] _ _ _ _ _ (show KX0_copyRows l D ca ad _ _ none (XW (Int32.ofNat n) (Int32.ofNat vs) be de sz ro co mi T B1 hd df) from (by rw [e1]; exact c_copy_7_6_0_4)) rfl rfl (Nat.le_of_ble_eq_true rfl) rfl ?_
  refine mB hT 8 rfl ?_
  refine hC.2.1 _ 16 [_, _, _] _ _ _ _ _ (show KX0_copyRows l D ca ad _ _ none (XW (Int32.ofNat n) (Int32.ofNat vs) be de sz ro co mi T B2 hd df) from (by rw [e2]; exact c_copy_7_5_4_4)) rfl rfl (Nat.le_of_ble_eq_true rfl) rfl ?_
  refine mB hT 9 rfl ?_
  refine mAaldH hT (List.mem_of_getElem? (i := 23) rfl) hb ?_
  refine hC.2.2.1 _ 1 [_, _, _] _ _ _ _ _ (hk2) rfl rfl (Nat.le_of_ble_eq_true rfl) rfl ?_
  refine mB hT 7 rfl ?_
  refine hC.2.2.2.1 _ 1 [_, _, _] _ _ _ _ _ (c_sum_7 hn k 1 hk (by decide)) rfl rfl (Nat.le_of_ble_eq_true rfl) rfl ?_
  refine mB hT 3 rfl ?_
  refine hC.2.2.2.2 _ [_, _] _ _ _ _ (c_th (absX_ne h0)) rfl (Nat.le_of_ble_eq_true rfl) rfl ?_
  exact hR _ (by decide) _ _ _ rfl rfl
set_option maxRecDepth 20000 in
theorem x_count_0 {n vs : Nat} {be de : Int64} {sz : Int32} {ro co mi : Nat → Int64} {T : Nat → Nat → Int64} {B : Nat → Nat → Nat → Int32} {hd : Nat → Nat → Int32} {df : Nat → Int32} : KX2_count l D ca ad [.ref 0, .int 0] (XW (Int32.ofNat n) (Int32.ofNat vs) be de sz ro co mi T B hd df) (some (.int (Int32.ofNat n))) (XW (Int32.ofNat n) (Int32.ofNat vs) be de sz ro co mi T B hd df) := by
  refine PX2_count (Nat.le_of_ble_eq_true rfl) ?_
  intro G hT hC hR
  refine mB hT 4 rfl ?_
  exact hR _ (by decide) _ _ _ rfl rfl
set_option maxRecDepth 20000 in
theorem x_count_1 {n vs : Nat} {be de : Int64} {sz : Int32} {ro co mi : Nat → Int64} {T : Nat → Nat → Int64} {B : Nat → Nat → Nat → Int32} {hd : Nat → Nat → Int32} {df : Nat → Int32} : KX2_count l D ca ad [.ref 0, .int 1] (XW (Int32.ofNat n) (Int32.ofNat vs) be de sz ro co mi T B hd df) (some (.int (Int32.ofNat vs))) (XW (Int32.ofNat n) (Int32.ofNat vs) be de sz ro co mi T B hd df) := by
  refine PX2_count (Nat.le_of_ble_eq_true rfl) ?_
  intro G hT hC hR
  refine mB hT 4 rfl ?_
  exact hR _ (by decide) _ _ _ rfl rfl
theorem x_count_O {n vs : Nat} {be de : Int64} {sz : Int32} {ro co mi : Nat → Int64} {T : Nat → Nat → Int64} {B : Nat → Nat → Nat → Int32} {hd : Nat → Nat → Int32} {df : Nat → Int32} {q : Int32} (hq : ¬ (0 ≤ q ∧ q < 4)) : KX2_count l D ca ad [.ref 0, .int q] (XW (Int32.ofNat n) (Int32.ofNat vs) be de sz ro co mi T B hd df) (some (.int (-102))) (XW (Int32.ofNat n) (Int32.ofNat vs) be de sz ro co mi T B hd df) := by
  refine PX2_count (Nat.le_of_ble_eq_true rfl) ?_
  intro G hT hC hR
  refine mB hT 1 rfl ?_
  refine hT.1 _ (List.mem_of_getElem? (i := 1) rfl) _ _ _ _ (if_pos (sw_out hq)) ?_
  refine mB hT 1 rfl ?_
  exact hR _ (by decide) _ _ _ rfl rfl
end
