section
variable {l : Launch} {D : va_G} {ca : Nat → ClassId} {ad : Nat → Nat}

set_option maxRecDepth 20000 in
theorem m_mixed0_0_0 {n vs : Nat} {wo un h : Int64} {bo : Nat → Int32} {ta tr ro ot : Nat → Int64} {Bm : Nat → Nat → Nat → Int32} {bk : Nat → Nat → Int32} (hn : n ≤ 4) {b : Nat} (hb : b < 4) {k : Nat} (hk : k < 3) (h0 : dtM (TnM n Bm 0 0) = 0) : ∃ (un2 : Int64) (bo2 : Nat → Int32) (ta2 tr2 ro2 : Nat → Int64), KX3_mixed l D ca ad [.ref 0, .int 0, .int (Int32.ofNat b), .int (Int32.ofNat k), .int 0] (MW (Int32.ofNat n) (Int32.ofNat vs) wo un h bo ta tr ro ot Bm bk) (some (.long 0)) (MW (Int32.ofNat n) (Int32.ofNat vs) (dtM (TnM n Bm 0 0)) un2 h bo2 ta2 tr2 ro2 ot Bm bk) := by
  obtain ⟨tt, ett⟩ : ∃ z, z = (TnM n Bm 0 0) := ⟨_, rfl⟩
  obtain ⟨dt, edt⟩ : ∃ z, z = dtM tt := ⟨_, rfl⟩
  rw [← ett, ← edt] at h0
  rw [← ett, ← edt]
  refine ⟨un, (boX 0 0), tt, tt, ro, ?_⟩
  refine PX3_mixed (Nat.le_of_ble_eq_true rfl) ?_
  intro G hT hC hR
  refine mB hT 39 rfl ?_
  refine mNf (lv2 := [(5, .int 2), (0, .ref 0), (1, .int 0), (2, .int (Int32.ofNat b)), (3, .int (Int32.ofNat k)), (4, .int 0)]) (st2 := []) rfl rfl ?_
  refine mWd (w2 := (MW (Int32.ofNat n) (Int32.ofNat vs) wo un h (up (up (up bo 0 0) 1 0) 2 0) ta tr ro ot Bm bk)) rfl ?_
  refine mB hT 19 rfl ?_
  refine mNf (lv2 := [(5, .int 4), (0, .ref 0), (1, .int 0), (2, .int (Int32.ofNat b)), (3, .int (Int32.ofNat k)), (4, .int 0)]) (st2 := [.ref 0]) rfl rfl ?_
  refine mWd (w2 := (MW (Int32.ofNat n) (Int32.ofNat vs) wo un h (up (up (up (up bo 0 0) 1 0) 2 0) 3 0) ta tr ro ot Bm bk)) rfl ?_
  refine mWd (w2 := (MW (Int32.ofNat n) (Int32.ofNat vs) wo un h (boX 0 0) ta tr ro ot Bm bk)) rfl ?_
  refine hC.1 _ 0 [] _ _ _ _ _ (show KX3_lay l D ca ad _ _ none (MW (Int32.ofNat n) (Int32.ofNat vs) dt un h (boX 0 0) tt tt ro ot Bm bk) from (by rw [edt, ett]; exact m_lay_0_0 hn)) rfl rfl (Nat.le_of_ble_eq_true rfl) rfl ?_
  refine mB hT 5 rfl ?_
  refine mIf (fun _ => ?_) (fun hn => absurd (lc_eq.mpr h0) hn)
  refine mB hT 1 rfl ?_
  exact hR _ (by decide) _ _ _ rfl rfl
set_option maxRecDepth 20000 in
theorem m_mixed1_0_0 {n vs : Nat} {wo un h : Int64} {bo : Nat → Int32} {ta tr ro ot : Nat → Int64} {Bm : Nat → Nat → Nat → Int32} {bk : Nat → Nat → Int32} (hn : n ≤ 4) {b : Nat} (hb : b < 4) {k : Nat} (hk : k < 3) (h0 : ¬ dtM (TnM n Bm 0 0) = 0) : ∃ (un2 : Int64) (bo2 : Nat → Int32) (ta2 tr2 ro2 : Nat → Int64), KX3_mixed l D ca ad [.ref 0, .int 0, .int (Int32.ofNat b), .int (Int32.ofNat k), .int 0] (MW (Int32.ofNat n) (Int32.ofNat vs) wo un h bo ta tr ro ot Bm bk) (some (.long (thM (smG n (fun i s => emM (Bm (bkM 0 0 i) i) k s) (rdM n (TnM n Bm 0 0) (dtM (TnM n Bm 0 0)) (fun j => (bk b j).toInt64)) 1) (absX (dtM (TnM n Bm 0 0)))))) (MW (Int32.ofNat n) (Int32.ofNat vs) (dtM (TnM n Bm 0 0)) un2 h bo2 ta2 tr2 ro2 ot Bm bk) := by
  obtain ⟨tt, ett⟩ : ∃ z, z = (TnM n Bm 0 0) := ⟨_, rfl⟩
  obtain ⟨dt, edt⟩ : ∃ z, z = dtM tt := ⟨_, rfl⟩
  rw [← ett, ← edt] at h0
  obtain ⟨rr, err⟩ : ∃ z, z = rdM n tt dt (fun j => (bk b j).toInt64) := ⟨_, rfl⟩
  obtain ⟨ts, ets⟩ : ∃ z, z = tsM n tt 3 (fun j => (bk b j).toInt64) := ⟨_, rfl⟩
  obtain ⟨sm, esm⟩ : ∃ z, z = smG n (fun i s => emM (Bm (bkM 0 0 i) i) k s) rr 1 := ⟨_, rfl⟩
  rw [← ett, ← edt, ← err, ← esm]
  refine ⟨absX dt, (boX 0 0), tt, ts, rr, ?_⟩
  refine PX3_mixed (Nat.le_of_ble_eq_true rfl) ?_
  intro G hT hC hR
  refine mB hT 39 rfl ?_
  refine mNf (lv2 := [(5, .int 2), (0, .ref 0), (1, .int 0), (2, .int (Int32.ofNat b)), (3, .int (Int32.ofNat k)), (4, .int 0)]) (st2 := []) rfl rfl ?_
  refine mWd (w2 := (MW (Int32.ofNat n) (Int32.ofNat vs) wo un h (up (up (up bo 0 0) 1 0) 2 0) ta tr ro ot Bm bk)) rfl ?_
  refine mB hT 19 rfl ?_
  refine mNf (lv2 := [(5, .int 4), (0, .ref 0), (1, .int 0), (2, .int (Int32.ofNat b)), (3, .int (Int32.ofNat k)), (4, .int 0)]) (st2 := [.ref 0]) rfl rfl ?_
  refine mWd (w2 := (MW (Int32.ofNat n) (Int32.ofNat vs) wo un h (up (up (up (up bo 0 0) 1 0) 2 0) 3 0) ta tr ro ot Bm bk)) rfl ?_
  refine mWd (w2 := (MW (Int32.ofNat n) (Int32.ofNat vs) wo un h (boX 0 0) ta tr ro ot Bm bk)) rfl ?_
  refine hC.1 _ 0 [] _ _ _ _ _ (show KX3_lay l D ca ad _ _ none (MW (Int32.ofNat n) (Int32.ofNat vs) dt un h (boX 0 0) tt tt ro ot Bm bk) from (by rw [edt, ett]; exact m_lay_0_0 hn)) rfl rfl (Nat.le_of_ble_eq_true rfl) rfl ?_
  refine mB hT 5 rfl ?_
  refine mIf (fun hp => absurd hp (fun q => h0 (lc_eq.mp q))) (fun _ => ?_)
  refine mB hT 2 rfl ?_
  refine hC.2.1 _ 0 [_] _ _ _ _ _ (show KX3_solve l D ca ad _ _ none (MW (Int32.ofNat n) (Int32.ofNat vs) dt (absX dt) h (boX 0 0) tt ts rr ot Bm bk) from (by rw [err, ets]; exact m_solve hn hb)) rfl rfl (Nat.le_of_ble_eq_true rfl) rfl ?_
  refine mB hT 3 rfl ?_
  refine hC.2.2.1 _ 0 [_, _] _ _ _ _ _ (show KX3_sum l D ca ad _ _ (some (.long sm)) _ from (by rw [esm]; exact m_sum_0_0 hn k 1 hk (by decide))) rfl rfl (Nat.le_of_ble_eq_true rfl) rfl ?_
  refine mB hT 2 rfl ?_
  refine hC.2.2.2 _ [_, _] _ _ _ _ (m_th (absX_ne h0)) rfl (Nat.le_of_ble_eq_true rfl) rfl ?_
  exact hR _ (by decide) _ _ _ rfl rfl
set_option maxRecDepth 20000 in
theorem m_mixed0_0_1 {n vs : Nat} {wo un h : Int64} {bo : Nat → Int32} {ta tr ro ot : Nat → Int64} {Bm : Nat → Nat → Nat → Int32} {bk : Nat → Nat → Int32} (hn : n ≤ 4) {b : Nat} (hb : b < 4) {k : Nat} (hk : k < 3) (h0 : dtM (TnM n Bm 1 0) = 0) : ∃ (un2 : Int64) (bo2 : Nat → Int32) (ta2 tr2 ro2 : Nat → Int64), KX3_mixed l D ca ad [.ref 0, .int 0, .int (Int32.ofNat b), .int (Int32.ofNat k), .int 1] (MW (Int32.ofNat n) (Int32.ofNat vs) wo un h bo ta tr ro ot Bm bk) (some (.long 0)) (MW (Int32.ofNat n) (Int32.ofNat vs) (dtM (TnM n Bm 1 0)) un2 h bo2 ta2 tr2 ro2 ot Bm bk) := by
  obtain ⟨tt, ett⟩ : ∃ z, z = (TnM n Bm 1 0) := ⟨_, rfl⟩
  obtain ⟨dt, edt⟩ : ∃ z, z = dtM tt := ⟨_, rfl⟩
  rw [← ett, ← edt] at h0
  rw [← ett, ← edt]
  refine ⟨un, (boX 1 0), tt, tt, ro, ?_⟩
  refine PX3_mixed (Nat.le_of_ble_eq_true rfl) ?_
  intro G hT hC hR
  refine mB hT 40 rfl ?_
  refine mNf (lv2 := [(5, .int 2), (0, .ref 0), (1, .int 0), (2, .int (Int32.ofNat b)), (3, .int (Int32.ofNat k)), (4, .int 1)]) (st2 := []) rfl rfl ?_
  refine mWd (w2 := (MW (Int32.ofNat n) (Int32.ofNat vs) wo un h (up (up (up bo 0 6) 1 0) 2 0) ta tr ro ot Bm bk)) rfl ?_
  refine mB hT 19 rfl ?_
  refine mNf (lv2 := [(5, .int 4), (0, .ref 0), (1, .int 0), (2, .int (Int32.ofNat b)), (3, .int (Int32.ofNat k)), (4, .int 1)]) (st2 := [.ref 0]) rfl rfl ?_
  refine mWd (w2 := (MW (Int32.ofNat n) (Int32.ofNat vs) wo un h (up (up (up (up bo 0 6) 1 0) 2 0) 3 0) ta tr ro ot Bm bk)) rfl ?_
  refine mWd (w2 := (MW (Int32.ofNat n) (Int32.ofNat vs) wo un h (boX 1 0) ta tr ro ot Bm bk)) rfl ?_
  refine hC.1 _ 0 [] _ _ _ _ _ (show KX3_lay l D ca ad _ _ none (MW (Int32.ofNat n) (Int32.ofNat vs) dt un h (boX 1 0) tt tt ro ot Bm bk) from (by rw [edt, ett]; exact m_lay_1_0 hn)) rfl rfl (Nat.le_of_ble_eq_true rfl) rfl ?_
  refine mB hT 5 rfl ?_
  refine mIf (fun _ => ?_) (fun hn => absurd (lc_eq.mpr h0) hn)
  refine mB hT 1 rfl ?_
  exact hR _ (by decide) _ _ _ rfl rfl
set_option maxRecDepth 20000 in
theorem m_mixed1_0_1 {n vs : Nat} {wo un h : Int64} {bo : Nat → Int32} {ta tr ro ot : Nat → Int64} {Bm : Nat → Nat → Nat → Int32} {bk : Nat → Nat → Int32} (hn : n ≤ 4) {b : Nat} (hb : b < 4) {k : Nat} (hk : k < 3) (h0 : ¬ dtM (TnM n Bm 1 0) = 0) : ∃ (un2 : Int64) (bo2 : Nat → Int32) (ta2 tr2 ro2 : Nat → Int64), KX3_mixed l D ca ad [.ref 0, .int 0, .int (Int32.ofNat b), .int (Int32.ofNat k), .int 1] (MW (Int32.ofNat n) (Int32.ofNat vs) wo un h bo ta tr ro ot Bm bk) (some (.long (thM (smG n (fun i s => emM (Bm (bkM 1 0 i) i) k s) (rdM n (TnM n Bm 1 0) (dtM (TnM n Bm 1 0)) (fun j => (bk b j).toInt64)) 1) (absX (dtM (TnM n Bm 1 0)))))) (MW (Int32.ofNat n) (Int32.ofNat vs) (dtM (TnM n Bm 1 0)) un2 h bo2 ta2 tr2 ro2 ot Bm bk) := by
  obtain ⟨tt, ett⟩ : ∃ z, z = (TnM n Bm 1 0) := ⟨_, rfl⟩
  obtain ⟨dt, edt⟩ : ∃ z, z = dtM tt := ⟨_, rfl⟩
  rw [← ett, ← edt] at h0
  obtain ⟨rr, err⟩ : ∃ z, z = rdM n tt dt (fun j => (bk b j).toInt64) := ⟨_, rfl⟩
  obtain ⟨ts, ets⟩ : ∃ z, z = tsM n tt 3 (fun j => (bk b j).toInt64) := ⟨_, rfl⟩
  obtain ⟨sm, esm⟩ : ∃ z, z = smG n (fun i s => emM (Bm (bkM 1 0 i) i) k s) rr 1 := ⟨_, rfl⟩
  rw [← ett, ← edt, ← err, ← esm]
  refine ⟨absX dt, (boX 1 0), tt, ts, rr, ?_⟩
  refine PX3_mixed (Nat.le_of_ble_eq_true rfl) ?_
  intro G hT hC hR
  refine mB hT 40 rfl ?_
  refine mNf (lv2 := [(5, .int 2), (0, .ref 0), (1, .int 0), (2, .int (Int32.ofNat b)), (3, .int (Int32.ofNat k)), (4, .int 1)]) (st2 := []) rfl rfl ?_
  refine mWd (w2 := (MW (Int32.ofNat n) (Int32.ofNat vs) wo un h (up (up (up bo 0 6) 1 0) 2 0) ta tr ro ot Bm bk)) rfl ?_
  refine mB hT 19 rfl ?_
  refine mNf (lv2 := [(5, .int 4), (0, .ref 0), (1, .int 0), (2, .int (Int32.ofNat b)), (3, .int (Int32.ofNat k)), (4, .int 1)]) (st2 := [.ref 0]) rfl rfl ?_
  refine mWd (w2 := (MW (Int32.ofNat n) (Int32.ofNat vs) wo un h (up (up (up (up bo 0 6) 1 0) 2 0) 3 0) ta tr ro ot Bm bk)) rfl ?_
  refine mWd (w2 := (MW (Int32.ofNat n) (Int32.ofNat vs) wo un h (boX 1 0) ta tr ro ot Bm bk)) rfl ?_
  refine hC.1 _ 0 [] _ _ _ _ _ (show KX3_lay l D ca ad _ _ none (MW (Int32.ofNat n) (Int32.ofNat vs) dt un h (boX 1 0) tt tt ro ot Bm bk) from (by rw [edt, ett]; exact m_lay_1_0 hn)) rfl rfl (Nat.le_of_ble_eq_true rfl) rfl ?_
  refine mB hT 5 rfl ?_
  refine mIf (fun hp => absurd hp (fun q => h0 (lc_eq.mp q))) (fun _ => ?_)
  refine mB hT 2 rfl ?_
  refine hC.2.1 _ 0 [_] _ _ _ _ _ (show KX3_solve l D ca ad _ _ none (MW (Int32.ofNat n) (Int32.ofNat vs) dt (absX dt) h (boX 1 0) tt ts rr ot Bm bk) from (by rw [err, ets]; exact m_solve hn hb)) rfl rfl (Nat.le_of_ble_eq_true rfl) rfl ?_
  refine mB hT 3 rfl ?_
  refine hC.2.2.1 _ 0 [_, _] _ _ _ _ _ (show KX3_sum l D ca ad _ _ (some (.long sm)) _ from (by rw [esm]; exact m_sum_1_0 hn k 1 hk (by decide))) rfl rfl (Nat.le_of_ble_eq_true rfl) rfl ?_
  refine mB hT 2 rfl ?_
  refine hC.2.2.2 _ [_, _] _ _ _ _ (m_th (absX_ne h0)) rfl (Nat.le_of_ble_eq_true rfl) rfl ?_
  exact hR _ (by decide) _ _ _ rfl rfl
set_option maxRecDepth 20000 in
theorem m_mixed0_0_2 {n vs : Nat} {wo un h : Int64} {bo : Nat → Int32} {ta tr ro ot : Nat → Int64} {Bm : Nat → Nat → Nat → Int32} {bk : Nat → Nat → Int32} (hn : n ≤ 4) {b : Nat} (hb : b < 4) {k : Nat} (hk : k < 3) (h0 : dtM (TnM n Bm 2 0) = 0) : ∃ (un2 : Int64) (bo2 : Nat → Int32) (ta2 tr2 ro2 : Nat → Int64), KX3_mixed l D ca ad [.ref 0, .int 0, .int (Int32.ofNat b), .int (Int32.ofNat k), .int 2] (MW (Int32.ofNat n) (Int32.ofNat vs) wo un h bo ta tr ro ot Bm bk) (some (.long 0)) (MW (Int32.ofNat n) (Int32.ofNat vs) (dtM (TnM n Bm 2 0)) un2 h bo2 ta2 tr2 ro2 ot Bm bk) := by
  obtain ⟨tt, ett⟩ : ∃ z, z = (TnM n Bm 2 0) := ⟨_, rfl⟩
  obtain ⟨dt, edt⟩ : ∃ z, z = dtM tt := ⟨_, rfl⟩
  rw [← ett, ← edt] at h0
  rw [← ett, ← edt]
  refine ⟨un, (boX 2 0), tt, tt, ro, ?_⟩
  refine PX3_mixed (Nat.le_of_ble_eq_true rfl) ?_
  intro G hT hC hR
  refine mB hT 40 rfl ?_
  refine mNf (lv2 := [(5, .int 2), (0, .ref 0), (1, .int 0), (2, .int (Int32.ofNat b)), (3, .int (Int32.ofNat k)), (4, .int 2)]) (st2 := [.int 0, .int 2, .ref 9]) rfl rfl ?_
  refine mB hT 1 rfl ?_
  refine mWd (w2 := (MW (Int32.ofNat n) (Int32.ofNat vs) wo un h (up (up (up bo 0 6) 1 6) 2 0) ta tr ro ot Bm bk)) rfl ?_
  refine mB hT 19 rfl ?_
  refine mNf (lv2 := [(5, .int 4), (0, .ref 0), (1, .int 0), (2, .int (Int32.ofNat b)), (3, .int (Int32.ofNat k)), (4, .int 2)]) (st2 := [.ref 0]) rfl rfl ?_
  refine mWd (w2 := (MW (Int32.ofNat n) (Int32.ofNat vs) wo un h (up (up (up (up bo 0 6) 1 6) 2 0) 3 0) ta tr ro ot Bm bk)) rfl ?_
  refine mWd (w2 := (MW (Int32.ofNat n) (Int32.ofNat vs) wo un h (boX 2 0) ta tr ro ot Bm bk)) rfl ?_
  refine hC.1 _ 0 [] _ _ _ _ _ (show KX3_lay l D ca ad _ _ none (MW (Int32.ofNat n) (Int32.ofNat vs) dt un h (boX 2 0) tt tt ro ot Bm bk) from (by rw [edt, ett]; exact m_lay_2_0 hn)) rfl rfl (Nat.le_of_ble_eq_true rfl) rfl ?_
  refine mB hT 5 rfl ?_
  refine mIf (fun _ => ?_) (fun hn => absurd (lc_eq.mpr h0) hn)
  refine mB hT 1 rfl ?_
  exact hR _ (by decide) _ _ _ rfl rfl
set_option maxRecDepth 20000 in
theorem m_mixed1_0_2 {n vs : Nat} {wo un h : Int64} {bo : Nat → Int32} {ta tr ro ot : Nat → Int64} {Bm : Nat → Nat → Nat → Int32} {bk : Nat → Nat → Int32} (hn : n ≤ 4) {b : Nat} (hb : b < 4) {k : Nat} (hk : k < 3) (h0 : ¬ dtM (TnM n Bm 2 0) = 0) : ∃ (un2 : Int64) (bo2 : Nat → Int32) (ta2 tr2 ro2 : Nat → Int64), KX3_mixed l D ca ad [.ref 0, .int 0, .int (Int32.ofNat b), .int (Int32.ofNat k), .int 2] (MW (Int32.ofNat n) (Int32.ofNat vs) wo un h bo ta tr ro ot Bm bk) (some (.long (thM (smG n (fun i s => emM (Bm (bkM 2 0 i) i) k s) (rdM n (TnM n Bm 2 0) (dtM (TnM n Bm 2 0)) (fun j => (bk b j).toInt64)) 1) (absX (dtM (TnM n Bm 2 0)))))) (MW (Int32.ofNat n) (Int32.ofNat vs) (dtM (TnM n Bm 2 0)) un2 h bo2 ta2 tr2 ro2 ot Bm bk) := by
  obtain ⟨tt, ett⟩ : ∃ z, z = (TnM n Bm 2 0) := ⟨_, rfl⟩
  obtain ⟨dt, edt⟩ : ∃ z, z = dtM tt := ⟨_, rfl⟩
  rw [← ett, ← edt] at h0
  obtain ⟨rr, err⟩ : ∃ z, z = rdM n tt dt (fun j => (bk b j).toInt64) := ⟨_, rfl⟩
  obtain ⟨ts, ets⟩ : ∃ z, z = tsM n tt 3 (fun j => (bk b j).toInt64) := ⟨_, rfl⟩
  obtain ⟨sm, esm⟩ : ∃ z, z = smG n (fun i s => emM (Bm (bkM 2 0 i) i) k s) rr 1 := ⟨_, rfl⟩
  rw [← ett, ← edt, ← err, ← esm]
  refine ⟨absX dt, (boX 2 0), tt, ts, rr, ?_⟩
  refine PX3_mixed (Nat.le_of_ble_eq_true rfl) ?_
  intro G hT hC hR
  refine mB hT 40 rfl ?_
  refine mNf (lv2 := [(5, .int 2), (0, .ref 0), (1, .int 0), (2, .int (Int32.ofNat b)), (3, .int (Int32.ofNat k)), (4, .int 2)]) (st2 := [.int 0, .int 2, .ref 9]) rfl rfl ?_
  refine mB hT 1 rfl ?_
  refine mWd (w2 := (MW (Int32.ofNat n) (Int32.ofNat vs) wo un h (up (up (up bo 0 6) 1 6) 2 0) ta tr ro ot Bm bk)) rfl ?_
  refine mB hT 19 rfl ?_
  refine mNf (lv2 := [(5, .int 4), (0, .ref 0), (1, .int 0), (2, .int (Int32.ofNat b)), (3, .int (Int32.ofNat k)), (4, .int 2)]) (st2 := [.ref 0]) rfl rfl ?_
  refine mWd (w2 := (MW (Int32.ofNat n) (Int32.ofNat vs) wo un h (up (up (up (up bo 0 6) 1 6) 2 0) 3 0) ta tr ro ot Bm bk)) rfl ?_
  refine mWd (w2 := (MW (Int32.ofNat n) (Int32.ofNat vs) wo un h (boX 2 0) ta tr ro ot Bm bk)) rfl ?_
  refine hC.1 _ 0 [] _ _ _ _ _ (show KX3_lay l D ca ad _ _ none (MW (Int32.ofNat n) (Int32.ofNat vs) dt un h (boX 2 0) tt tt ro ot Bm bk) from (by rw [edt, ett]; exact m_lay_2_0 hn)) rfl rfl (Nat.le_of_ble_eq_true rfl) rfl ?_
  refine mB hT 5 rfl ?_
  refine mIf (fun hp => absurd hp (fun q => h0 (lc_eq.mp q))) (fun _ => ?_)
  refine mB hT 2 rfl ?_
  refine hC.2.1 _ 0 [_] _ _ _ _ _ (show KX3_solve l D ca ad _ _ none (MW (Int32.ofNat n) (Int32.ofNat vs) dt (absX dt) h (boX 2 0) tt ts rr ot Bm bk) from (by rw [err, ets]; exact m_solve hn hb)) rfl rfl (Nat.le_of_ble_eq_true rfl) rfl ?_
  refine mB hT 3 rfl ?_
  refine hC.2.2.1 _ 0 [_, _] _ _ _ _ _ (show KX3_sum l D ca ad _ _ (some (.long sm)) _ from (by rw [esm]; exact m_sum_2_0 hn k 1 hk (by decide))) rfl rfl (Nat.le_of_ble_eq_true rfl) rfl ?_
  refine mB hT 2 rfl ?_
  refine hC.2.2.2 _ [_, _] _ _ _ _ (m_th (absX_ne h0)) rfl (Nat.le_of_ble_eq_true rfl) rfl ?_
  exact hR _ (by decide) _ _ _ rfl rfl
set_option maxRecDepth 20000 in
theorem m_mixed0_0_3 {n vs : Nat} {wo un h : Int64} {bo : Nat → Int32} {ta tr ro ot : Nat → Int64} {Bm : Nat → Nat → Nat → Int32} {bk : Nat → Nat → Int32} (hn : n ≤ 4) {b : Nat} (hb : b < 4) {k : Nat} (hk : k < 3) (h0 : dtM (TnM n Bm 3 0) = 0) : ∃ (un2 : Int64) (bo2 : Nat → Int32) (ta2 tr2 ro2 : Nat → Int64), KX3_mixed l D ca ad [.ref 0, .int 0, .int (Int32.ofNat b), .int (Int32.ofNat k), .int 3] (MW (Int32.ofNat n) (Int32.ofNat vs) wo un h bo ta tr ro ot Bm bk) (some (.long 0)) (MW (Int32.ofNat n) (Int32.ofNat vs) (dtM (TnM n Bm 3 0)) un2 h bo2 ta2 tr2 ro2 ot Bm bk) := by
  obtain ⟨tt, ett⟩ : ∃ z, z = (TnM n Bm 3 0) := ⟨_, rfl⟩
  obtain ⟨dt, edt⟩ : ∃ z, z = dtM tt := ⟨_, rfl⟩
  rw [← ett, ← edt] at h0
  rw [← ett, ← edt]
  refine ⟨un, (boX 3 0), tt, tt, ro, ?_⟩
  refine PX3_mixed (Nat.le_of_ble_eq_true rfl) ?_
  intro G hT hC hR
  refine mB hT 40 rfl ?_
  refine mNf (lv2 := [(5, .int 2), (0, .ref 0), (1, .int 0), (2, .int (Int32.ofNat b)), (3, .int (Int32.ofNat k)), (4, .int 3)]) (st2 := [.int 6, .int 2, .ref 9]) rfl rfl ?_
  refine mB hT 2 rfl ?_
  refine mWd (w2 := (MW (Int32.ofNat n) (Int32.ofNat vs) wo un h (up (up (up bo 0 6) 1 6) 2 6) ta tr ro ot Bm bk)) rfl ?_
  refine mB hT 19 rfl ?_
  refine mNf (lv2 := [(5, .int 4), (0, .ref 0), (1, .int 0), (2, .int (Int32.ofNat b)), (3, .int (Int32.ofNat k)), (4, .int 3)]) (st2 := [.ref 0]) rfl rfl ?_
  refine mWd (w2 := (MW (Int32.ofNat n) (Int32.ofNat vs) wo un h (up (up (up (up bo 0 6) 1 6) 2 6) 3 0) ta tr ro ot Bm bk)) rfl ?_
  refine mWd (w2 := (MW (Int32.ofNat n) (Int32.ofNat vs) wo un h (boX 3 0) ta tr ro ot Bm bk)) rfl ?_
  refine hC.1 _ 0 [] _ _ _ _ _ (show KX3_lay l D ca ad _ _ none (MW (Int32.ofNat n) (Int32.ofNat vs) dt un h (boX 3 0) tt tt ro ot Bm bk) from (by rw [edt, ett]; exact m_lay_3_0 hn)) rfl rfl (Nat.le_of_ble_eq_true rfl) rfl ?_
  refine mB hT 5 rfl ?_
  refine mIf (fun _ => ?_) (fun hn => absurd (lc_eq.mpr h0) hn)
  refine mB hT 1 rfl ?_
  exact hR _ (by decide) _ _ _ rfl rfl
set_option maxRecDepth 20000 in
theorem m_mixed1_0_3 {n vs : Nat} {wo un h : Int64} {bo : Nat → Int32} {ta tr ro ot : Nat → Int64} {Bm : Nat → Nat → Nat → Int32} {bk : Nat → Nat → Int32} (hn : n ≤ 4) {b : Nat} (hb : b < 4) {k : Nat} (hk : k < 3) (h0 : ¬ dtM (TnM n Bm 3 0) = 0) : ∃ (un2 : Int64) (bo2 : Nat → Int32) (ta2 tr2 ro2 : Nat → Int64), KX3_mixed l D ca ad [.ref 0, .int 0, .int (Int32.ofNat b), .int (Int32.ofNat k), .int 3] (MW (Int32.ofNat n) (Int32.ofNat vs) wo un h bo ta tr ro ot Bm bk) (some (.long (thM (smG n (fun i s => emM (Bm (bkM 3 0 i) i) k s) (rdM n (TnM n Bm 3 0) (dtM (TnM n Bm 3 0)) (fun j => (bk b j).toInt64)) 1) (absX (dtM (TnM n Bm 3 0)))))) (MW (Int32.ofNat n) (Int32.ofNat vs) (dtM (TnM n Bm 3 0)) un2 h bo2 ta2 tr2 ro2 ot Bm bk) := by
  obtain ⟨tt, ett⟩ : ∃ z, z = (TnM n Bm 3 0) := ⟨_, rfl⟩
  obtain ⟨dt, edt⟩ : ∃ z, z = dtM tt := ⟨_, rfl⟩
  rw [← ett, ← edt] at h0
  obtain ⟨rr, err⟩ : ∃ z, z = rdM n tt dt (fun j => (bk b j).toInt64) := ⟨_, rfl⟩
  obtain ⟨ts, ets⟩ : ∃ z, z = tsM n tt 3 (fun j => (bk b j).toInt64) := ⟨_, rfl⟩
  obtain ⟨sm, esm⟩ : ∃ z, z = smG n (fun i s => emM (Bm (bkM 3 0 i) i) k s) rr 1 := ⟨_, rfl⟩
  rw [← ett, ← edt, ← err, ← esm]
  refine ⟨absX dt, (boX 3 0), tt, ts, rr, ?_⟩
  refine PX3_mixed (Nat.le_of_ble_eq_true rfl) ?_
  intro G hT hC hR
  refine mB hT 40 rfl ?_
  refine mNf (lv2 := [(5, .int 2), (0, .ref 0), (1, .int 0), (2, .int (Int32.ofNat b)), (3, .int (Int32.ofNat k)), (4, .int 3)]) (st2 := [.int 6, .int 2, .ref 9]) rfl rfl ?_
  refine mB hT 2 rfl ?_
  refine mWd (w2 := (MW (Int32.ofNat n) (Int32.ofNat vs) wo un h (up (up (up bo 0 6) 1 6) 2 6) ta tr ro ot Bm bk)) rfl ?_
  refine mB hT 19 rfl ?_
  refine mNf (lv2 := [(5, .int 4), (0, .ref 0), (1, .int 0), (2, .int (Int32.ofNat b)), (3, .int (Int32.ofNat k)), (4, .int 3)]) (st2 := [.ref 0]) rfl rfl ?_
  refine mWd (w2 := (MW (Int32.ofNat n) (Int32.ofNat vs) wo un h (up (up (up (up bo 0 6) 1 6) 2 6) 3 0) ta tr ro ot Bm bk)) rfl ?_
  refine mWd (w2 := (MW (Int32.ofNat n) (Int32.ofNat vs) wo un h (boX 3 0) ta tr ro ot Bm bk)) rfl ?_
  refine hC.1 _ 0 [] _ _ _ _ _ (show KX3_lay l D ca ad _ _ none (MW (Int32.ofNat n) (Int32.ofNat vs) dt un h (boX 3 0) tt tt ro ot Bm bk) from (by rw [edt, ett]; exact m_lay_3_0 hn)) rfl rfl (Nat.le_of_ble_eq_true rfl) rfl ?_
  refine mB hT 5 rfl ?_
  refine mIf (fun hp => absurd hp (fun q => h0 (lc_eq.mp q))) (fun _ => ?_)
  refine mB hT 2 rfl ?_
  refine hC.2.1 _ 0 [_] _ _ _ _ _ (show KX3_solve l D ca ad _ _ none (MW (Int32.ofNat n) (Int32.ofNat vs) dt (absX dt) h (boX 3 0) tt ts rr ot Bm bk) from (by rw [err, ets]; exact m_solve hn hb)) rfl rfl (Nat.le_of_ble_eq_true rfl) rfl ?_
  refine mB hT 3 rfl ?_
  refine hC.2.2.1 _ 0 [_, _] _ _ _ _ _ (show KX3_sum l D ca ad _ _ (some (.long sm)) _ from (by rw [esm]; exact m_sum_3_0 hn k 1 hk (by decide))) rfl rfl (Nat.le_of_ble_eq_true rfl) rfl ?_
  refine mB hT 2 rfl ?_
  refine hC.2.2.2 _ [_, _] _ _ _ _ (m_th (absX_ne h0)) rfl (Nat.le_of_ble_eq_true rfl) rfl ?_
  exact hR _ (by decide) _ _ _ rfl rfl
set_option maxRecDepth 20000 in
theorem m_mixed0_0_4 {n vs : Nat} {wo un h : Int64} {bo : Nat → Int32} {ta tr ro ot : Nat → Int64} {Bm : Nat → Nat → Nat → Int32} {bk : Nat → Nat → Int32} (hn : n ≤ 4) {b : Nat} (hb : b < 4) {k : Nat} (hk : k < 3) (h0 : dtM (TnM n Bm 4 0) = 0) : ∃ (un2 : Int64) (bo2 : Nat → Int32) (ta2 tr2 ro2 : Nat → Int64), KX3_mixed l D ca ad [.ref 0, .int 0, .int (Int32.ofNat b), .int (Int32.ofNat k), .int 4] (MW (Int32.ofNat n) (Int32.ofNat vs) wo un h bo ta tr ro ot Bm bk) (some (.long 0)) (MW (Int32.ofNat n) (Int32.ofNat vs) (dtM (TnM n Bm 4 0)) un2 h bo2 ta2 tr2 ro2 ot Bm bk) := by
  obtain ⟨tt, ett⟩ : ∃ z, z = (TnM n Bm 4 0) := ⟨_, rfl⟩
  obtain ⟨dt, edt⟩ : ∃ z, z = dtM tt := ⟨_, rfl⟩
  rw [← ett, ← edt] at h0
  rw [← ett, ← edt]
  refine ⟨un, (boX 4 0), tt, tt, ro, ?_⟩
  refine PX3_mixed (Nat.le_of_ble_eq_true rfl) ?_
  intro G hT hC hR
  refine mB hT 40 rfl ?_
  refine mNf (lv2 := [(5, .int 2), (0, .ref 0), (1, .int 0), (2, .int (Int32.ofNat b)), (3, .int (Int32.ofNat k)), (4, .int 4)]) (st2 := [.int 6, .int 2, .ref 9]) rfl rfl ?_
  refine mB hT 2 rfl ?_
  refine mWd (w2 := (MW (Int32.ofNat n) (Int32.ofNat vs) wo un h (up (up (up bo 0 6) 1 6) 2 6) ta tr ro ot Bm bk)) rfl ?_
  refine mB hT 20 rfl ?_
  refine mNf (lv2 := [(5, .int 4), (0, .ref 0), (1, .int 0), (2, .int (Int32.ofNat b)), (3, .int (Int32.ofNat k)), (4, .int 4)]) (st2 := [.ref 0]) rfl rfl ?_
  refine mWd (w2 := (MW (Int32.ofNat n) (Int32.ofNat vs) wo un h (up (up (up (up bo 0 6) 1 6) 2 6) 3 6) ta tr ro ot Bm bk)) rfl ?_
  refine mWd (w2 := (MW (Int32.ofNat n) (Int32.ofNat vs) wo un h (boX 4 0) ta tr ro ot Bm bk)) rfl ?_
  refine hC.1 _ 0 [] _ _ _ _ _ (show KX3_lay l D ca ad _ _ none (MW (Int32.ofNat n) (Int32.ofNat vs) dt un h (boX 4 0) tt tt ro ot Bm bk) from (by rw [edt, ett]; exact m_lay_4_0 hn)) rfl rfl (Nat.le_of_ble_eq_true rfl) rfl ?_
  refine mB hT 5 rfl ?_
  refine mIf (fun _ => ?_) (fun hn => absurd (lc_eq.mpr h0) hn)
  refine mB hT 1 rfl ?_
  exact hR _ (by decide) _ _ _ rfl rfl
set_option maxRecDepth 20000 in
theorem m_mixed1_0_4 {n vs : Nat} {wo un h : Int64} {bo : Nat → Int32} {ta tr ro ot : Nat → Int64} {Bm : Nat → Nat → Nat → Int32} {bk : Nat → Nat → Int32} (hn : n ≤ 4) {b : Nat} (hb : b < 4) {k : Nat} (hk : k < 3) (h0 : ¬ dtM (TnM n Bm 4 0) = 0) : ∃ (un2 : Int64) (bo2 : Nat → Int32) (ta2 tr2 ro2 : Nat → Int64), KX3_mixed l D ca ad [.ref 0, .int 0, .int (Int32.ofNat b), .int (Int32.ofNat k), .int 4] (MW (Int32.ofNat n) (Int32.ofNat vs) wo un h bo ta tr ro ot Bm bk) (some (.long (thM (smG n (fun i s => emM (Bm (bkM 4 0 i) i) k s) (rdM n (TnM n Bm 4 0) (dtM (TnM n Bm 4 0)) (fun j => (bk b j).toInt64)) 1) (absX (dtM (TnM n Bm 4 0)))))) (MW (Int32.ofNat n) (Int32.ofNat vs) (dtM (TnM n Bm 4 0)) un2 h bo2 ta2 tr2 ro2 ot Bm bk) := by
  obtain ⟨tt, ett⟩ : ∃ z, z = (TnM n Bm 4 0) := ⟨_, rfl⟩
  obtain ⟨dt, edt⟩ : ∃ z, z = dtM tt := ⟨_, rfl⟩
  rw [← ett, ← edt] at h0
  obtain ⟨rr, err⟩ : ∃ z, z = rdM n tt dt (fun j => (bk b j).toInt64) := ⟨_, rfl⟩
  obtain ⟨ts, ets⟩ : ∃ z, z = tsM n tt 3 (fun j => (bk b j).toInt64) := ⟨_, rfl⟩
  obtain ⟨sm, esm⟩ : ∃ z, z = smG n (fun i s => emM (Bm (bkM 4 0 i) i) k s) rr 1 := ⟨_, rfl⟩
  rw [← ett, ← edt, ← err, ← esm]
  refine ⟨absX dt, (boX 4 0), tt, ts, rr, ?_⟩
  refine PX3_mixed (Nat.le_of_ble_eq_true rfl) ?_
  intro G hT hC hR
  refine mB hT 40 rfl ?_
  refine mNf (lv2 := [(5, .int 2), (0, .ref 0), (1, .int 0), (2, .int (Int32.ofNat b)), (3, .int (Int32.ofNat k)), (4, .int 4)]) (st2 := [.int 6, .int 2, .ref 9]) rfl rfl ?_
  refine mB hT 2 rfl ?_
  refine mWd (w2 := (MW (Int32.ofNat n) (Int32.ofNat vs) wo un h (up (up (up bo 0 6) 1 6) 2 6) ta tr ro ot Bm bk)) rfl ?_
  refine mB hT 20 rfl ?_
  refine mNf (lv2 := [(5, .int 4), (0, .ref 0), (1, .int 0), (2, .int (Int32.ofNat b)), (3, .int (Int32.ofNat k)), (4, .int 4)]) (st2 := [.ref 0]) rfl rfl ?_
  refine mWd (w2 := (MW (Int32.ofNat n) (Int32.ofNat vs) wo un h (up (up (up (up bo 0 6) 1 6) 2 6) 3 6) ta tr ro ot Bm bk)) rfl ?_
  refine mWd (w2 := (MW (Int32.ofNat n) (Int32.ofNat vs) wo un h (boX 4 0) ta tr ro ot Bm bk)) rfl ?_
  refine hC.1 _ 0 [] _ _ _ _ _ (show KX3_lay l D ca ad _ _ none (MW (Int32.ofNat n) (Int32.ofNat vs) dt un h (boX 4 0) tt tt ro ot Bm bk) from (by rw [edt, ett]; exact m_lay_4_0 hn)) rfl rfl (Nat.le_of_ble_eq_true rfl) rfl ?_
  refine mB hT 5 rfl ?_
  refine mIf (fun hp => absurd hp (fun q => h0 (lc_eq.mp q))) (fun _ => ?_)
  refine mB hT 2 rfl ?_
  refine hC.2.1 _ 0 [_] _ _ _ _ _ (show KX3_solve l D ca ad _ _ none (MW (Int32.ofNat n) (Int32.ofNat vs) dt (absX dt) h (boX 4 0) tt ts rr ot Bm bk) from (by rw [err, ets]; exact m_solve hn hb)) rfl rfl (Nat.le_of_ble_eq_true rfl) rfl ?_
  refine mB hT 3 rfl ?_
  refine hC.2.2.1 _ 0 [_, _] _ _ _ _ _ (show KX3_sum l D ca ad _ _ (some (.long sm)) _ from (by rw [esm]; exact m_sum_4_0 hn k 1 hk (by decide))) rfl rfl (Nat.le_of_ble_eq_true rfl) rfl ?_
  refine mB hT 2 rfl ?_
  refine hC.2.2.2 _ [_, _] _ _ _ _ (m_th (absX_ne h0)) rfl (Nat.le_of_ble_eq_true rfl) rfl ?_
  exact hR _ (by decide) _ _ _ rfl rfl
set_option maxRecDepth 20000 in
theorem m_mixed0_1_0 {n vs : Nat} {wo un h : Int64} {bo : Nat → Int32} {ta tr ro ot : Nat → Int64} {Bm : Nat → Nat → Nat → Int32} {bk : Nat → Nat → Int32} (hn : n ≤ 4) {b : Nat} (hb : b < 4) {k : Nat} (hk : k < 3) (h0 : dtM (TnM n Bm 0 1) = 0) : ∃ (un2 : Int64) (bo2 : Nat → Int32) (ta2 tr2 ro2 : Nat → Int64), KX3_mixed l D ca ad [.ref 0, .int 1, .int (Int32.ofNat b), .int (Int32.ofNat k), .int 0] (MW (Int32.ofNat n) (Int32.ofNat vs) wo un h bo ta tr ro ot Bm bk) (some (.long 0)) (MW (Int32.ofNat n) (Int32.ofNat vs) (dtM (TnM n Bm 0 1)) un2 h bo2 ta2 tr2 ro2 ot Bm bk) := by
  obtain ⟨tt, ett⟩ : ∃ z, z = (TnM n Bm 0 1) := ⟨_, rfl⟩
  obtain ⟨dt, edt⟩ : ∃ z, z = dtM tt := ⟨_, rfl⟩
  rw [← ett, ← edt] at h0
  rw [← ett, ← edt]
  refine ⟨un, (boX 0 1), tt, tt, ro, ?_⟩
  refine PX3_mixed (Nat.le_of_ble_eq_true rfl) ?_
  intro G hT hC hR
  refine mB hT 39 rfl ?_
  refine mNf (lv2 := [(5, .int 2), (0, .ref 0), (1, .int 1), (2, .int (Int32.ofNat b)), (3, .int (Int32.ofNat k)), (4, .int 0)]) (st2 := []) rfl rfl ?_
  refine mWd (w2 := (MW (Int32.ofNat n) (Int32.ofNat vs) wo un h (up (up (up bo 0 1) 1 1) 2 1) ta tr ro ot Bm bk)) rfl ?_
  refine mB hT 19 rfl ?_
  refine mNf (lv2 := [(5, .int 4), (0, .ref 0), (1, .int 1), (2, .int (Int32.ofNat b)), (3, .int (Int32.ofNat k)), (4, .int 0)]) (st2 := [.ref 0]) rfl rfl ?_
  refine mWd (w2 := (MW (Int32.ofNat n) (Int32.ofNat vs) wo un h (up (up (up (up bo 0 1) 1 1) 2 1) 3 1) ta tr ro ot Bm bk)) rfl ?_
  refine mWd (w2 := (MW (Int32.ofNat n) (Int32.ofNat vs) wo un h (boX 0 1) ta tr ro ot Bm bk)) rfl ?_
  refine hC.1 _ 0 [] _ _ _ _ _ (show KX3_lay l D ca ad _ _ none (MW (Int32.ofNat n) (Int32.ofNat vs) dt un h (boX 0 1) tt tt ro ot Bm bk) from (by rw [edt, ett]; exact m_lay_0_1 hn)) rfl rfl (Nat.le_of_ble_eq_true rfl) rfl ?_
  refine mB hT 5 rfl ?_
  refine mIf (fun _ => ?_) (fun hn => absurd (lc_eq.mpr h0) hn)
  refine mB hT 1 rfl ?_
  exact hR _ (by decide) _ _ _ rfl rfl
set_option maxRecDepth 20000 in
theorem m_mixed1_1_0 {n vs : Nat} {wo un h : Int64} {bo : Nat → Int32} {ta tr ro ot : Nat → Int64} {Bm : Nat → Nat → Nat → Int32} {bk : Nat → Nat → Int32} (hn : n ≤ 4) {b : Nat} (hb : b < 4) {k : Nat} (hk : k < 3) (h0 : ¬ dtM (TnM n Bm 0 1) = 0) : ∃ (un2 : Int64) (bo2 : Nat → Int32) (ta2 tr2 ro2 : Nat → Int64), KX3_mixed l D ca ad [.ref 0, .int 1, .int (Int32.ofNat b), .int (Int32.ofNat k), .int 0] (MW (Int32.ofNat n) (Int32.ofNat vs) wo un h bo ta tr ro ot Bm bk) (some (.long (thM (smG n (fun i s => emM (Bm (bkM 0 1 i) i) k s) (rdM n (TnM n Bm 0 1) (dtM (TnM n Bm 0 1)) (fun j => (bk b j).toInt64)) 1) (absX (dtM (TnM n Bm 0 1)))))) (MW (Int32.ofNat n) (Int32.ofNat vs) (dtM (TnM n Bm 0 1)) un2 h bo2 ta2 tr2 ro2 ot Bm bk) := by
  obtain ⟨tt, ett⟩ : ∃ z, z = (TnM n Bm 0 1) := ⟨_, rfl⟩
  obtain ⟨dt, edt⟩ : ∃ z, z = dtM tt := ⟨_, rfl⟩
  rw [← ett, ← edt] at h0
  obtain ⟨rr, err⟩ : ∃ z, z = rdM n tt dt (fun j => (bk b j).toInt64) := ⟨_, rfl⟩
  obtain ⟨ts, ets⟩ : ∃ z, z = tsM n tt 3 (fun j => (bk b j).toInt64) := ⟨_, rfl⟩
  obtain ⟨sm, esm⟩ : ∃ z, z = smG n (fun i s => emM (Bm (bkM 0 1 i) i) k s) rr 1 := ⟨_, rfl⟩
  rw [← ett, ← edt, ← err, ← esm]
  refine ⟨absX dt, (boX 0 1), tt, ts, rr, ?_⟩
  refine PX3_mixed (Nat.le_of_ble_eq_true rfl) ?_
  intro G hT hC hR
  refine mB hT 39 rfl ?_
  refine mNf (lv2 := [(5, .int 2), (0, .ref 0), (1, .int 1), (2, .int (Int32.ofNat b)), (3, .int (Int32.ofNat k)), (4, .int 0)]) (st2 := []) rfl rfl ?_
  refine mWd (w2 := (MW (Int32.ofNat n) (Int32.ofNat vs) wo un h (up (up (up bo 0 1) 1 1) 2 1) ta tr ro ot Bm bk)) rfl ?_
  refine mB hT 19 rfl ?_
  refine mNf (lv2 := [(5, .int 4), (0, .ref 0), (1, .int 1), (2, .int (Int32.ofNat b)), (3, .int (Int32.ofNat k)), (4, .int 0)]) (st2 := [.ref 0]) rfl rfl ?_
  refine mWd (w2 := (MW (Int32.ofNat n) (Int32.ofNat vs) wo un h (up (up (up (up bo 0 1) 1 1) 2 1) 3 1) ta tr ro ot Bm bk)) rfl ?_
  refine mWd (w2 := (MW (Int32.ofNat n) (Int32.ofNat vs) wo un h (boX 0 1) ta tr ro ot Bm bk)) rfl ?_
  refine hC.1 _ 0 [] _ _ _ _ _ (show KX3_lay l D ca ad _ _ none (MW (Int32.ofNat n) (Int32.ofNat vs) dt un h (boX 0 1) tt tt ro ot Bm bk) from (by rw [edt, ett]; exact m_lay_0_1 hn)) rfl rfl (Nat.le_of_ble_eq_true rfl) rfl ?_
  refine mB hT 5 rfl ?_
  refine mIf (fun hp => absurd hp (fun q => h0 (lc_eq.mp q))) (fun _ => ?_)
  refine mB hT 2 rfl ?_
  refine hC.2.1 _ 0 [_] _ _ _ _ _ (show KX3_solve l D ca ad _ _ none (MW (Int32.ofNat n) (Int32.ofNat vs) dt (absX dt) h (boX 0 1) tt ts rr ot Bm bk) from (by rw [err, ets]; exact m_solve hn hb)) rfl rfl (Nat.le_of_ble_eq_true rfl) rfl ?_
  refine mB hT 3 rfl ?_
  refine hC.2.2.1 _ 0 [_, _] _ _ _ _ _ (show KX3_sum l D ca ad _ _ (some (.long sm)) _ from (by rw [esm]; exact m_sum_0_1 hn k 1 hk (by decide))) rfl rfl (Nat.le_of_ble_eq_true rfl) rfl ?_
  refine mB hT 2 rfl ?_
  refine hC.2.2.2 _ [_, _] _ _ _ _ (m_th (absX_ne h0)) rfl (Nat.le_of_ble_eq_true rfl) rfl ?_
  exact hR _ (by decide) _ _ _ rfl rfl
set_option maxRecDepth 20000 in
theorem m_mixed0_1_1 {n vs : Nat} {wo un h : Int64} {bo : Nat → Int32} {ta tr ro ot : Nat → Int64} {Bm : Nat → Nat → Nat → Int32} {bk : Nat → Nat → Int32} (hn : n ≤ 4) {b : Nat} (hb : b < 4) {k : Nat} (hk : k < 3) (h0 : dtM (TnM n Bm 1 1) = 0) : ∃ (un2 : Int64) (bo2 : Nat → Int32) (ta2 tr2 ro2 : Nat → Int64), KX3_mixed l D ca ad [.ref 0, .int 1, .int (Int32.ofNat b), .int (Int32.ofNat k), .int 1] (MW (Int32.ofNat n) (Int32.ofNat vs) wo un h bo ta tr ro ot Bm bk) (some (.long 0)) (MW (Int32.ofNat n) (Int32.ofNat vs) (dtM (TnM n Bm 1 1)) un2 h bo2 ta2 tr2 ro2 ot Bm bk) := by
  obtain ⟨tt, ett⟩ : ∃ z, z = (TnM n Bm 1 1) := ⟨_, rfl⟩
  obtain ⟨dt, edt⟩ : ∃ z, z = dtM tt := ⟨_, rfl⟩
  rw [← ett, ← edt] at h0
  rw [← ett, ← edt]
  refine ⟨un, (boX 1 1), tt, tt, ro, ?_⟩
  refine PX3_mixed (Nat.le_of_ble_eq_true rfl) ?_
  intro G hT hC hR
  refine mB hT 40 rfl ?_
  refine mNf (lv2 := [(5, .int 2), (0, .ref 0), (1, .int 1), (2, .int (Int32.ofNat b)), (3, .int (Int32.ofNat k)), (4, .int 1)]) (st2 := []) rfl rfl ?_
  refine mWd (w2 := (MW (Int32.ofNat n) (Int32.ofNat vs) wo un h (up (up (up bo 0 6) 1 1) 2 1) ta tr ro ot Bm bk)) rfl ?_
  refine mB hT 19 rfl ?_
  refine mNf (lv2 := [(5, .int 4), (0, .ref 0), (1, .int 1), (2, .int (Int32.ofNat b)), (3, .int (Int32.ofNat k)), (4, .int 1)]) (st2 := [.ref 0]) rfl rfl ?_
  refine mWd (w2 := (MW (Int32.ofNat n) (Int32.ofNat vs) wo un h (up (up (up (up bo 0 6) 1 1) 2 1) 3 1) ta tr ro ot Bm bk)) rfl ?_
  refine mWd (w2 := (MW (Int32.ofNat n) (Int32.ofNat vs) wo un h (boX 1 1) ta tr ro ot Bm bk)) rfl ?_
  refine hC.1 _ 0 [] _ _ _ _ _ (show KX3_lay l D ca ad _ _ none (MW (Int32.ofNat n) (Int32.ofNat vs) dt un h (boX 1 1) tt tt ro ot Bm bk) from (by rw [edt, ett]; exact m_lay_1_1 hn)) rfl rfl (Nat.le_of_ble_eq_true rfl) rfl ?_
  refine mB hT 5 rfl ?_
  refine mIf (fun _ => ?_) (fun hn => absurd (lc_eq.mpr h0) hn)
  refine mB hT 1 rfl ?_
  exact hR _ (by decide) _ _ _ rfl rfl
set_option maxRecDepth 20000 in
theorem m_mixed1_1_1 {n vs : Nat} {wo un h : Int64} {bo : Nat → Int32} {ta tr ro ot : Nat → Int64} {Bm : Nat → Nat → Nat → Int32} {bk : Nat → Nat → Int32} (hn : n ≤ 4) {b : Nat} (hb : b < 4) {k : Nat} (hk : k < 3) (h0 : ¬ dtM (TnM n Bm 1 1) = 0) : ∃ (un2 : Int64) (bo2 : Nat → Int32) (ta2 tr2 ro2 : Nat → Int64), KX3_mixed l D ca ad [.ref 0, .int 1, .int (Int32.ofNat b), .int (Int32.ofNat k), .int 1] (MW (Int32.ofNat n) (Int32.ofNat vs) wo un h bo ta tr ro ot Bm bk) (some (.long (thM (smG n (fun i s => emM (Bm (bkM 1 1 i) i) k s) (rdM n (TnM n Bm 1 1) (dtM (TnM n Bm 1 1)) (fun j => (bk b j).toInt64)) 1) (absX (dtM (TnM n Bm 1 1)))))) (MW (Int32.ofNat n) (Int32.ofNat vs) (dtM (TnM n Bm 1 1)) un2 h bo2 ta2 tr2 ro2 ot Bm bk) := by
  obtain ⟨tt, ett⟩ : ∃ z, z = (TnM n Bm 1 1) := ⟨_, rfl⟩
  obtain ⟨dt, edt⟩ : ∃ z, z = dtM tt := ⟨_, rfl⟩
  rw [← ett, ← edt] at h0
  obtain ⟨rr, err⟩ : ∃ z, z = rdM n tt dt (fun j => (bk b j).toInt64) := ⟨_, rfl⟩
  obtain ⟨ts, ets⟩ : ∃ z, z = tsM n tt 3 (fun j => (bk b j).toInt64) := ⟨_, rfl⟩
  obtain ⟨sm, esm⟩ : ∃ z, z = smG n (fun i s => emM (Bm (bkM 1 1 i) i) k s) rr 1 := ⟨_, rfl⟩
  rw [← ett, ← edt, ← err, ← esm]
  refine ⟨absX dt, (boX 1 1), tt, ts, rr, ?_⟩
  refine PX3_mixed (Nat.le_of_ble_eq_true rfl) ?_
  intro G hT hC hR
  refine mB hT 40 rfl ?_
  refine mNf (lv2 := [(5, .int 2), (0, .ref 0), (1, .int 1), (2, .int (Int32.ofNat b)), (3, .int (Int32.ofNat k)), (4, .int 1)]) (st2 := []) rfl rfl ?_
  refine mWd (w2 := (MW (Int32.ofNat n) (Int32.ofNat vs) wo un h (up (up (up bo 0 6) 1 1) 2 1) ta tr ro ot Bm bk)) rfl ?_
  refine mB hT 19 rfl ?_
  refine mNf (lv2 := [(5, .int 4), (0, .ref 0), (1, .int 1), (2, .int (Int32.ofNat b)), (3, .int (Int32.ofNat k)), (4, .int 1)]) (st2 := [.ref 0]) rfl rfl ?_
  refine mWd (w2 := (MW (Int32.ofNat n) (Int32.ofNat vs) wo un h (up (up (up (up bo 0 6) 1 1) 2 1) 3 1) ta tr ro ot Bm bk)) rfl ?_
  refine mWd (w2 := (MW (Int32.ofNat n) (Int32.ofNat vs) wo un h (boX 1 1) ta tr ro ot Bm bk)) rfl ?_
  refine hC.1 _ 0 [] _ _ _ _ _ (show KX3_lay l D ca ad _ _ none (MW (Int32.ofNat n) (Int32.ofNat vs) dt un h (boX 1 1) tt tt ro ot Bm bk) from (by rw [edt, ett]; exact m_lay_1_1 hn)) rfl rfl (Nat.le_of_ble_eq_true rfl) rfl ?_
  refine mB hT 5 rfl ?_
  refine mIf (fun hp => absurd hp (fun q => h0 (lc_eq.mp q))) (fun _ => ?_)
  refine mB hT 2 rfl ?_
  refine hC.2.1 _ 0 [_] _ _ _ _ _ (show KX3_solve l D ca ad _ _ none (MW (Int32.ofNat n) (Int32.ofNat vs) dt (absX dt) h (boX 1 1) tt ts rr ot Bm bk) from (by rw [err, ets]; exact m_solve hn hb)) rfl rfl (Nat.le_of_ble_eq_true rfl) rfl ?_
  refine mB hT 3 rfl ?_
  refine hC.2.2.1 _ 0 [_, _] _ _ _ _ _ (show KX3_sum l D ca ad _ _ (some (.long sm)) _ from (by rw [esm]; exact m_sum_1_1 hn k 1 hk (by decide))) rfl rfl (Nat.le_of_ble_eq_true rfl) rfl ?_
  refine mB hT 2 rfl ?_
  refine hC.2.2.2 _ [_, _] _ _ _ _ (m_th (absX_ne h0)) rfl (Nat.le_of_ble_eq_true rfl) rfl ?_
  exact hR _ (by decide) _ _ _ rfl rfl
set_option maxRecDepth 20000 in
theorem m_mixed0_1_2 {n vs : Nat} {wo un h : Int64} {bo : Nat → Int32} {ta tr ro ot : Nat → Int64} {Bm : Nat → Nat → Nat → Int32} {bk : Nat → Nat → Int32} (hn : n ≤ 4) {b : Nat} (hb : b < 4) {k : Nat} (hk : k < 3) (h0 : dtM (TnM n Bm 2 1) = 0) : ∃ (un2 : Int64) (bo2 : Nat → Int32) (ta2 tr2 ro2 : Nat → Int64), KX3_mixed l D ca ad [.ref 0, .int 1, .int (Int32.ofNat b), .int (Int32.ofNat k), .int 2] (MW (Int32.ofNat n) (Int32.ofNat vs) wo un h bo ta tr ro ot Bm bk) (some (.long 0)) (MW (Int32.ofNat n) (Int32.ofNat vs) (dtM (TnM n Bm 2 1)) un2 h bo2 ta2 tr2 ro2 ot Bm bk) := by
  obtain ⟨tt, ett⟩ : ∃ z, z = (TnM n Bm 2 1) := ⟨_, rfl⟩
  obtain ⟨dt, edt⟩ : ∃ z, z = dtM tt := ⟨_, rfl⟩
  rw [← ett, ← edt] at h0
  rw [← ett, ← edt]
  refine ⟨un, (boX 2 1), tt, tt, ro, ?_⟩
  refine PX3_mixed (Nat.le_of_ble_eq_true rfl) ?_
  intro G hT hC hR
  refine mB hT 40 rfl ?_
  refine mNf (lv2 := [(5, .int 2), (0, .ref 0), (1, .int 1), (2, .int (Int32.ofNat b)), (3, .int (Int32.ofNat k)), (4, .int 2)]) (st2 := [.int 1, .int 2, .ref 9]) rfl rfl ?_
  refine mB hT 1 rfl ?_
  refine mWd (w2 := (MW (Int32.ofNat n) (Int32.ofNat vs) wo un h (up (up (up bo 0 6) 1 6) 2 1) ta tr ro ot Bm bk)) rfl ?_
  refine mB hT 19 rfl ?_
  refine mNf (lv2 := [(5, .int 4), (0, .ref 0), (1, .int 1), (2, .int (Int32.ofNat b)), (3, .int (Int32.ofNat k)), (4, .int 2)]) (st2 := [.ref 0]) rfl rfl ?_
  refine mWd (w2 := (MW (Int32.ofNat n) (Int32.ofNat vs) wo un h (up (up (up (up bo 0 6) 1 6) 2 1) 3 1) ta tr ro ot Bm bk)) rfl ?_
  refine mWd (w2 := (MW (Int32.ofNat n) (Int32.ofNat vs) wo un h (boX 2 1) ta tr ro ot Bm bk)) rfl ?_
  refine hC.1 _ 0 [] _ _ _ _ _ (show KX3_lay l D ca ad _ _ none (MW (Int32.ofNat n) (Int32.ofNat vs) dt un h (boX 2 1) tt tt ro ot Bm bk) from (by rw [edt, ett]; exact m_lay_2_1 hn)) rfl rfl (Nat.le_of_ble_eq_true rfl) rfl ?_
  refine mB hT 5 rfl ?_
  refine mIf (fun _ => ?_) (fun hn => absurd (lc_eq.mpr h0) hn)
  refine mB hT 1 rfl ?_
  exact hR _ (by decide) _ _ _ rfl rfl
set_option maxRecDepth 20000 in
theorem m_mixed1_1_2 {n vs : Nat} {wo un h : Int64} {bo : Nat → Int32} {ta tr ro ot : Nat → Int64} {Bm : Nat → Nat → Nat → Int32} {bk : Nat → Nat → Int32} (hn : n ≤ 4) {b : Nat} (hb : b < 4) {k : Nat} (hk : k < 3) (h0 : ¬ dtM (TnM n Bm 2 1) = 0) : ∃ (un2 : Int64) (bo2 : Nat → Int32) (ta2 tr2 ro2 : Nat → Int64), KX3_mixed l D ca ad [.ref 0, .int 1, .int (Int32.ofNat b), .int (Int32.ofNat k), .int 2] (MW (Int32.ofNat n) (Int32.ofNat vs) wo un h bo ta tr ro ot Bm bk) (some (.long (thM (smG n (fun i s => emM (Bm (bkM 2 1 i) i) k s) (rdM n (TnM n Bm 2 1) (dtM (TnM n Bm 2 1)) (fun j => (bk b j).toInt64)) 1) (absX (dtM (TnM n Bm 2 1)))))) (MW (Int32.ofNat n) (Int32.ofNat vs) (dtM (TnM n Bm 2 1)) un2 h bo2 ta2 tr2 ro2 ot Bm bk) := by
  obtain ⟨tt, ett⟩ : ∃ z, z = (TnM n Bm 2 1) := ⟨_, rfl⟩
  obtain ⟨dt, edt⟩ : ∃ z, z = dtM tt := ⟨_, rfl⟩
  rw [← ett, ← edt] at h0
  obtain ⟨rr, err⟩ : ∃ z, z = rdM n tt dt (fun j => (bk b j).toInt64) := ⟨_, rfl⟩
  obtain ⟨ts, ets⟩ : ∃ z, z = tsM n tt 3 (fun j => (bk b j).toInt64) := ⟨_, rfl⟩
  obtain ⟨sm, esm⟩ : ∃ z, z = smG n (fun i s => emM (Bm (bkM 2 1 i) i) k s) rr 1 := ⟨_, rfl⟩
  rw [← ett, ← edt, ← err, ← esm]
  refine ⟨absX dt, (boX 2 1), tt, ts, rr, ?_⟩
  refine PX3_mixed (Nat.le_of_ble_eq_true rfl) ?_
  intro G hT hC hR
  refine mB hT 40 rfl ?_
  refine mNf (lv2 := [(5, .int 2), (0, .ref 0), (1, .int 1), (2, .int (Int32.ofNat b)), (3, .int (Int32.ofNat k)), (4, .int 2)]) (st2 := [.int 1, .int 2, .ref 9]) rfl rfl ?_
  refine mB hT 1 rfl ?_
  refine mWd (w2 := (MW (Int32.ofNat n) (Int32.ofNat vs) wo un h (up (up (up bo 0 6) 1 6) 2 1) ta tr ro ot Bm bk)) rfl ?_
  refine mB hT 19 rfl ?_
  refine mNf (lv2 := [(5, .int 4), (0, .ref 0), (1, .int 1), (2, .int (Int32.ofNat b)), (3, .int (Int32.ofNat k)), (4, .int 2)]) (st2 := [.ref 0]) rfl rfl ?_
  refine mWd (w2 := (MW (Int32.ofNat n) (Int32.ofNat vs) wo un h (up (up (up (up bo 0 6) 1 6) 2 1) 3 1) ta tr ro ot Bm bk)) rfl ?_
  refine mWd (w2 := (MW (Int32.ofNat n) (Int32.ofNat vs) wo un h (boX 2 1) ta tr ro ot Bm bk)) rfl ?_
  refine hC.1 _ 0 [] _ _ _ _ _ (show KX3_lay l D ca ad _ _ none (MW (Int32.ofNat n) (Int32.ofNat vs) dt un h (boX 2 1) tt tt ro ot Bm bk) from (by rw [edt, ett]; exact m_lay_2_1 hn)) rfl rfl (Nat.le_of_ble_eq_true rfl) rfl ?_
  refine mB hT 5 rfl ?_
  refine mIf (fun hp => absurd hp (fun q => h0 (lc_eq.mp q))) (fun _ => ?_)
  refine mB hT 2 rfl ?_
  refine hC.2.1 _ 0 [_] _ _ _ _ _ (show KX3_solve l D ca ad _ _ none (MW (Int32.ofNat n) (Int32.ofNat vs) dt (absX dt) h (boX 2 1) tt ts rr ot Bm bk) from (by rw [err, ets]; exact m_solve hn hb)) rfl rfl (Nat.le_of_ble_eq_true rfl) rfl ?_
  refine mB hT 3 rfl ?_
  refine hC.2.2.1 _ 0 [_, _] _ _ _ _ _ (show KX3_sum l D ca ad _ _ (some (.long sm)) _ from (by rw [esm]; exact m_sum_2_1 hn k 1 hk (by decide))) rfl rfl (Nat.le_of_ble_eq_true rfl) rfl ?_
  refine mB hT 2 rfl ?_
  refine hC.2.2.2 _ [_, _] _ _ _ _ (m_th (absX_ne h0)) rfl (Nat.le_of_ble_eq_true rfl) rfl ?_
  exact hR _ (by decide) _ _ _ rfl rfl
set_option maxRecDepth 20000 in
theorem m_mixed0_1_3 {n vs : Nat} {wo un h : Int64} {bo : Nat → Int32} {ta tr ro ot : Nat → Int64} {Bm : Nat → Nat → Nat → Int32} {bk : Nat → Nat → Int32} (hn : n ≤ 4) {b : Nat} (hb : b < 4) {k : Nat} (hk : k < 3) (h0 : dtM (TnM n Bm 3 1) = 0) : ∃ (un2 : Int64) (bo2 : Nat → Int32) (ta2 tr2 ro2 : Nat → Int64), KX3_mixed l D ca ad [.ref 0, .int 1, .int (Int32.ofNat b), .int (Int32.ofNat k), .int 3] (MW (Int32.ofNat n) (Int32.ofNat vs) wo un h bo ta tr ro ot Bm bk) (some (.long 0)) (MW (Int32.ofNat n) (Int32.ofNat vs) (dtM (TnM n Bm 3 1)) un2 h bo2 ta2 tr2 ro2 ot Bm bk) := by
  obtain ⟨tt, ett⟩ : ∃ z, z = (TnM n Bm 3 1) := ⟨_, rfl⟩
  obtain ⟨dt, edt⟩ : ∃ z, z = dtM tt := ⟨_, rfl⟩
  rw [← ett, ← edt] at h0
  rw [← ett, ← edt]
  refine ⟨un, (boX 3 1), tt, tt, ro, ?_⟩
  refine PX3_mixed (Nat.le_of_ble_eq_true rfl) ?_
  intro G hT hC hR
  refine mB hT 40 rfl ?_
  refine mNf (lv2 := [(5, .int 2), (0, .ref 0), (1, .int 1), (2, .int (Int32.ofNat b)), (3, .int (Int32.ofNat k)), (4, .int 3)]) (st2 := [.int 6, .int 2, .ref 9]) rfl rfl ?_
  refine mB hT 2 rfl ?_
  refine mWd (w2 := (MW (Int32.ofNat n) (Int32.ofNat vs) wo un h (up (up (up bo 0 6) 1 6) 2 6) ta tr ro ot Bm bk)) rfl ?_
  refine mB hT 19 rfl ?_
  refine mNf (lv2 := [(5, .int 4), (0, .ref 0), (1, .int 1), (2, .int (Int32.ofNat b)), (3, .int (Int32.ofNat k)), (4, .int 3)]) (st2 := [.ref 0]) rfl rfl ?_
  refine mWd (w2 := (MW (Int32.ofNat n) (Int32.ofNat vs) wo un h (up (up (up (up bo 0 6) 1 6) 2 6) 3 1) ta tr ro ot Bm bk)) rfl ?_
  refine mWd (w2 := (MW (Int32.ofNat n) (Int32.ofNat vs) wo un h (boX 3 1) ta tr ro ot Bm bk)) rfl ?_
  refine hC.1 _ 0 [] _ _ _ _ _ (show KX3_lay l D ca ad _ _ none (MW (Int32.ofNat n) (Int32.ofNat vs) dt un h (boX 3 1) tt tt ro ot Bm bk) from (by rw [edt, ett]; exact m_lay_3_1 hn)) rfl rfl (Nat.le_of_ble_eq_true rfl) rfl ?_
  refine mB hT 5 rfl ?_
  refine mIf (fun _ => ?_) (fun hn => absurd (lc_eq.mpr h0) hn)
  refine mB hT 1 rfl ?_
  exact hR _ (by decide) _ _ _ rfl rfl
set_option maxRecDepth 20000 in
theorem m_mixed1_1_3 {n vs : Nat} {wo un h : Int64} {bo : Nat → Int32} {ta tr ro ot : Nat → Int64} {Bm : Nat → Nat → Nat → Int32} {bk : Nat → Nat → Int32} (hn : n ≤ 4) {b : Nat} (hb : b < 4) {k : Nat} (hk : k < 3) (h0 : ¬ dtM (TnM n Bm 3 1) = 0) : ∃ (un2 : Int64) (bo2 : Nat → Int32) (ta2 tr2 ro2 : Nat → Int64), KX3_mixed l D ca ad [.ref 0, .int 1, .int (Int32.ofNat b), .int (Int32.ofNat k), .int 3] (MW (Int32.ofNat n) (Int32.ofNat vs) wo un h bo ta tr ro ot Bm bk) (some (.long (thM (smG n (fun i s => emM (Bm (bkM 3 1 i) i) k s) (rdM n (TnM n Bm 3 1) (dtM (TnM n Bm 3 1)) (fun j => (bk b j).toInt64)) 1) (absX (dtM (TnM n Bm 3 1)))))) (MW (Int32.ofNat n) (Int32.ofNat vs) (dtM (TnM n Bm 3 1)) un2 h bo2 ta2 tr2 ro2 ot Bm bk) := by
  obtain ⟨tt, ett⟩ : ∃ z, z = (TnM n Bm 3 1) := ⟨_, rfl⟩
  obtain ⟨dt, edt⟩ : ∃ z, z = dtM tt := ⟨_, rfl⟩
  rw [← ett, ← edt] at h0
  obtain ⟨rr, err⟩ : ∃ z, z = rdM n tt dt (fun j => (bk b j).toInt64) := ⟨_, rfl⟩
  obtain ⟨ts, ets⟩ : ∃ z, z = tsM n tt 3 (fun j => (bk b j).toInt64) := ⟨_, rfl⟩
  obtain ⟨sm, esm⟩ : ∃ z, z = smG n (fun i s => emM (Bm (bkM 3 1 i) i) k s) rr 1 := ⟨_, rfl⟩
  rw [← ett, ← edt, ← err, ← esm]
  refine ⟨absX dt, (boX 3 1), tt, ts, rr, ?_⟩
  refine PX3_mixed (Nat.le_of_ble_eq_true rfl) ?_
  intro G hT hC hR
  refine mB hT 40 rfl ?_
  refine mNf (lv2 := [(5, .int 2), (0, .ref 0), (1, .int 1), (2, .int (Int32.ofNat b)), (3, .int (Int32.ofNat k)), (4, .int 3)]) (st2 := [.int 6, .int 2, .ref 9]) rfl rfl ?_
  refine mB hT 2 rfl ?_
  refine mWd (w2 := (MW (Int32.ofNat n) (Int32.ofNat vs) wo un h (up (up (up bo 0 6) 1 6) 2 6) ta tr ro ot Bm bk)) rfl ?_
  refine mB hT 19 rfl ?_
  refine mNf (lv2 := [(5, .int 4), (0, .ref 0), (1, .int 1), (2, .int (Int32.ofNat b)), (3, .int (Int32.ofNat k)), (4, .int 3)]) (st2 := [.ref 0]) rfl rfl ?_
  refine mWd (w2 := (MW (Int32.ofNat n) (Int32.ofNat vs) wo un h (up (up (up (up bo 0 6) 1 6) 2 6) 3 1) ta tr ro ot Bm bk)) rfl ?_
  refine mWd (w2 := (MW (Int32.ofNat n) (Int32.ofNat vs) wo un h (boX 3 1) ta tr ro ot Bm bk)) rfl ?_
  refine hC.1 _ 0 [] _ _ _ _ _ (show KX3_lay l D ca ad _ _ none (MW (Int32.ofNat n) (Int32.ofNat vs) dt un h (boX 3 1) tt tt ro ot Bm bk) from (by rw [edt, ett]; exact m_lay_3_1 hn)) rfl rfl (Nat.le_of_ble_eq_true rfl) rfl ?_
  refine mB hT 5 rfl ?_
  refine mIf (fun hp => absurd hp (fun q => h0 (lc_eq.mp q))) (fun _ => ?_)
  refine mB hT 2 rfl ?_
  refine hC.2.1 _ 0 [_] _ _ _ _ _ (show KX3_solve l D ca ad _ _ none (MW (Int32.ofNat n) (Int32.ofNat vs) dt (absX dt) h (boX 3 1) tt ts rr ot Bm bk) from (by rw [err, ets]; exact m_solve hn hb)) rfl rfl (Nat.le_of_ble_eq_true rfl) rfl ?_
  refine mB hT 3 rfl ?_
  refine hC.2.2.1 _ 0 [_, _] _ _ _ _ _ (show KX3_sum l D ca ad _ _ (some (.long sm)) _ from (by rw [esm]; exact m_sum_3_1 hn k 1 hk (by decide))) rfl rfl (Nat.le_of_ble_eq_true rfl) rfl ?_
  refine mB hT 2 rfl ?_
  refine hC.2.2.2 _ [_, _] _ _ _ _ (m_th (absX_ne h0)) rfl (Nat.le_of_ble_eq_true rfl) rfl ?_
  exact hR _ (by decide) _ _ _ rfl rfl
set_option maxRecDepth 20000 in
theorem m_mixed0_1_4 {n vs : Nat} {wo un h : Int64} {bo : Nat → Int32} {ta tr ro ot : Nat → Int64} {Bm : Nat → Nat → Nat → Int32} {bk : Nat → Nat → Int32} (hn : n ≤ 4) {b : Nat} (hb : b < 4) {k : Nat} (hk : k < 3) (h0 : dtM (TnM n Bm 4 0) = 0) : ∃ (un2 : Int64) (bo2 : Nat → Int32) (ta2 tr2 ro2 : Nat → Int64), KX3_mixed l D ca ad [.ref 0, .int 1, .int (Int32.ofNat b), .int (Int32.ofNat k), .int 4] (MW (Int32.ofNat n) (Int32.ofNat vs) wo un h bo ta tr ro ot Bm bk) (some (.long 0)) (MW (Int32.ofNat n) (Int32.ofNat vs) (dtM (TnM n Bm 4 0)) un2 h bo2 ta2 tr2 ro2 ot Bm bk) := by
  obtain ⟨tt, ett⟩ : ∃ z, z = (TnM n Bm 4 0) := ⟨_, rfl⟩
  obtain ⟨dt, edt⟩ : ∃ z, z = dtM tt := ⟨_, rfl⟩
  rw [← ett, ← edt] at h0
  rw [← ett, ← edt]
  refine ⟨un, (boX 4 0), tt, tt, ro, ?_⟩
  refine PX3_mixed (Nat.le_of_ble_eq_true rfl) ?_
  intro G hT hC hR
  refine mB hT 40 rfl ?_
  refine mNf (lv2 := [(5, .int 2), (0, .ref 0), (1, .int 1), (2, .int (Int32.ofNat b)), (3, .int (Int32.ofNat k)), (4, .int 4)]) (st2 := [.int 6, .int 2, .ref 9]) rfl rfl ?_
  refine mB hT 2 rfl ?_
  refine mWd (w2 := (MW (Int32.ofNat n) (Int32.ofNat vs) wo un h (up (up (up bo 0 6) 1 6) 2 6) ta tr ro ot Bm bk)) rfl ?_
  refine mB hT 20 rfl ?_
  refine mNf (lv2 := [(5, .int 4), (0, .ref 0), (1, .int 1), (2, .int (Int32.ofNat b)), (3, .int (Int32.ofNat k)), (4, .int 4)]) (st2 := [.ref 0]) rfl rfl ?_
  refine mWd (w2 := (MW (Int32.ofNat n) (Int32.ofNat vs) wo un h (up (up (up (up bo 0 6) 1 6) 2 6) 3 6) ta tr ro ot Bm bk)) rfl ?_
  refine mWd (w2 := (MW (Int32.ofNat n) (Int32.ofNat vs) wo un h (boX 4 0) ta tr ro ot Bm bk)) rfl ?_
  refine hC.1 _ 0 [] _ _ _ _ _ (show KX3_lay l D ca ad _ _ none (MW (Int32.ofNat n) (Int32.ofNat vs) dt un h (boX 4 0) tt tt ro ot Bm bk) from (by rw [edt, ett]; exact m_lay_4_0 hn)) rfl rfl (Nat.le_of_ble_eq_true rfl) rfl ?_
  refine mB hT 5 rfl ?_
  refine mIf (fun _ => ?_) (fun hn => absurd (lc_eq.mpr h0) hn)
  refine mB hT 1 rfl ?_
  exact hR _ (by decide) _ _ _ rfl rfl
set_option maxRecDepth 20000 in
theorem m_mixed1_1_4 {n vs : Nat} {wo un h : Int64} {bo : Nat → Int32} {ta tr ro ot : Nat → Int64} {Bm : Nat → Nat → Nat → Int32} {bk : Nat → Nat → Int32} (hn : n ≤ 4) {b : Nat} (hb : b < 4) {k : Nat} (hk : k < 3) (h0 : ¬ dtM (TnM n Bm 4 0) = 0) : ∃ (un2 : Int64) (bo2 : Nat → Int32) (ta2 tr2 ro2 : Nat → Int64), KX3_mixed l D ca ad [.ref 0, .int 1, .int (Int32.ofNat b), .int (Int32.ofNat k), .int 4] (MW (Int32.ofNat n) (Int32.ofNat vs) wo un h bo ta tr ro ot Bm bk) (some (.long (thM (smG n (fun i s => emM (Bm (bkM 4 0 i) i) k s) (rdM n (TnM n Bm 4 0) (dtM (TnM n Bm 4 0)) (fun j => (bk b j).toInt64)) 1) (absX (dtM (TnM n Bm 4 0)))))) (MW (Int32.ofNat n) (Int32.ofNat vs) (dtM (TnM n Bm 4 0)) un2 h bo2 ta2 tr2 ro2 ot Bm bk) := by
  obtain ⟨tt, ett⟩ : ∃ z, z = (TnM n Bm 4 0) := ⟨_, rfl⟩
  obtain ⟨dt, edt⟩ : ∃ z, z = dtM tt := ⟨_, rfl⟩
  rw [← ett, ← edt] at h0
  obtain ⟨rr, err⟩ : ∃ z, z = rdM n tt dt (fun j => (bk b j).toInt64) := ⟨_, rfl⟩
  obtain ⟨ts, ets⟩ : ∃ z, z = tsM n tt 3 (fun j => (bk b j).toInt64) := ⟨_, rfl⟩
  obtain ⟨sm, esm⟩ : ∃ z, z = smG n (fun i s => emM (Bm (bkM 4 0 i) i) k s) rr 1 := ⟨_, rfl⟩
  rw [← ett, ← edt, ← err, ← esm]
  refine ⟨absX dt, (boX 4 0), tt, ts, rr, ?_⟩
  refine PX3_mixed (Nat.le_of_ble_eq_true rfl) ?_
  intro G hT hC hR
  refine mB hT 40 rfl ?_
  refine mNf (lv2 := [(5, .int 2), (0, .ref 0), (1, .int 1), (2, .int (Int32.ofNat b)), (3, .int (Int32.ofNat k)), (4, .int 4)]) (st2 := [.int 6, .int 2, .ref 9]) rfl rfl ?_
  refine mB hT 2 rfl ?_
  refine mWd (w2 := (MW (Int32.ofNat n) (Int32.ofNat vs) wo un h (up (up (up bo 0 6) 1 6) 2 6) ta tr ro ot Bm bk)) rfl ?_
  refine mB hT 20 rfl ?_
  refine mNf (lv2 := [(5, .int 4), (0, .ref 0), (1, .int 1), (2, .int (Int32.ofNat b)), (3, .int (Int32.ofNat k)), (4, .int 4)]) (st2 := [.ref 0]) rfl rfl ?_
  refine mWd (w2 := (MW (Int32.ofNat n) (Int32.ofNat vs) wo un h (up (up (up (up bo 0 6) 1 6) 2 6) 3 6) ta tr ro ot Bm bk)) rfl ?_
  refine mWd (w2 := (MW (Int32.ofNat n) (Int32.ofNat vs) wo un h (boX 4 0) ta tr ro ot Bm bk)) rfl ?_
  refine hC.1 _ 0 [] _ _ _ _ _ (show KX3_lay l D ca ad _ _ none (MW (Int32.ofNat n) (Int32.ofNat vs) dt un h (boX 4 0) tt tt ro ot Bm bk) from (by rw [edt, ett]; exact m_lay_4_0 hn)) rfl rfl (Nat.le_of_ble_eq_true rfl) rfl ?_
  refine mB hT 5 rfl ?_
  refine mIf (fun hp => absurd hp (fun q => h0 (lc_eq.mp q))) (fun _ => ?_)
  refine mB hT 2 rfl ?_
  refine hC.2.1 _ 0 [_] _ _ _ _ _ (show KX3_solve l D ca ad _ _ none (MW (Int32.ofNat n) (Int32.ofNat vs) dt (absX dt) h (boX 4 0) tt ts rr ot Bm bk) from (by rw [err, ets]; exact m_solve hn hb)) rfl rfl (Nat.le_of_ble_eq_true rfl) rfl ?_
  refine mB hT 3 rfl ?_
  refine hC.2.2.1 _ 0 [_, _] _ _ _ _ _ (show KX3_sum l D ca ad _ _ (some (.long sm)) _ from (by rw [esm]; exact m_sum_4_0 hn k 1 hk (by decide))) rfl rfl (Nat.le_of_ble_eq_true rfl) rfl ?_
  refine mB hT 2 rfl ?_
  refine hC.2.2.2 _ [_, _] _ _ _ _ (m_th (absX_ne h0)) rfl (Nat.le_of_ble_eq_true rfl) rfl ?_
  exact hR _ (by decide) _ _ _ rfl rfl
set_option maxRecDepth 20000 in
theorem m_mixed0_2_0 {n vs : Nat} {wo un h : Int64} {bo : Nat → Int32} {ta tr ro ot : Nat → Int64} {Bm : Nat → Nat → Nat → Int32} {bk : Nat → Nat → Int32} (hn : n ≤ 4) {b : Nat} (hb : b < 4) {k : Nat} (hk : k < 3) (h0 : dtM (TnM n Bm 0 2) = 0) : ∃ (un2 : Int64) (bo2 : Nat → Int32) (ta2 tr2 ro2 : Nat → Int64), KX3_mixed l D ca ad [.ref 0, .int 2, .int (Int32.ofNat b), .int (Int32.ofNat k), .int 0] (MW (Int32.ofNat n) (Int32.ofNat vs) wo un h bo ta tr ro ot Bm bk) (some (.long 0)) (MW (Int32.ofNat n) (Int32.ofNat vs) (dtM (TnM n Bm 0 2)) un2 h bo2 ta2 tr2 ro2 ot Bm bk) := by
  obtain ⟨tt, ett⟩ : ∃ z, z = (TnM n Bm 0 2) := ⟨_, rfl⟩
  obtain ⟨dt, edt⟩ : ∃ z, z = dtM tt := ⟨_, rfl⟩
  rw [← ett, ← edt] at h0
  rw [← ett, ← edt]
  refine ⟨un, (boX 0 2), tt, tt, ro, ?_⟩
  refine PX3_mixed (Nat.le_of_ble_eq_true rfl) ?_
  intro G hT hC hR
  refine mB hT 39 rfl ?_
  refine mNf (lv2 := [(5, .int 2), (0, .ref 0), (1, .int 2), (2, .int (Int32.ofNat b)), (3, .int (Int32.ofNat k)), (4, .int 0)]) (st2 := []) rfl rfl ?_
  refine mWd (w2 := (MW (Int32.ofNat n) (Int32.ofNat vs) wo un h (up (up (up bo 0 2) 1 2) 2 2) ta tr ro ot Bm bk)) rfl ?_
  refine mB hT 19 rfl ?_
  refine mNf (lv2 := [(5, .int 4), (0, .ref 0), (1, .int 2), (2, .int (Int32.ofNat b)), (3, .int (Int32.ofNat k)), (4, .int 0)]) (st2 := [.ref 0]) rfl rfl ?_
  refine mWd (w2 := (MW (Int32.ofNat n) (Int32.ofNat vs) wo un h (up (up (up (up bo 0 2) 1 2) 2 2) 3 2) ta tr ro ot Bm bk)) rfl ?_
  refine mWd (w2 := (MW (Int32.ofNat n) (Int32.ofNat vs) wo un h (boX 0 2) ta tr ro ot Bm bk)) rfl ?_
  refine hC.1 _ 0 [] _ _ _ _ _ (show KX3_lay l D ca ad _ _ none (MW (Int32.ofNat n) (Int32.ofNat vs) dt un h (boX 0 2) tt tt ro ot Bm bk) from (by rw [edt, ett]; exact m_lay_0_2 hn)) rfl rfl (Nat.le_of_ble_eq_true rfl) rfl ?_
  refine mB hT 5 rfl ?_
  refine mIf (fun _ => ?_) (fun hn => absurd (lc_eq.mpr h0) hn)
  refine mB hT 1 rfl ?_
  exact hR _ (by decide) _ _ _ rfl rfl
set_option maxRecDepth 20000 in
theorem m_mixed1_2_0 {n vs : Nat} {wo un h : Int64} {bo : Nat → Int32} {ta tr ro ot : Nat → Int64} {Bm : Nat → Nat → Nat → Int32} {bk : Nat → Nat → Int32} (hn : n ≤ 4) {b : Nat} (hb : b < 4) {k : Nat} (hk : k < 3) (h0 : ¬ dtM (TnM n Bm 0 2) = 0) : ∃ (un2 : Int64) (bo2 : Nat → Int32) (ta2 tr2 ro2 : Nat → Int64), KX3_mixed l D ca ad [.ref 0, .int 2, .int (Int32.ofNat b), .int (Int32.ofNat k), .int 0] (MW (Int32.ofNat n) (Int32.ofNat vs) wo un h bo ta tr ro ot Bm bk) (some (.long (thM (smG n (fun i s => emM (Bm (bkM 0 2 i) i) k s) (rdM n (TnM n Bm 0 2) (dtM (TnM n Bm 0 2)) (fun j => (bk b j).toInt64)) 1) (absX (dtM (TnM n Bm 0 2)))))) (MW (Int32.ofNat n) (Int32.ofNat vs) (dtM (TnM n Bm 0 2)) un2 h bo2 ta2 tr2 ro2 ot Bm bk) := by
  obtain ⟨tt, ett⟩ : ∃ z, z = (TnM n Bm 0 2) := ⟨_, rfl⟩
  obtain ⟨dt, edt⟩ : ∃ z, z = dtM tt := ⟨_, rfl⟩
  rw [← ett, ← edt] at h0
  obtain ⟨rr, err⟩ : ∃ z, z = rdM n tt dt (fun j => (bk b j).toInt64) := ⟨_, rfl⟩
  obtain ⟨ts, ets⟩ : ∃ z, z = tsM n tt 3 (fun j => (bk b j).toInt64) := ⟨_, rfl⟩
  obtain ⟨sm, esm⟩ : ∃ z, z = smG n (fun i s => emM (Bm (bkM 0 2 i) i) k s) rr 1 := ⟨_, rfl⟩
  rw [← ett, ← edt, ← err, ← esm]
  refine ⟨absX dt, (boX 0 2), tt, ts, rr, ?_⟩
  refine PX3_mixed (Nat.le_of_ble_eq_true rfl) ?_
  intro G hT hC hR
  refine mB hT 39 rfl ?_
  refine mNf (lv2 := [(5, .int 2), (0, .ref 0), (1, .int 2), (2, .int (Int32.ofNat b)), (3, .int (Int32.ofNat k)), (4, .int 0)]) (st2 := []) rfl rfl ?_
  refine mWd (w2 := (MW (Int32.ofNat n) (Int32.ofNat vs) wo un h (up (up (up bo 0 2) 1 2) 2 2) ta tr ro ot Bm bk)) rfl ?_
  refine mB hT 19 rfl ?_
  refine mNf (lv2 := [(5, .int 4), (0, .ref 0), (1, .int 2), (2, .int (Int32.ofNat b)), (3, .int (Int32.ofNat k)), (4, .int 0)]) (st2 := [.ref 0]) rfl rfl ?_
  refine mWd (w2 := (MW (Int32.ofNat n) (Int32.ofNat vs) wo un h (up (up (up (up bo 0 2) 1 2) 2 2) 3 2) ta tr ro ot Bm bk)) rfl ?_
  refine mWd (w2 := (MW (Int32.ofNat n) (Int32.ofNat vs) wo un h (boX 0 2) ta tr ro ot Bm bk)) rfl ?_
  refine hC.1 _ 0 [] _ _ _ _ _ (show KX3_lay l D ca ad _ _ none (MW (Int32.ofNat n) (Int32.ofNat vs) dt un h (boX 0 2) tt tt ro ot Bm bk) from (by rw [edt, ett]; exact m_lay_0_2 hn)) rfl rfl (Nat.le_of_ble_eq_true rfl) rfl ?_
  refine mB hT 5 rfl ?_
  refine mIf (fun hp => absurd hp (fun q => h0 (lc_eq.mp q))) (fun _ => ?_)
  refine mB hT 2 rfl ?_
  refine hC.2.1 _ 0 [_] _ _ _ _ _ (show KX3_solve l D ca ad _ _ none (MW (Int32.ofNat n) (Int32.ofNat vs) dt (absX dt) h (boX 0 2) tt ts rr ot Bm bk) from (by rw [err, ets]; exact m_solve hn hb)) rfl rfl (Nat.le_of_ble_eq_true rfl) rfl ?_
  refine mB hT 3 rfl ?_
  refine hC.2.2.1 _ 0 [_, _] _ _ _ _ _ (show KX3_sum l D ca ad _ _ (some (.long sm)) _ from (by rw [esm]; exact m_sum_0_2 hn k 1 hk (by decide))) rfl rfl (Nat.le_of_ble_eq_true rfl) rfl ?_
  refine mB hT 2 rfl ?_
  refine hC.2.2.2 _ [_, _] _ _ _ _ (m_th (absX_ne h0)) rfl (Nat.le_of_ble_eq_true rfl) rfl ?_
  exact hR _ (by decide) _ _ _ rfl rfl
set_option maxRecDepth 20000 in
theorem m_mixed0_2_1 {n vs : Nat} {wo un h : Int64} {bo : Nat → Int32} {ta tr ro ot : Nat → Int64} {Bm : Nat → Nat → Nat → Int32} {bk : Nat → Nat → Int32} (hn : n ≤ 4) {b : Nat} (hb : b < 4) {k : Nat} (hk : k < 3) (h0 : dtM (TnM n Bm 1 2) = 0) : ∃ (un2 : Int64) (bo2 : Nat → Int32) (ta2 tr2 ro2 : Nat → Int64), KX3_mixed l D ca ad [.ref 0, .int 2, .int (Int32.ofNat b), .int (Int32.ofNat k), .int 1] (MW (Int32.ofNat n) (Int32.ofNat vs) wo un h bo ta tr ro ot Bm bk) (some (.long 0)) (MW (Int32.ofNat n) (Int32.ofNat vs) (dtM (TnM n Bm 1 2)) un2 h bo2 ta2 tr2 ro2 ot Bm bk) := by
  obtain ⟨tt, ett⟩ : ∃ z, z = (TnM n Bm 1 2) := ⟨_, rfl⟩
  obtain ⟨dt, edt⟩ : ∃ z, z = dtM tt := ⟨_, rfl⟩
  rw [← ett, ← edt] at h0
  rw [← ett, ← edt]
  refine ⟨un, (boX 1 2), tt, tt, ro, ?_⟩
  refine PX3_mixed (Nat.le_of_ble_eq_true rfl) ?_
  intro G hT hC hR
  refine mB hT 40 rfl ?_
  refine mNf (lv2 := [(5, .int 2), (0, .ref 0), (1, .int 2), (2, .int (Int32.ofNat b)), (3, .int (Int32.ofNat k)), (4, .int 1)]) (st2 := []) rfl rfl ?_
  refine mWd (w2 := (MW (Int32.ofNat n) (Int32.ofNat vs) wo un h (up (up (up bo 0 6) 1 2) 2 2) ta tr ro ot Bm bk)) rfl ?_
  refine mB hT 19 rfl ?_
  refine mNf (lv2 := [(5, .int 4), (0, .ref 0), (1, .int 2), (2, .int (Int32.ofNat b)), (3, .int (Int32.ofNat k)), (4, .int 1)]) (st2 := [.ref 0]) rfl rfl ?_
  refine mWd (w2 := (MW (Int32.ofNat n) (Int32.ofNat vs) wo un h (up (up (up (up bo 0 6) 1 2) 2 2) 3 2) ta tr ro ot Bm bk)) rfl ?_
  refine mWd (w2 := (MW (Int32.ofNat n) (Int32.ofNat vs) wo un h (boX 1 2) ta tr ro ot Bm bk)) rfl ?_
  refine hC.1 _ 0 [] _ _ _ _ _ (show KX3_lay l D ca ad _ _ none (MW (Int32.ofNat n) (Int32.ofNat vs) dt un h (boX 1 2) tt tt ro ot Bm bk) from (by rw [edt, ett]; exact m_lay_1_2 hn)) rfl rfl (Nat.le_of_ble_eq_true rfl) rfl ?_
  refine mB hT 5 rfl ?_
  refine mIf (fun _ => ?_) (fun hn => absurd (lc_eq.mpr h0) hn)
  refine mB hT 1 rfl ?_
  exact hR _ (by decide) _ _ _ rfl rfl
set_option maxRecDepth 20000 in
theorem m_mixed1_2_1 {n vs : Nat} {wo un h : Int64} {bo : Nat → Int32} {ta tr ro ot : Nat → Int64} {Bm : Nat → Nat → Nat → Int32} {bk : Nat → Nat → Int32} (hn : n ≤ 4) {b : Nat} (hb : b < 4) {k : Nat} (hk : k < 3) (h0 : ¬ dtM (TnM n Bm 1 2) = 0) : ∃ (un2 : Int64) (bo2 : Nat → Int32) (ta2 tr2 ro2 : Nat → Int64), KX3_mixed l D ca ad [.ref 0, .int 2, .int (Int32.ofNat b), .int (Int32.ofNat k), .int 1] (MW (Int32.ofNat n) (Int32.ofNat vs) wo un h bo ta tr ro ot Bm bk) (some (.long (thM (smG n (fun i s => emM (Bm (bkM 1 2 i) i) k s) (rdM n (TnM n Bm 1 2) (dtM (TnM n Bm 1 2)) (fun j => (bk b j).toInt64)) 1) (absX (dtM (TnM n Bm 1 2)))))) (MW (Int32.ofNat n) (Int32.ofNat vs) (dtM (TnM n Bm 1 2)) un2 h bo2 ta2 tr2 ro2 ot Bm bk) := by
  obtain ⟨tt, ett⟩ : ∃ z, z = (TnM n Bm 1 2) := ⟨_, rfl⟩
  obtain ⟨dt, edt⟩ : ∃ z, z = dtM tt := ⟨_, rfl⟩
  rw [← ett, ← edt] at h0
  obtain ⟨rr, err⟩ : ∃ z, z = rdM n tt dt (fun j => (bk b j).toInt64) := ⟨_, rfl⟩
  obtain ⟨ts, ets⟩ : ∃ z, z = tsM n tt 3 (fun j => (bk b j).toInt64) := ⟨_, rfl⟩
  obtain ⟨sm, esm⟩ : ∃ z, z = smG n (fun i s => emM (Bm (bkM 1 2 i) i) k s) rr 1 := ⟨_, rfl⟩
  rw [← ett, ← edt, ← err, ← esm]
  refine ⟨absX dt, (boX 1 2), tt, ts, rr, ?_⟩
  refine PX3_mixed (Nat.le_of_ble_eq_true rfl) ?_
  intro G hT hC hR
  refine mB hT 40 rfl ?_
  refine mNf (lv2 := [(5, .int 2), (0, .ref 0), (1, .int 2), (2, .int (Int32.ofNat b)), (3, .int (Int32.ofNat k)), (4, .int 1)]) (st2 := []) rfl rfl ?_
  refine mWd (w2 := (MW (Int32.ofNat n) (Int32.ofNat vs) wo un h (up (up (up bo 0 6) 1 2) 2 2) ta tr ro ot Bm bk)) rfl ?_
  refine mB hT 19 rfl ?_
  refine mNf (lv2 := [(5, .int 4), (0, .ref 0), (1, .int 2), (2, .int (Int32.ofNat b)), (3, .int (Int32.ofNat k)), (4, .int 1)]) (st2 := [.ref 0]) rfl rfl ?_
  refine mWd (w2 := (MW (Int32.ofNat n) (Int32.ofNat vs) wo un h (up (up (up (up bo 0 6) 1 2) 2 2) 3 2) ta tr ro ot Bm bk)) rfl ?_
  refine mWd (w2 := (MW (Int32.ofNat n) (Int32.ofNat vs) wo un h (boX 1 2) ta tr ro ot Bm bk)) rfl ?_
  refine hC.1 _ 0 [] _ _ _ _ _ (show KX3_lay l D ca ad _ _ none (MW (Int32.ofNat n) (Int32.ofNat vs) dt un h (boX 1 2) tt tt ro ot Bm bk) from (by rw [edt, ett]; exact m_lay_1_2 hn)) rfl rfl (Nat.le_of_ble_eq_true rfl) rfl ?_
  refine mB hT 5 rfl ?_
  refine mIf (fun hp => absurd hp (fun q => h0 (lc_eq.mp q))) (fun _ => ?_)
  refine mB hT 2 rfl ?_
  refine hC.2.1 _ 0 [_] _ _ _ _ _ (show KX3_solve l D ca ad _ _ none (MW (Int32.ofNat n) (Int32.ofNat vs) dt (absX dt) h (boX 1 2) tt ts rr ot Bm bk) from (by rw [err, ets]; exact m_solve hn hb)) rfl rfl (Nat.le_of_ble_eq_true rfl) rfl ?_
  refine mB hT 3 rfl ?_
  refine hC.2.2.1 _ 0 [_, _] _ _ _ _ _ (show KX3_sum l D ca ad _ _ (some (.long sm)) _ from (by rw [esm]; exact m_sum_1_2 hn k 1 hk (by decide))) rfl rfl (Nat.le_of_ble_eq_true rfl) rfl ?_
  refine mB hT 2 rfl ?_
  refine hC.2.2.2 _ [_, _] _ _ _ _ (m_th (absX_ne h0)) rfl (Nat.le_of_ble_eq_true rfl) rfl ?_
  exact hR _ (by decide) _ _ _ rfl rfl
set_option maxRecDepth 20000 in
theorem m_mixed0_2_2 {n vs : Nat} {wo un h : Int64} {bo : Nat → Int32} {ta tr ro ot : Nat → Int64} {Bm : Nat → Nat → Nat → Int32} {bk : Nat → Nat → Int32} (hn : n ≤ 4) {b : Nat} (hb : b < 4) {k : Nat} (hk : k < 3) (h0 : dtM (TnM n Bm 2 2) = 0) : ∃ (un2 : Int64) (bo2 : Nat → Int32) (ta2 tr2 ro2 : Nat → Int64), KX3_mixed l D ca ad [.ref 0, .int 2, .int (Int32.ofNat b), .int (Int32.ofNat k), .int 2] (MW (Int32.ofNat n) (Int32.ofNat vs) wo un h bo ta tr ro ot Bm bk) (some (.long 0)) (MW (Int32.ofNat n) (Int32.ofNat vs) (dtM (TnM n Bm 2 2)) un2 h bo2 ta2 tr2 ro2 ot Bm bk) := by
  obtain ⟨tt, ett⟩ : ∃ z, z = (TnM n Bm 2 2) := ⟨_, rfl⟩
  obtain ⟨dt, edt⟩ : ∃ z, z = dtM tt := ⟨_, rfl⟩
  rw [← ett, ← edt] at h0
  rw [← ett, ← edt]
  refine ⟨un, (boX 2 2), tt, tt, ro, ?_⟩
  refine PX3_mixed (Nat.le_of_ble_eq_true rfl) ?_
  intro G hT hC hR
  refine mB hT 40 rfl ?_
  refine mNf (lv2 := [(5, .int 2), (0, .ref 0), (1, .int 2), (2, .int (Int32.ofNat b)), (3, .int (Int32.ofNat k)), (4, .int 2)]) (st2 := [.int 2, .int 2, .ref 9]) rfl rfl ?_
  refine mB hT 1 rfl ?_
  refine mWd (w2 := (MW (Int32.ofNat n) (Int32.ofNat vs) wo un h (up (up (up bo 0 6) 1 6) 2 2) ta tr ro ot Bm bk)) rfl ?_
  refine mB hT 19 rfl ?_
  refine mNf (lv2 := [(5, .int 4), (0, .ref 0), (1, .int 2), (2, .int (Int32.ofNat b)), (3, .int (Int32.ofNat k)), (4, .int 2)]) (st2 := [.ref 0]) rfl rfl ?_
  refine mWd (w2 := (MW (Int32.ofNat n) (Int32.ofNat vs) wo un h (up (up (up (up bo 0 6) 1 6) 2 2) 3 2) ta tr ro ot Bm bk)) rfl ?_
  refine mWd (w2 := (MW (Int32.ofNat n) (Int32.ofNat vs) wo un h (boX 2 2) ta tr ro ot Bm bk)) rfl ?_
  refine hC.1 _ 0 [] _ _ _ _ _ (show KX3_lay l D ca ad _ _ none (MW (Int32.ofNat n) (Int32.ofNat vs) dt un h (boX 2 2) tt tt ro ot Bm bk) from (by rw [edt, ett]; exact m_lay_2_2 hn)) rfl rfl (Nat.le_of_ble_eq_true rfl) rfl ?_
  refine mB hT 5 rfl ?_
  refine mIf (fun _ => ?_) (fun hn => absurd (lc_eq.mpr h0) hn)
  refine mB hT 1 rfl ?_
  exact hR _ (by decide) _ _ _ rfl rfl
set_option maxRecDepth 20000 in
theorem m_mixed1_2_2 {n vs : Nat} {wo un h : Int64} {bo : Nat → Int32} {ta tr ro ot : Nat → Int64} {Bm : Nat → Nat → Nat → Int32} {bk : Nat → Nat → Int32} (hn : n ≤ 4) {b : Nat} (hb : b < 4) {k : Nat} (hk : k < 3) (h0 : ¬ dtM (TnM n Bm 2 2) = 0) : ∃ (un2 : Int64) (bo2 : Nat → Int32) (ta2 tr2 ro2 : Nat → Int64), KX3_mixed l D ca ad [.ref 0, .int 2, .int (Int32.ofNat b), .int (Int32.ofNat k), .int 2] (MW (Int32.ofNat n) (Int32.ofNat vs) wo un h bo ta tr ro ot Bm bk) (some (.long (thM (smG n (fun i s => emM (Bm (bkM 2 2 i) i) k s) (rdM n (TnM n Bm 2 2) (dtM (TnM n Bm 2 2)) (fun j => (bk b j).toInt64)) 1) (absX (dtM (TnM n Bm 2 2)))))) (MW (Int32.ofNat n) (Int32.ofNat vs) (dtM (TnM n Bm 2 2)) un2 h bo2 ta2 tr2 ro2 ot Bm bk) := by
  obtain ⟨tt, ett⟩ : ∃ z, z = (TnM n Bm 2 2) := ⟨_, rfl⟩
  obtain ⟨dt, edt⟩ : ∃ z, z = dtM tt := ⟨_, rfl⟩
  rw [← ett, ← edt] at h0
  obtain ⟨rr, err⟩ : ∃ z, z = rdM n tt dt (fun j => (bk b j).toInt64) := ⟨_, rfl⟩
  obtain ⟨ts, ets⟩ : ∃ z, z = tsM n tt 3 (fun j => (bk b j).toInt64) := ⟨_, rfl⟩
  obtain ⟨sm, esm⟩ : ∃ z, z = smG n (fun i s => emM (Bm (bkM 2 2 i) i) k s) rr 1 := ⟨_, rfl⟩
  rw [← ett, ← edt, ← err, ← esm]
  refine ⟨absX dt, (boX 2 2), tt, ts, rr, ?_⟩
  refine PX3_mixed (Nat.le_of_ble_eq_true rfl) ?_
  intro G hT hC hR
  refine mB hT 40 rfl ?_
  refine mNf (lv2 := [(5, .int 2), (0, .ref 0), (1, .int 2), (2, .int (Int32.ofNat b)), (3, .int (Int32.ofNat k)), (4, .int 2)]) (st2 := [.int 2, .int 2, .ref 9]) rfl rfl ?_
  refine mB hT 1 rfl ?_
  refine mWd (w2 := (MW (Int32.ofNat n) (Int32.ofNat vs) wo un h (up (up (up bo 0 6) 1 6) 2 2) ta tr ro ot Bm bk)) rfl ?_
  refine mB hT 19 rfl ?_
  refine mNf (lv2 := [(5, .int 4), (0, .ref 0), (1, .int 2), (2, .int (Int32.ofNat b)), (3, .int (Int32.ofNat k)), (4, .int 2)]) (st2 := [.ref 0]) rfl rfl ?_
  refine mWd (w2 := (MW (Int32.ofNat n) (Int32.ofNat vs) wo un h (up (up (up (up bo 0 6) 1 6) 2 2) 3 2) ta tr ro ot Bm bk)) rfl ?_
  refine mWd (w2 := (MW (Int32.ofNat n) (Int32.ofNat vs) wo un h (boX 2 2) ta tr ro ot Bm bk)) rfl ?_
  refine hC.1 _ 0 [] _ _ _ _ _ (show KX3_lay l D ca ad _ _ none (MW (Int32.ofNat n) (Int32.ofNat vs) dt un h (boX 2 2) tt tt ro ot Bm bk) from (by rw [edt, ett]; exact m_lay_2_2 hn)) rfl rfl (Nat.le_of_ble_eq_true rfl) rfl ?_
  refine mB hT 5 rfl ?_
  refine mIf (fun hp => absurd hp (fun q => h0 (lc_eq.mp q))) (fun _ => ?_)
  refine mB hT 2 rfl ?_
  refine hC.2.1 _ 0 [_] _ _ _ _ _ (show KX3_solve l D ca ad _ _ none (MW (Int32.ofNat n) (Int32.ofNat vs) dt (absX dt) h (boX 2 2) tt ts rr ot Bm bk) from (by rw [err, ets]; exact m_solve hn hb)) rfl rfl (Nat.le_of_ble_eq_true rfl) rfl ?_
  refine mB hT 3 rfl ?_
  refine hC.2.2.1 _ 0 [_, _] _ _ _ _ _ (show KX3_sum l D ca ad _ _ (some (.long sm)) _ from (by rw [esm]; exact m_sum_2_2 hn k 1 hk (by decide))) rfl rfl (Nat.le_of_ble_eq_true rfl) rfl ?_
  refine mB hT 2 rfl ?_
  refine hC.2.2.2 _ [_, _] _ _ _ _ (m_th (absX_ne h0)) rfl (Nat.le_of_ble_eq_true rfl) rfl ?_
  exact hR _ (by decide) _ _ _ rfl rfl
set_option maxRecDepth 20000 in
theorem m_mixed0_2_3 {n vs : Nat} {wo un h : Int64} {bo : Nat → Int32} {ta tr ro ot : Nat → Int64} {Bm : Nat → Nat → Nat → Int32} {bk : Nat → Nat → Int32} (hn : n ≤ 4) {b : Nat} (hb : b < 4) {k : Nat} (hk : k < 3) (h0 : dtM (TnM n Bm 3 2) = 0) : ∃ (un2 : Int64) (bo2 : Nat → Int32) (ta2 tr2 ro2 : Nat → Int64), KX3_mixed l D ca ad [.ref 0, .int 2, .int (Int32.ofNat b), .int (Int32.ofNat k), .int 3] (MW (Int32.ofNat n) (Int32.ofNat vs) wo un h bo ta tr ro ot Bm bk) (some (.long 0)) (MW (Int32.ofNat n) (Int32.ofNat vs) (dtM (TnM n Bm 3 2)) un2 h bo2 ta2 tr2 ro2 ot Bm bk) := by
  obtain ⟨tt, ett⟩ : ∃ z, z = (TnM n Bm 3 2) := ⟨_, rfl⟩
  obtain ⟨dt, edt⟩ : ∃ z, z = dtM tt := ⟨_, rfl⟩
  rw [← ett, ← edt] at h0
  rw [← ett, ← edt]
  refine ⟨un, (boX 3 2), tt, tt, ro, ?_⟩
  refine PX3_mixed (Nat.le_of_ble_eq_true rfl) ?_
  intro G hT hC hR
  refine mB hT 40 rfl ?_
  refine mNf (lv2 := [(5, .int 2), (0, .ref 0), (1, .int 2), (2, .int (Int32.ofNat b)), (3, .int (Int32.ofNat k)), (4, .int 3)]) (st2 := [.int 6, .int 2, .ref 9]) rfl rfl ?_
  refine mB hT 2 rfl ?_
  refine mWd (w2 := (MW (Int32.ofNat n) (Int32.ofNat vs) wo un h (up (up (up bo 0 6) 1 6) 2 6) ta tr ro ot Bm bk)) rfl ?_
  refine mB hT 19 rfl ?_
  refine mNf (lv2 := [(5, .int 4), (0, .ref 0), (1, .int 2), (2, .int (Int32.ofNat b)), (3, .int (Int32.ofNat k)), (4, .int 3)]) (st2 := [.ref 0]) rfl rfl ?_
  refine mWd (w2 := (MW (Int32.ofNat n) (Int32.ofNat vs) wo un h (up (up (up (up bo 0 6) 1 6) 2 6) 3 2) ta tr ro ot Bm bk)) rfl ?_
  refine mWd (w2 := (MW (Int32.ofNat n) (Int32.ofNat vs) wo un h (boX 3 2) ta tr ro ot Bm bk)) rfl ?_
  refine hC.1 _ 0 [] _ _ _ _ _ (show KX3_lay l D ca ad _ _ none (MW (Int32.ofNat n) (Int32.ofNat vs) dt un h (boX 3 2) tt tt ro ot Bm bk) from (by rw [edt, ett]; exact m_lay_3_2 hn)) rfl rfl (Nat.le_of_ble_eq_true rfl) rfl ?_
  refine mB hT 5 rfl ?_
  refine mIf (fun _ => ?_) (fun hn => absurd (lc_eq.mpr h0) hn)
  refine mB hT 1 rfl ?_
  exact hR _ (by decide) _ _ _ rfl rfl
set_option maxRecDepth 20000 in
theorem m_mixed1_2_3 {n vs : Nat} {wo un h : Int64} {bo : Nat → Int32} {ta tr ro ot : Nat → Int64} {Bm : Nat → Nat → Nat → Int32} {bk : Nat → Nat → Int32} (hn : n ≤ 4) {b : Nat} (hb : b < 4) {k : Nat} (hk : k < 3) (h0 : ¬ dtM (TnM n Bm 3 2) = 0) : ∃ (un2 : Int64) (bo2 : Nat → Int32) (ta2 tr2 ro2 : Nat → Int64), KX3_mixed l D ca ad [.ref 0, .int 2, .int (Int32.ofNat b), .int (Int32.ofNat k), .int 3] (MW (Int32.ofNat n) (Int32.ofNat vs) wo un h bo ta tr ro ot Bm bk) (some (.long (thM (smG n (fun i s => emM (Bm (bkM 3 2 i) i) k s) (rdM n (TnM n Bm 3 2) (dtM (TnM n Bm 3 2)) (fun j => (bk b j).toInt64)) 1) (absX (dtM (TnM n Bm 3 2)))))) (MW (Int32.ofNat n) (Int32.ofNat vs) (dtM (TnM n Bm 3 2)) un2 h bo2 ta2 tr2 ro2 ot Bm bk) := by
  obtain ⟨tt, ett⟩ : ∃ z, z = (TnM n Bm 3 2) := ⟨_, rfl⟩
  obtain ⟨dt, edt⟩ : ∃ z, z = dtM tt := ⟨_, rfl⟩
  rw [← ett, ← edt] at h0
  obtain ⟨rr, err⟩ : ∃ z, z = rdM n tt dt (fun j => (bk b j).toInt64) := ⟨_, rfl⟩
  obtain ⟨ts, ets⟩ : ∃ z, z = tsM n tt 3 (fun j => (bk b j).toInt64) := ⟨_, rfl⟩
  obtain ⟨sm, esm⟩ : ∃ z, z = smG n (fun i s => emM (Bm (bkM 3 2 i) i) k s) rr 1 := ⟨_, rfl⟩
  rw [← ett, ← edt, ← err, ← esm]
  refine ⟨absX dt, (boX 3 2), tt, ts, rr, ?_⟩
  refine PX3_mixed (Nat.le_of_ble_eq_true rfl) ?_
  intro G hT hC hR
  refine mB hT 40 rfl ?_
  refine mNf (lv2 := [(5, .int 2), (0, .ref 0), (1, .int 2), (2, .int (Int32.ofNat b)), (3, .int (Int32.ofNat k)), (4, .int 3)]) (st2 := [.int 6, .int 2, .ref 9]) rfl rfl ?_
  refine mB hT 2 rfl ?_
  refine mWd (w2 := (MW (Int32.ofNat n) (Int32.ofNat vs) wo un h (up (up (up bo 0 6) 1 6) 2 6) ta tr ro ot Bm bk)) rfl ?_
  refine mB hT 19 rfl ?_
  refine mNf (lv2 := [(5, .int 4), (0, .ref 0), (1, .int 2), (2, .int (Int32.ofNat b)), (3, .int (Int32.ofNat k)), (4, .int 3)]) (st2 := [.ref 0]) rfl rfl ?_
  refine mWd (w2 := (MW (Int32.ofNat n) (Int32.ofNat vs) wo un h (up (up (up (up bo 0 6) 1 6) 2 6) 3 2) ta tr ro ot Bm bk)) rfl ?_
  refine mWd (w2 := (MW (Int32.ofNat n) (Int32.ofNat vs) wo un h (boX 3 2) ta tr ro ot Bm bk)) rfl ?_
  refine hC.1 _ 0 [] _ _ _ _ _ (show KX3_lay l D ca ad _ _ none (MW (Int32.ofNat n) (Int32.ofNat vs) dt un h (boX 3 2) tt tt ro ot Bm bk) from (by rw [edt, ett]; exact m_lay_3_2 hn)) rfl rfl (Nat.le_of_ble_eq_true rfl) rfl ?_
  refine mB hT 5 rfl ?_
  refine mIf (fun hp => absurd hp (fun q => h0 (lc_eq.mp q))) (fun _ => ?_)
  refine mB hT 2 rfl ?_
  refine hC.2.1 _ 0 [_] _ _ _ _ _ (show KX3_solve l D ca ad _ _ none (MW (Int32.ofNat n) (Int32.ofNat vs) dt (absX dt) h (boX 3 2) tt ts rr ot Bm bk) from (by rw [err, ets]; exact m_solve hn hb)) rfl rfl (Nat.le_of_ble_eq_true rfl) rfl ?_
  refine mB hT 3 rfl ?_
  refine hC.2.2.1 _ 0 [_, _] _ _ _ _ _ (show KX3_sum l D ca ad _ _ (some (.long sm)) _ from (by rw [esm]; exact m_sum_3_2 hn k 1 hk (by decide))) rfl rfl (Nat.le_of_ble_eq_true rfl) rfl ?_
  refine mB hT 2 rfl ?_
  refine hC.2.2.2 _ [_, _] _ _ _ _ (m_th (absX_ne h0)) rfl (Nat.le_of_ble_eq_true rfl) rfl ?_
  exact hR _ (by decide) _ _ _ rfl rfl
set_option maxRecDepth 20000 in
theorem m_mixed0_2_4 {n vs : Nat} {wo un h : Int64} {bo : Nat → Int32} {ta tr ro ot : Nat → Int64} {Bm : Nat → Nat → Nat → Int32} {bk : Nat → Nat → Int32} (hn : n ≤ 4) {b : Nat} (hb : b < 4) {k : Nat} (hk : k < 3) (h0 : dtM (TnM n Bm 4 0) = 0) : ∃ (un2 : Int64) (bo2 : Nat → Int32) (ta2 tr2 ro2 : Nat → Int64), KX3_mixed l D ca ad [.ref 0, .int 2, .int (Int32.ofNat b), .int (Int32.ofNat k), .int 4] (MW (Int32.ofNat n) (Int32.ofNat vs) wo un h bo ta tr ro ot Bm bk) (some (.long 0)) (MW (Int32.ofNat n) (Int32.ofNat vs) (dtM (TnM n Bm 4 0)) un2 h bo2 ta2 tr2 ro2 ot Bm bk) := by
  obtain ⟨tt, ett⟩ : ∃ z, z = (TnM n Bm 4 0) := ⟨_, rfl⟩
  obtain ⟨dt, edt⟩ : ∃ z, z = dtM tt := ⟨_, rfl⟩
  rw [← ett, ← edt] at h0
  rw [← ett, ← edt]
  refine ⟨un, (boX 4 0), tt, tt, ro, ?_⟩
  refine PX3_mixed (Nat.le_of_ble_eq_true rfl) ?_
  intro G hT hC hR
  refine mB hT 40 rfl ?_
  refine mNf (lv2 := [(5, .int 2), (0, .ref 0), (1, .int 2), (2, .int (Int32.ofNat b)), (3, .int (Int32.ofNat k)), (4, .int 4)]) (st2 := [.int 6, .int 2, .ref 9]) rfl rfl ?_
  refine mB hT 2 rfl ?_
  refine mWd (w2 := (MW (Int32.ofNat n) (Int32.ofNat vs) wo un h (up (up (up bo 0 6) 1 6) 2 6) ta tr ro ot Bm bk)) rfl ?_
  refine mB hT 20 rfl ?_
  refine mNf (lv2 := [(5, .int 4), (0, .ref 0), (1, .int 2), (2, .int (Int32.ofNat b)), (3, .int (Int32.ofNat k)), (4, .int 4)]) (st2 := [.ref 0]) rfl rfl ?_
  refine mWd (w2 := (MW (Int32.ofNat n) (Int32.ofNat vs) wo un h (up (up (up (up bo 0 6) 1 6) 2 6) 3 6) ta tr ro ot Bm bk)) rfl ?_
  refine mWd (w2 := (MW (Int32.ofNat n) (Int32.ofNat vs) wo un h (boX 4 0) ta tr ro ot Bm bk)) rfl ?_
  refine hC.1 _ 0 [] _ _ _ _ _ (show KX3_lay l D ca ad _ _ none (MW (Int32.ofNat n) (Int32.ofNat vs) dt un h (boX 4 0) tt tt ro ot Bm bk) from (by rw [edt, ett]; exact m_lay_4_0 hn)) rfl rfl (Nat.le_of_ble_eq_true rfl) rfl ?_
  refine mB hT 5 rfl ?_
  refine mIf (fun _ => ?_) (fun hn => absurd (lc_eq.mpr h0) hn)
  refine mB hT 1 rfl ?_
  exact hR _ (by decide) _ _ _ rfl rfl
set_option maxRecDepth 20000 in
theorem m_mixed1_2_4 {n vs : Nat} {wo un h : Int64} {bo : Nat → Int32} {ta tr ro ot : Nat → Int64} {Bm : Nat → Nat → Nat → Int32} {bk : Nat → Nat → Int32} (hn : n ≤ 4) {b : Nat} (hb : b < 4) {k : Nat} (hk : k < 3) (h0 : ¬ dtM (TnM n Bm 4 0) = 0) : ∃ (un2 : Int64) (bo2 : Nat → Int32) (ta2 tr2 ro2 : Nat → Int64), KX3_mixed l D ca ad [.ref 0, .int 2, .int (Int32.ofNat b), .int (Int32.ofNat k), .int 4] (MW (Int32.ofNat n) (Int32.ofNat vs) wo un h bo ta tr ro ot Bm bk) (some (.long (thM (smG n (fun i s => emM (Bm (bkM 4 0 i) i) k s) (rdM n (TnM n Bm 4 0) (dtM (TnM n Bm 4 0)) (fun j => (bk b j).toInt64)) 1) (absX (dtM (TnM n Bm 4 0)))))) (MW (Int32.ofNat n) (Int32.ofNat vs) (dtM (TnM n Bm 4 0)) un2 h bo2 ta2 tr2 ro2 ot Bm bk) := by
  obtain ⟨tt, ett⟩ : ∃ z, z = (TnM n Bm 4 0) := ⟨_, rfl⟩
  obtain ⟨dt, edt⟩ : ∃ z, z = dtM tt := ⟨_, rfl⟩
  rw [← ett, ← edt] at h0
  obtain ⟨rr, err⟩ : ∃ z, z = rdM n tt dt (fun j => (bk b j).toInt64) := ⟨_, rfl⟩
  obtain ⟨ts, ets⟩ : ∃ z, z = tsM n tt 3 (fun j => (bk b j).toInt64) := ⟨_, rfl⟩
  obtain ⟨sm, esm⟩ : ∃ z, z = smG n (fun i s => emM (Bm (bkM 4 0 i) i) k s) rr 1 := ⟨_, rfl⟩
  rw [← ett, ← edt, ← err, ← esm]
  refine ⟨absX dt, (boX 4 0), tt, ts, rr, ?_⟩
  refine PX3_mixed (Nat.le_of_ble_eq_true rfl) ?_
  intro G hT hC hR
  refine mB hT 40 rfl ?_
  refine mNf (lv2 := [(5, .int 2), (0, .ref 0), (1, .int 2), (2, .int (Int32.ofNat b)), (3, .int (Int32.ofNat k)), (4, .int 4)]) (st2 := [.int 6, .int 2, .ref 9]) rfl rfl ?_
  refine mB hT 2 rfl ?_
  refine mWd (w2 := (MW (Int32.ofNat n) (Int32.ofNat vs) wo un h (up (up (up bo 0 6) 1 6) 2 6) ta tr ro ot Bm bk)) rfl ?_
  refine mB hT 20 rfl ?_
  refine mNf (lv2 := [(5, .int 4), (0, .ref 0), (1, .int 2), (2, .int (Int32.ofNat b)), (3, .int (Int32.ofNat k)), (4, .int 4)]) (st2 := [.ref 0]) rfl rfl ?_
  refine mWd (w2 := (MW (Int32.ofNat n) (Int32.ofNat vs) wo un h (up (up (up (up bo 0 6) 1 6) 2 6) 3 6) ta tr ro ot Bm bk)) rfl ?_
  refine mWd (w2 := (MW (Int32.ofNat n) (Int32.ofNat vs) wo un h (boX 4 0) ta tr ro ot Bm bk)) rfl ?_
  refine hC.1 _ 0 [] _ _ _ _ _ (show KX3_lay l D ca ad _ _ none (MW (Int32.ofNat n) (Int32.ofNat vs) dt un h (boX 4 0) tt tt ro ot Bm bk) from (by rw [edt, ett]; exact m_lay_4_0 hn)) rfl rfl (Nat.le_of_ble_eq_true rfl) rfl ?_
  refine mB hT 5 rfl ?_
  refine mIf (fun hp => absurd hp (fun q => h0 (lc_eq.mp q))) (fun _ => ?_)
  refine mB hT 2 rfl ?_
  refine hC.2.1 _ 0 [_] _ _ _ _ _ (show KX3_solve l D ca ad _ _ none (MW (Int32.ofNat n) (Int32.ofNat vs) dt (absX dt) h (boX 4 0) tt ts rr ot Bm bk) from (by rw [err, ets]; exact m_solve hn hb)) rfl rfl (Nat.le_of_ble_eq_true rfl) rfl ?_
  refine mB hT 3 rfl ?_
  refine hC.2.2.1 _ 0 [_, _] _ _ _ _ _ (show KX3_sum l D ca ad _ _ (some (.long sm)) _ from (by rw [esm]; exact m_sum_4_0 hn k 1 hk (by decide))) rfl rfl (Nat.le_of_ble_eq_true rfl) rfl ?_
  refine mB hT 2 rfl ?_
  refine hC.2.2.2 _ [_, _] _ _ _ _ (m_th (absX_ne h0)) rfl (Nat.le_of_ble_eq_true rfl) rfl ?_
  exact hR _ (by decide) _ _ _ rfl rfl
set_option maxRecDepth 20000 in
theorem m_mixed0_3_0 {n vs : Nat} {wo un h : Int64} {bo : Nat → Int32} {ta tr ro ot : Nat → Int64} {Bm : Nat → Nat → Nat → Int32} {bk : Nat → Nat → Int32} (hn : n ≤ 4) {b : Nat} (hb : b < 4) {k : Nat} (hk : k < 3) (h0 : dtM (TnM n Bm 0 3) = 0) : ∃ (un2 : Int64) (bo2 : Nat → Int32) (ta2 tr2 ro2 : Nat → Int64), KX3_mixed l D ca ad [.ref 0, .int 3, .int (Int32.ofNat b), .int (Int32.ofNat k), .int 0] (MW (Int32.ofNat n) (Int32.ofNat vs) wo un h bo ta tr ro ot Bm bk) (some (.long 0)) (MW (Int32.ofNat n) (Int32.ofNat vs) (dtM (TnM n Bm 0 3)) un2 h bo2 ta2 tr2 ro2 ot Bm bk) := by
  obtain ⟨tt, ett⟩ : ∃ z, z = (TnM n Bm 0 3) := ⟨_, rfl⟩
  obtain ⟨dt, edt⟩ : ∃ z, z = dtM tt := ⟨_, rfl⟩
  rw [← ett, ← edt] at h0
  rw [← ett, ← edt]
  refine ⟨un, (boX 0 3), tt, tt, ro, ?_⟩
  refine PX3_mixed (Nat.le_of_ble_eq_true rfl) ?_
  intro G hT hC hR
  refine mB hT 39 rfl ?_
  refine mNf (lv2 := [(5, .int 2), (0, .ref 0), (1, .int 3), (2, .int (Int32.ofNat b)), (3, .int (Int32.ofNat k)), (4, .int 0)]) (st2 := []) rfl rfl ?_
  refine mWd (w2 := (MW (Int32.ofNat n) (Int32.ofNat vs) wo un h (up (up (up bo 0 3) 1 3) 2 3) ta tr ro ot Bm bk)) rfl ?_
  refine mB hT 19 rfl ?_
  refine mNf (lv2 := [(5, .int 4), (0, .ref 0), (1, .int 3), (2, .int (Int32.ofNat b)), (3, .int (Int32.ofNat k)), (4, .int 0)]) (st2 := [.ref 0]) rfl rfl ?_
  refine mWd (w2 := (MW (Int32.ofNat n) (Int32.ofNat vs) wo un h (up (up (up (up bo 0 3) 1 3) 2 3) 3 3) ta tr ro ot Bm bk)) rfl ?_
  refine mWd (w2 := (MW (Int32.ofNat n) (Int32.ofNat vs) wo un h (boX 0 3) ta tr ro ot Bm bk)) rfl ?_
  refine hC.1 _ 0 [] _ _ _ _ _ (show KX3_lay l D ca ad _ _ none (MW (Int32.ofNat n) (Int32.ofNat vs) dt un h (boX 0 3) tt tt ro ot Bm bk) from (by rw [edt, ett]; exact m_lay_0_3 hn)) rfl rfl (Nat.le_of_ble_eq_true rfl) rfl ?_
  refine mB hT 5 rfl ?_
  refine mIf (fun _ => ?_) (fun hn => absurd (lc_eq.mpr h0) hn)
  refine mB hT 1 rfl ?_
  exact hR _ (by decide) _ _ _ rfl rfl
set_option maxRecDepth 20000 in
theorem m_mixed1_3_0 {n vs : Nat} {wo un h : Int64} {bo : Nat → Int32} {ta tr ro ot : Nat → Int64} {Bm : Nat → Nat → Nat → Int32} {bk : Nat → Nat → Int32} (hn : n ≤ 4) {b : Nat} (hb : b < 4) {k : Nat} (hk : k < 3) (h0 : ¬ dtM (TnM n Bm 0 3) = 0) : ∃ (un2 : Int64) (bo2 : Nat → Int32) (ta2 tr2 ro2 : Nat → Int64), KX3_mixed l D ca ad [.ref 0, .int 3, .int (Int32.ofNat b), .int (Int32.ofNat k), .int 0] (MW (Int32.ofNat n) (Int32.ofNat vs) wo un h bo ta tr ro ot Bm bk) (some (.long (thM (smG n (fun i s => emM (Bm (bkM 0 3 i) i) k s) (rdM n (TnM n Bm 0 3) (dtM (TnM n Bm 0 3)) (fun j => (bk b j).toInt64)) 1) (absX (dtM (TnM n Bm 0 3)))))) (MW (Int32.ofNat n) (Int32.ofNat vs) (dtM (TnM n Bm 0 3)) un2 h bo2 ta2 tr2 ro2 ot Bm bk) := by
  obtain ⟨tt, ett⟩ : ∃ z, z = (TnM n Bm 0 3) := ⟨_, rfl⟩
  obtain ⟨dt, edt⟩ : ∃ z, z = dtM tt := ⟨_, rfl⟩
  rw [← ett, ← edt] at h0
  obtain ⟨rr, err⟩ : ∃ z, z = rdM n tt dt (fun j => (bk b j).toInt64) := ⟨_, rfl⟩
  obtain ⟨ts, ets⟩ : ∃ z, z = tsM n tt 3 (fun j => (bk b j).toInt64) := ⟨_, rfl⟩
  obtain ⟨sm, esm⟩ : ∃ z, z = smG n (fun i s => emM (Bm (bkM 0 3 i) i) k s) rr 1 := ⟨_, rfl⟩
  rw [← ett, ← edt, ← err, ← esm]
  refine ⟨absX dt, (boX 0 3), tt, ts, rr, ?_⟩
  refine PX3_mixed (Nat.le_of_ble_eq_true rfl) ?_
  intro G hT hC hR
  refine mB hT 39 rfl ?_
  refine mNf (lv2 := [(5, .int 2), (0, .ref 0), (1, .int 3), (2, .int (Int32.ofNat b)), (3, .int (Int32.ofNat k)), (4, .int 0)]) (st2 := []) rfl rfl ?_
  refine mWd (w2 := (MW (Int32.ofNat n) (Int32.ofNat vs) wo un h (up (up (up bo 0 3) 1 3) 2 3) ta tr ro ot Bm bk)) rfl ?_
  refine mB hT 19 rfl ?_
  refine mNf (lv2 := [(5, .int 4), (0, .ref 0), (1, .int 3), (2, .int (Int32.ofNat b)), (3, .int (Int32.ofNat k)), (4, .int 0)]) (st2 := [.ref 0]) rfl rfl ?_
  refine mWd (w2 := (MW (Int32.ofNat n) (Int32.ofNat vs) wo un h (up (up (up (up bo 0 3) 1 3) 2 3) 3 3) ta tr ro ot Bm bk)) rfl ?_
  refine mWd (w2 := (MW (Int32.ofNat n) (Int32.ofNat vs) wo un h (boX 0 3) ta tr ro ot Bm bk)) rfl ?_
  refine hC.1 _ 0 [] _ _ _ _ _ (show KX3_lay l D ca ad _ _ none (MW (Int32.ofNat n) (Int32.ofNat vs) dt un h (boX 0 3) tt tt ro ot Bm bk) from (by rw [edt, ett]; exact m_lay_0_3 hn)) rfl rfl (Nat.le_of_ble_eq_true rfl) rfl ?_
  refine mB hT 5 rfl ?_
  refine mIf (fun hp => absurd hp (fun q => h0 (lc_eq.mp q))) (fun _ => ?_)
  refine mB hT 2 rfl ?_
  refine hC.2.1 _ 0 [_] _ _ _ _ _ (show KX3_solve l D ca ad _ _ none (MW (Int32.ofNat n) (Int32.ofNat vs) dt (absX dt) h (boX 0 3) tt ts rr ot Bm bk) from (by rw [err, ets]; exact m_solve hn hb)) rfl rfl (Nat.le_of_ble_eq_true rfl) rfl ?_
  refine mB hT 3 rfl ?_
  refine hC.2.2.1 _ 0 [_, _] _ _ _ _ _ (show KX3_sum l D ca ad _ _ (some (.long sm)) _ from (by rw [esm]; exact m_sum_0_3 hn k 1 hk (by decide))) rfl rfl (Nat.le_of_ble_eq_true rfl) rfl ?_
  refine mB hT 2 rfl ?_
  refine hC.2.2.2 _ [_, _] _ _ _ _ (m_th (absX_ne h0)) rfl (Nat.le_of_ble_eq_true rfl) rfl ?_
  exact hR _ (by decide) _ _ _ rfl rfl
set_option maxRecDepth 20000 in
theorem m_mixed0_3_1 {n vs : Nat} {wo un h : Int64} {bo : Nat → Int32} {ta tr ro ot : Nat → Int64} {Bm : Nat → Nat → Nat → Int32} {bk : Nat → Nat → Int32} (hn : n ≤ 4) {b : Nat} (hb : b < 4) {k : Nat} (hk : k < 3) (h0 : dtM (TnM n Bm 1 3) = 0) : ∃ (un2 : Int64) (bo2 : Nat → Int32) (ta2 tr2 ro2 : Nat → Int64), KX3_mixed l D ca ad [.ref 0, .int 3, .int (Int32.ofNat b), .int (Int32.ofNat k), .int 1] (MW (Int32.ofNat n) (Int32.ofNat vs) wo un h bo ta tr ro ot Bm bk) (some (.long 0)) (MW (Int32.ofNat n) (Int32.ofNat vs) (dtM (TnM n Bm 1 3)) un2 h bo2 ta2 tr2 ro2 ot Bm bk) := by
  obtain ⟨tt, ett⟩ : ∃ z, z = (TnM n Bm 1 3) := ⟨_, rfl⟩
  obtain ⟨dt, edt⟩ : ∃ z, z = dtM tt := ⟨_, rfl⟩
  rw [← ett, ← edt] at h0
  rw [← ett, ← edt]
  refine ⟨un, (boX 1 3), tt, tt, ro, ?_⟩
  refine PX3_mixed (Nat.le_of_ble_eq_true rfl) ?_
  intro G hT hC hR
  refine mB hT 40 rfl ?_
  refine mNf (lv2 := [(5, .int 2), (0, .ref 0), (1, .int 3), (2, .int (Int32.ofNat b)), (3, .int (Int32.ofNat k)), (4, .int 1)]) (st2 := []) rfl rfl ?_
  refine mWd (w2 := (MW (Int32.ofNat n) (Int32.ofNat vs) wo un h (up (up (up bo 0 6) 1 3) 2 3) ta tr ro ot Bm bk)) rfl ?_
  refine mB hT 19 rfl ?_
  refine mNf (lv2 := [(5, .int 4), (0, .ref 0), (1, .int 3), (2, .int (Int32.ofNat b)), (3, .int (Int32.ofNat k)), (4, .int 1)]) (st2 := [.ref 0]) rfl rfl ?_
  refine mWd (w2 := (MW (Int32.ofNat n) (Int32.ofNat vs) wo un h (up (up (up (up bo 0 6) 1 3) 2 3) 3 3) ta tr ro ot Bm bk)) rfl ?_
  refine mWd (w2 := (MW (Int32.ofNat n) (Int32.ofNat vs) wo un h (boX 1 3) ta tr ro ot Bm bk)) rfl ?_
  refine hC.1 _ 0 [] _ _ _ _ _ (show KX3_lay l D ca ad _ _ none (MW (Int32.ofNat n) (Int32.ofNat vs) dt un h (boX 1 3) tt tt ro ot Bm bk) from (by rw [edt, ett]; exact m_lay_1_3 hn)) rfl rfl (Nat.le_of_ble_eq_true rfl) rfl ?_
  refine mB hT 5 rfl ?_
  refine mIf (fun _ => ?_) (fun hn => absurd (lc_eq.mpr h0) hn)
  refine mB hT 1 rfl ?_
  exact hR _ (by decide) _ _ _ rfl rfl
set_option maxRecDepth 20000 in
theorem m_mixed1_3_1 {n vs : Nat} {wo un h : Int64} {bo : Nat → Int32} {ta tr ro ot : Nat → Int64} {Bm : Nat → Nat → Nat → Int32} {bk : Nat → Nat → Int32} (hn : n ≤ 4) {b : Nat} (hb : b < 4) {k : Nat} (hk : k < 3) (h0 : ¬ dtM (TnM n Bm 1 3) = 0) : ∃ (un2 : Int64) (bo2 : Nat → Int32) (ta2 tr2 ro2 : Nat → Int64), KX3_mixed l D ca ad [.ref 0, .int 3, .int (Int32.ofNat b), .int (Int32.ofNat k), .int 1] (MW (Int32.ofNat n) (Int32.ofNat vs) wo un h bo ta tr ro ot Bm bk) (some (.long (thM (smG n (fun i s => emM (Bm (bkM 1 3 i) i) k s) (rdM n (TnM n Bm 1 3) (dtM (TnM n Bm 1 3)) (fun j => (bk b j).toInt64)) 1) (absX (dtM (TnM n Bm 1 3)))))) (MW (Int32.ofNat n) (Int32.ofNat vs) (dtM (TnM n Bm 1 3)) un2 h bo2 ta2 tr2 ro2 ot Bm bk) := by
  obtain ⟨tt, ett⟩ : ∃ z, z = (TnM n Bm 1 3) := ⟨_, rfl⟩
  obtain ⟨dt, edt⟩ : ∃ z, z = dtM tt := ⟨_, rfl⟩
  rw [← ett, ← edt] at h0
  obtain ⟨rr, err⟩ : ∃ z, z = rdM n tt dt (fun j => (bk b j).toInt64) := ⟨_, rfl⟩
  obtain ⟨ts, ets⟩ : ∃ z, z = tsM n tt 3 (fun j => (bk b j).toInt64) := ⟨_, rfl⟩
  obtain ⟨sm, esm⟩ : ∃ z, z = smG n (fun i s => emM (Bm (bkM 1 3 i) i) k s) rr 1 := ⟨_, rfl⟩
  rw [← ett, ← edt, ← err, ← esm]
  refine ⟨absX dt, (boX 1 3), tt, ts, rr, ?_⟩
  refine PX3_mixed (Nat.le_of_ble_eq_true rfl) ?_
  intro G hT hC hR
  refine mB hT 40 rfl ?_
  refine mNf (lv2 := [(5, .int 2), (0, .ref 0), (1, .int 3), (2, .int (Int32.ofNat b)), (3, .int (Int32.ofNat k)), (4, .int 1)]) (st2 := []) rfl rfl ?_
  refine mWd (w2 := (MW (Int32.ofNat n) (Int32.ofNat vs) wo un h (up (up (up bo 0 6) 1 3) 2 3) ta tr ro ot Bm bk)) rfl ?_
  refine mB hT 19 rfl ?_
  refine mNf (lv2 := [(5, .int 4), (0, .ref 0), (1, .int 3), (2, .int (Int32.ofNat b)), (3, .int (Int32.ofNat k)), (4, .int 1)]) (st2 := [.ref 0]) rfl rfl ?_
  refine mWd (w2 := (MW (Int32.ofNat n) (Int32.ofNat vs) wo un h (up (up (up (up bo 0 6) 1 3) 2 3) 3 3) ta tr ro ot Bm bk)) rfl ?_
  refine mWd (w2 := (MW (Int32.ofNat n) (Int32.ofNat vs) wo un h (boX 1 3) ta tr ro ot Bm bk)) rfl ?_
  refine hC.1 _ 0 [] _ _ _ _ _ (show KX3_lay l D ca ad _ _ none (MW (Int32.ofNat n) (Int32.ofNat vs) dt un h (boX 1 3) tt tt ro ot Bm bk) from (by rw [edt, ett]; exact m_lay_1_3 hn)) rfl rfl (Nat.le_of_ble_eq_true rfl) rfl ?_
  refine mB hT 5 rfl ?_
  refine mIf (fun hp => absurd hp (fun q => h0 (lc_eq.mp q))) (fun _ => ?_)
  refine mB hT 2 rfl ?_
  refine hC.2.1 _ 0 [_] _ _ _ _ _ (show KX3_solve l D ca ad _ _ none (MW (Int32.ofNat n) (Int32.ofNat vs) dt (absX dt) h (boX 1 3) tt ts rr ot Bm bk) from (by rw [err, ets]; exact m_solve hn hb)) rfl rfl (Nat.le_of_ble_eq_true rfl) rfl ?_
  refine mB hT 3 rfl ?_
  refine hC.2.2.1 _ 0 [_, _] _ _ _ _ _ (show KX3_sum l D ca ad _ _ (some (.long sm)) _ from (by rw [esm]; exact m_sum_1_3 hn k 1 hk (by decide))) rfl rfl (Nat.le_of_ble_eq_true rfl) rfl ?_
  refine mB hT 2 rfl ?_
  refine hC.2.2.2 _ [_, _] _ _ _ _ (m_th (absX_ne h0)) rfl (Nat.le_of_ble_eq_true rfl) rfl ?_
  exact hR _ (by decide) _ _ _ rfl rfl
set_option maxRecDepth 20000 in
theorem m_mixed0_3_2 {n vs : Nat} {wo un h : Int64} {bo : Nat → Int32} {ta tr ro ot : Nat → Int64} {Bm : Nat → Nat → Nat → Int32} {bk : Nat → Nat → Int32} (hn : n ≤ 4) {b : Nat} (hb : b < 4) {k : Nat} (hk : k < 3) (h0 : dtM (TnM n Bm 2 3) = 0) : ∃ (un2 : Int64) (bo2 : Nat → Int32) (ta2 tr2 ro2 : Nat → Int64), KX3_mixed l D ca ad [.ref 0, .int 3, .int (Int32.ofNat b), .int (Int32.ofNat k), .int 2] (MW (Int32.ofNat n) (Int32.ofNat vs) wo un h bo ta tr ro ot Bm bk) (some (.long 0)) (MW (Int32.ofNat n) (Int32.ofNat vs) (dtM (TnM n Bm 2 3)) un2 h bo2 ta2 tr2 ro2 ot Bm bk) := by
  obtain ⟨tt, ett⟩ : ∃ z, z = (TnM n Bm 2 3) := ⟨_, rfl⟩
  obtain ⟨dt, edt⟩ : ∃ z, z = dtM tt := ⟨_, rfl⟩
  rw [← ett, ← edt] at h0
  rw [← ett, ← edt]
  refine ⟨un, (boX 2 3), tt, tt, ro, ?_⟩
  refine PX3_mixed (Nat.le_of_ble_eq_true rfl) ?_
  intro G hT hC hR
  refine mB hT 40 rfl ?_
  refine mNf (lv2 := [(5, .int 2), (0, .ref 0), (1, .int 3), (2, .int (Int32.ofNat b)), (3, .int (Int32.ofNat k)), (4, .int 2)]) (st2 := [.int 3, .int 2, .ref 9]) rfl rfl ?_
  refine mB hT 1 rfl ?_
  refine mWd (w2 := (MW (Int32.ofNat n) (Int32.ofNat vs) wo un h (up (up (up bo 0 6) 1 6) 2 3) ta tr ro ot Bm bk)) rfl ?_
  refine mB hT 19 rfl ?_
  refine mNf (lv2 := [(5, .int 4), (0, .ref 0), (1, .int 3), (2, .int (Int32.ofNat b)), (3, .int (Int32.ofNat k)), (4, .int 2)]) (st2 := [.ref 0]) rfl rfl ?_
  refine mWd (w2 := (MW (Int32.ofNat n) (Int32.ofNat vs) wo un h (up (up (up (up bo 0 6) 1 6) 2 3) 3 3) ta tr ro ot Bm bk)) rfl ?_
  refine mWd (w2 := (MW (Int32.ofNat n) (Int32.ofNat vs) wo un h (boX 2 3) ta tr ro ot Bm bk)) rfl ?_
  refine hC.1 _ 0 [] _ _ _ _ _ (show KX3_lay l D ca ad _ _ none (MW (Int32.ofNat n) (Int32.ofNat vs) dt un h (boX 2 3) tt tt ro ot Bm bk) from (by rw [edt, ett]; exact m_lay_2_3 hn)) rfl rfl (Nat.le_of_ble_eq_true rfl) rfl ?_
  refine mB hT 5 rfl ?_
  refine mIf (fun _ => ?_) (fun hn => absurd (lc_eq.mpr h0) hn)
  refine mB hT 1 rfl ?_
  exact hR _ (by decide) _ _ _ rfl rfl
set_option maxRecDepth 20000 in
theorem m_mixed1_3_2 {n vs : Nat} {wo un h : Int64} {bo : Nat → Int32} {ta tr ro ot : Nat → Int64} {Bm : Nat → Nat → Nat → Int32} {bk : Nat → Nat → Int32} (hn : n ≤ 4) {b : Nat} (hb : b < 4) {k : Nat} (hk : k < 3) (h0 : ¬ dtM (TnM n Bm 2 3) = 0) : ∃ (un2 : Int64) (bo2 : Nat → Int32) (ta2 tr2 ro2 : Nat → Int64), KX3_mixed l D ca ad [.ref 0, .int 3, .int (Int32.ofNat b), .int (Int32.ofNat k), .int 2] (MW (Int32.ofNat n) (Int32.ofNat vs) wo un h bo ta tr ro ot Bm bk) (some (.long (thM (smG n (fun i s => emM (Bm (bkM 2 3 i) i) k s) (rdM n (TnM n Bm 2 3) (dtM (TnM n Bm 2 3)) (fun j => (bk b j).toInt64)) 1) (absX (dtM (TnM n Bm 2 3)))))) (MW (Int32.ofNat n) (Int32.ofNat vs) (dtM (TnM n Bm 2 3)) un2 h bo2 ta2 tr2 ro2 ot Bm bk) := by
  obtain ⟨tt, ett⟩ : ∃ z, z = (TnM n Bm 2 3) := ⟨_, rfl⟩
  obtain ⟨dt, edt⟩ : ∃ z, z = dtM tt := ⟨_, rfl⟩
  rw [← ett, ← edt] at h0
  obtain ⟨rr, err⟩ : ∃ z, z = rdM n tt dt (fun j => (bk b j).toInt64) := ⟨_, rfl⟩
  obtain ⟨ts, ets⟩ : ∃ z, z = tsM n tt 3 (fun j => (bk b j).toInt64) := ⟨_, rfl⟩
  obtain ⟨sm, esm⟩ : ∃ z, z = smG n (fun i s => emM (Bm (bkM 2 3 i) i) k s) rr 1 := ⟨_, rfl⟩
  rw [← ett, ← edt, ← err, ← esm]
  refine ⟨absX dt, (boX 2 3), tt, ts, rr, ?_⟩
  refine PX3_mixed (Nat.le_of_ble_eq_true rfl) ?_
  intro G hT hC hR
  refine mB hT 40 rfl ?_
  refine mNf (lv2 := [(5, .int 2), (0, .ref 0), (1, .int 3), (2, .int (Int32.ofNat b)), (3, .int (Int32.ofNat k)), (4, .int 2)]) (st2 := [.int 3, .int 2, .ref 9]) rfl rfl ?_
  refine mB hT 1 rfl ?_
  refine mWd (w2 := (MW (Int32.ofNat n) (Int32.ofNat vs) wo un h (up (up (up bo 0 6) 1 6) 2 3) ta tr ro ot Bm bk)) rfl ?_
  refine mB hT 19 rfl ?_
  refine mNf (lv2 := [(5, .int 4), (0, .ref 0), (1, .int 3), (2, .int (Int32.ofNat b)), (3, .int (Int32.ofNat k)), (4, .int 2)]) (st2 := [.ref 0]) rfl rfl ?_
  refine mWd (w2 := (MW (Int32.ofNat n) (Int32.ofNat vs) wo un h (up (up (up (up bo 0 6) 1 6) 2 3) 3 3) ta tr ro ot Bm bk)) rfl ?_
  refine mWd (w2 := (MW (Int32.ofNat n) (Int32.ofNat vs) wo un h (boX 2 3) ta tr ro ot Bm bk)) rfl ?_
  refine hC.1 _ 0 [] _ _ _ _ _ (show KX3_lay l D ca ad _ _ none (MW (Int32.ofNat n) (Int32.ofNat vs) dt un h (boX 2 3) tt tt ro ot Bm bk) from (by rw [edt, ett]; exact m_lay_2_3 hn)) rfl rfl (Nat.le_of_ble_eq_true rfl) rfl ?_
  refine mB hT 5 rfl ?_
  refine mIf (fun hp => absurd hp (fun q => h0 (lc_eq.mp q))) (fun _ => ?_)
  refine mB hT 2 rfl ?_
  refine hC.2.1 _ 0 [_] _ _ _ _ _ (show KX3_solve l D ca ad _ _ none (MW (Int32.ofNat n) (Int32.ofNat vs) dt (absX dt) h (boX 2 3) tt ts rr ot Bm bk) from (by rw [err, ets]; exact m_solve hn hb)) rfl rfl (Nat.le_of_ble_eq_true rfl) rfl ?_
  refine mB hT 3 rfl ?_
  refine hC.2.2.1 _ 0 [_, _] _ _ _ _ _ (show KX3_sum l D ca ad _ _ (some (.long sm)) _ from (by rw [esm]; exact m_sum_2_3 hn k 1 hk (by decide))) rfl rfl (Nat.le_of_ble_eq_true rfl) rfl ?_
  refine mB hT 2 rfl ?_
  refine hC.2.2.2 _ [_, _] _ _ _ _ (m_th (absX_ne h0)) rfl (Nat.le_of_ble_eq_true rfl) rfl ?_
  exact hR _ (by decide) _ _ _ rfl rfl
set_option maxRecDepth 20000 in
theorem m_mixed0_3_3 {n vs : Nat} {wo un h : Int64} {bo : Nat → Int32} {ta tr ro ot : Nat → Int64} {Bm : Nat → Nat → Nat → Int32} {bk : Nat → Nat → Int32} (hn : n ≤ 4) {b : Nat} (hb : b < 4) {k : Nat} (hk : k < 3) (h0 : dtM (TnM n Bm 3 3) = 0) : ∃ (un2 : Int64) (bo2 : Nat → Int32) (ta2 tr2 ro2 : Nat → Int64), KX3_mixed l D ca ad [.ref 0, .int 3, .int (Int32.ofNat b), .int (Int32.ofNat k), .int 3] (MW (Int32.ofNat n) (Int32.ofNat vs) wo un h bo ta tr ro ot Bm bk) (some (.long 0)) (MW (Int32.ofNat n) (Int32.ofNat vs) (dtM (TnM n Bm 3 3)) un2 h bo2 ta2 tr2 ro2 ot Bm bk) := by
  obtain ⟨tt, ett⟩ : ∃ z, z = (TnM n Bm 3 3) := ⟨_, rfl⟩
  obtain ⟨dt, edt⟩ : ∃ z, z = dtM tt := ⟨_, rfl⟩
  rw [← ett, ← edt] at h0
  rw [← ett, ← edt]
  refine ⟨un, (boX 3 3), tt, tt, ro, ?_⟩
  refine PX3_mixed (Nat.le_of_ble_eq_true rfl) ?_
  intro G hT hC hR
  refine mB hT 40 rfl ?_
  refine mNf (lv2 := [(5, .int 2), (0, .ref 0), (1, .int 3), (2, .int (Int32.ofNat b)), (3, .int (Int32.ofNat k)), (4, .int 3)]) (st2 := [.int 6, .int 2, .ref 9]) rfl rfl ?_
  refine mB hT 2 rfl ?_
  refine mWd (w2 := (MW (Int32.ofNat n) (Int32.ofNat vs) wo un h (up (up (up bo 0 6) 1 6) 2 6) ta tr ro ot Bm bk)) rfl ?_
  refine mB hT 19 rfl ?_
  refine mNf (lv2 := [(5, .int 4), (0, .ref 0), (1, .int 3), (2, .int (Int32.ofNat b)), (3, .int (Int32.ofNat k)), (4, .int 3)]) (st2 := [.ref 0]) rfl rfl ?_
  refine mWd (w2 := (MW (Int32.ofNat n) (Int32.ofNat vs) wo un h (up (up (up (up bo 0 6) 1 6) 2 6) 3 3) ta tr ro ot Bm bk)) rfl ?_
  refine mWd (w2 := (MW (Int32.ofNat n) (Int32.ofNat vs) wo un h (boX 3 3) ta tr ro ot Bm bk)) rfl ?_
  refine hC.1 _ 0 [] _ _ _ _ _ (show KX3_lay l D ca ad _ _ none (MW (Int32.ofNat n) (Int32.ofNat vs) dt un h (boX 3 3) tt tt ro ot Bm bk) from (by rw [edt, ett]; exact m_lay_3_3 hn)) rfl rfl (Nat.le_of_ble_eq_true rfl) rfl ?_
  refine mB hT 5 rfl ?_
  refine mIf (fun _ => ?_) (fun hn => absurd (lc_eq.mpr h0) hn)
  refine mB hT 1 rfl ?_
  exact hR _ (by decide) _ _ _ rfl rfl
set_option maxRecDepth 20000 in
theorem m_mixed1_3_3 {n vs : Nat} {wo un h : Int64} {bo : Nat → Int32} {ta tr ro ot : Nat → Int64} {Bm : Nat → Nat → Nat → Int32} {bk : Nat → Nat → Int32} (hn : n ≤ 4) {b : Nat} (hb : b < 4) {k : Nat} (hk : k < 3) (h0 : ¬ dtM (TnM n Bm 3 3) = 0) : ∃ (un2 : Int64) (bo2 : Nat → Int32) (ta2 tr2 ro2 : Nat → Int64), KX3_mixed l D ca ad [.ref 0, .int 3, .int (Int32.ofNat b), .int (Int32.ofNat k), .int 3] (MW (Int32.ofNat n) (Int32.ofNat vs) wo un h bo ta tr ro ot Bm bk) (some (.long (thM (smG n (fun i s => emM (Bm (bkM 3 3 i) i) k s) (rdM n (TnM n Bm 3 3) (dtM (TnM n Bm 3 3)) (fun j => (bk b j).toInt64)) 1) (absX (dtM (TnM n Bm 3 3)))))) (MW (Int32.ofNat n) (Int32.ofNat vs) (dtM (TnM n Bm 3 3)) un2 h bo2 ta2 tr2 ro2 ot Bm bk) := by
  obtain ⟨tt, ett⟩ : ∃ z, z = (TnM n Bm 3 3) := ⟨_, rfl⟩
  obtain ⟨dt, edt⟩ : ∃ z, z = dtM tt := ⟨_, rfl⟩
  rw [← ett, ← edt] at h0
  obtain ⟨rr, err⟩ : ∃ z, z = rdM n tt dt (fun j => (bk b j).toInt64) := ⟨_, rfl⟩
  obtain ⟨ts, ets⟩ : ∃ z, z = tsM n tt 3 (fun j => (bk b j).toInt64) := ⟨_, rfl⟩
  obtain ⟨sm, esm⟩ : ∃ z, z = smG n (fun i s => emM (Bm (bkM 3 3 i) i) k s) rr 1 := ⟨_, rfl⟩
  rw [← ett, ← edt, ← err, ← esm]
  refine ⟨absX dt, (boX 3 3), tt, ts, rr, ?_⟩
  refine PX3_mixed (Nat.le_of_ble_eq_true rfl) ?_
  intro G hT hC hR
  refine mB hT 40 rfl ?_
  refine mNf (lv2 := [(5, .int 2), (0, .ref 0), (1, .int 3), (2, .int (Int32.ofNat b)), (3, .int (Int32.ofNat k)), (4, .int 3)]) (st2 := [.int 6, .int 2, .ref 9]) rfl rfl ?_
  refine mB hT 2 rfl ?_
  refine mWd (w2 := (MW (Int32.ofNat n) (Int32.ofNat vs) wo un h (up (up (up bo 0 6) 1 6) 2 6) ta tr ro ot Bm bk)) rfl ?_
  refine mB hT 19 rfl ?_
  refine mNf (lv2 := [(5, .int 4), (0, .ref 0), (1, .int 3), (2, .int (Int32.ofNat b)), (3, .int (Int32.ofNat k)), (4, .int 3)]) (st2 := [.ref 0]) rfl rfl ?_
  refine mWd (w2 := (MW (Int32.ofNat n) (Int32.ofNat vs) wo un h (up (up (up (up bo 0 6) 1 6) 2 6) 3 3) ta tr ro ot Bm bk)) rfl ?_
  refine mWd (w2 := (MW (Int32.ofNat n) (Int32.ofNat vs) wo un h (boX 3 3) ta tr ro ot Bm bk)) rfl ?_
  refine hC.1 _ 0 [] _ _ _ _ _ (show KX3_lay l D ca ad _ _ none (MW (Int32.ofNat n) (Int32.ofNat vs) dt un h (boX 3 3) tt tt ro ot Bm bk) from (by rw [edt, ett]; exact m_lay_3_3 hn)) rfl rfl (Nat.le_of_ble_eq_true rfl) rfl ?_
  refine mB hT 5 rfl ?_
  refine mIf (fun hp => absurd hp (fun q => h0 (lc_eq.mp q))) (fun _ => ?_)
  refine mB hT 2 rfl ?_
  refine hC.2.1 _ 0 [_] _ _ _ _ _ (show KX3_solve l D ca ad _ _ none (MW (Int32.ofNat n) (Int32.ofNat vs) dt (absX dt) h (boX 3 3) tt ts rr ot Bm bk) from (by rw [err, ets]; exact m_solve hn hb)) rfl rfl (Nat.le_of_ble_eq_true rfl) rfl ?_
  refine mB hT 3 rfl ?_
  refine hC.2.2.1 _ 0 [_, _] _ _ _ _ _ (show KX3_sum l D ca ad _ _ (some (.long sm)) _ from (by rw [esm]; exact m_sum_3_3 hn k 1 hk (by decide))) rfl rfl (Nat.le_of_ble_eq_true rfl) rfl ?_
  refine mB hT 2 rfl ?_
  refine hC.2.2.2 _ [_, _] _ _ _ _ (m_th (absX_ne h0)) rfl (Nat.le_of_ble_eq_true rfl) rfl ?_
  exact hR _ (by decide) _ _ _ rfl rfl
set_option maxRecDepth 20000 in
theorem m_mixed0_3_4 {n vs : Nat} {wo un h : Int64} {bo : Nat → Int32} {ta tr ro ot : Nat → Int64} {Bm : Nat → Nat → Nat → Int32} {bk : Nat → Nat → Int32} (hn : n ≤ 4) {b : Nat} (hb : b < 4) {k : Nat} (hk : k < 3) (h0 : dtM (TnM n Bm 4 0) = 0) : ∃ (un2 : Int64) (bo2 : Nat → Int32) (ta2 tr2 ro2 : Nat → Int64), KX3_mixed l D ca ad [.ref 0, .int 3, .int (Int32.ofNat b), .int (Int32.ofNat k), .int 4] (MW (Int32.ofNat n) (Int32.ofNat vs) wo un h bo ta tr ro ot Bm bk) (some (.long 0)) (MW (Int32.ofNat n) (Int32.ofNat vs) (dtM (TnM n Bm 4 0)) un2 h bo2 ta2 tr2 ro2 ot Bm bk) := by
  obtain ⟨tt, ett⟩ : ∃ z, z = (TnM n Bm 4 0) := ⟨_, rfl⟩
  obtain ⟨dt, edt⟩ : ∃ z, z = dtM tt := ⟨_, rfl⟩
  rw [← ett, ← edt] at h0
  rw [← ett, ← edt]
  refine ⟨un, (boX 4 0), tt, tt, ro, ?_⟩
  refine PX3_mixed (Nat.le_of_ble_eq_true rfl) ?_
  intro G hT hC hR
  refine mB hT 40 rfl ?_
  refine mNf (lv2 := [(5, .int 2), (0, .ref 0), (1, .int 3), (2, .int (Int32.ofNat b)), (3, .int (Int32.ofNat k)), (4, .int 4)]) (st2 := [.int 6, .int 2, .ref 9]) rfl rfl ?_
  refine mB hT 2 rfl ?_
  refine mWd (w2 := (MW (Int32.ofNat n) (Int32.ofNat vs) wo un h (up (up (up bo 0 6) 1 6) 2 6) ta tr ro ot Bm bk)) rfl ?_
  refine mB hT 20 rfl ?_
  refine mNf (lv2 := [(5, .int 4), (0, .ref 0), (1, .int 3), (2, .int (Int32.ofNat b)), (3, .int (Int32.ofNat k)), (4, .int 4)]) (st2 := [.ref 0]) rfl rfl ?_
  refine mWd (w2 := (MW (Int32.ofNat n) (Int32.ofNat vs) wo un h (up (up (up (up bo 0 6) 1 6) 2 6) 3 6) ta tr ro ot Bm bk)) rfl ?_
  refine mWd (w2 := (MW (Int32.ofNat n) (Int32.ofNat vs) wo un h (boX 4 0) ta tr ro ot Bm bk)) rfl ?_
  refine hC.1 _ 0 [] _ _ _ _ _ (show KX3_lay l D ca ad _ _ none (MW (Int32.ofNat n) (Int32.ofNat vs) dt un h (boX 4 0) tt tt ro ot Bm bk) from (by rw [edt, ett]; exact m_lay_4_0 hn)) rfl rfl (Nat.le_of_ble_eq_true rfl) rfl ?_
  refine mB hT 5 rfl ?_
  refine mIf (fun _ => ?_) (fun hn => absurd (lc_eq.mpr h0) hn)
  refine mB hT 1 rfl ?_
  exact hR _ (by decide) _ _ _ rfl rfl
set_option maxRecDepth 20000 in
theorem m_mixed1_3_4 {n vs : Nat} {wo un h : Int64} {bo : Nat → Int32} {ta tr ro ot : Nat → Int64} {Bm : Nat → Nat → Nat → Int32} {bk : Nat → Nat → Int32} (hn : n ≤ 4) {b : Nat} (hb : b < 4) {k : Nat} (hk : k < 3) (h0 : ¬ dtM (TnM n Bm 4 0) = 0) : ∃ (un2 : Int64) (bo2 : Nat → Int32) (ta2 tr2 ro2 : Nat → Int64), KX3_mixed l D ca ad [.ref 0, .int 3, .int (Int32.ofNat b), .int (Int32.ofNat k), .int 4] (MW (Int32.ofNat n) (Int32.ofNat vs) wo un h bo ta tr ro ot Bm bk) (some (.long (thM (smG n (fun i s => emM (Bm (bkM 4 0 i) i) k s) (rdM n (TnM n Bm 4 0) (dtM (TnM n Bm 4 0)) (fun j => (bk b j).toInt64)) 1) (absX (dtM (TnM n Bm 4 0)))))) (MW (Int32.ofNat n) (Int32.ofNat vs) (dtM (TnM n Bm 4 0)) un2 h bo2 ta2 tr2 ro2 ot Bm bk) := by
  obtain ⟨tt, ett⟩ : ∃ z, z = (TnM n Bm 4 0) := ⟨_, rfl⟩
  obtain ⟨dt, edt⟩ : ∃ z, z = dtM tt := ⟨_, rfl⟩
  rw [← ett, ← edt] at h0
  obtain ⟨rr, err⟩ : ∃ z, z = rdM n tt dt (fun j => (bk b j).toInt64) := ⟨_, rfl⟩
  obtain ⟨ts, ets⟩ : ∃ z, z = tsM n tt 3 (fun j => (bk b j).toInt64) := ⟨_, rfl⟩
  obtain ⟨sm, esm⟩ : ∃ z, z = smG n (fun i s => emM (Bm (bkM 4 0 i) i) k s) rr 1 := ⟨_, rfl⟩
  rw [← ett, ← edt, ← err, ← esm]
  refine ⟨absX dt, (boX 4 0), tt, ts, rr, ?_⟩
  refine PX3_mixed (Nat.le_of_ble_eq_true rfl) ?_
  intro G hT hC hR
  refine mB hT 40 rfl ?_
  refine mNf (lv2 := [(5, .int 2), (0, .ref 0), (1, .int 3), (2, .int (Int32.ofNat b)), (3, .int (Int32.ofNat k)), (4, .int 4)]) (st2 := [.int 6, .int 2, .ref 9]) rfl rfl ?_
  refine mB hT 2 rfl ?_
  refine mWd (w2 := (MW (Int32.ofNat n) (Int32.ofNat vs) wo un h (up (up (up bo 0 6) 1 6) 2 6) ta tr ro ot Bm bk)) rfl ?_
  refine mB hT 20 rfl ?_
  refine mNf (lv2 := [(5, .int 4), (0, .ref 0), (1, .int 3), (2, .int (Int32.ofNat b)), (3, .int (Int32.ofNat k)), (4, .int 4)]) (st2 := [.ref 0]) rfl rfl ?_
  refine mWd (w2 := (MW (Int32.ofNat n) (Int32.ofNat vs) wo un h (up (up (up (up bo 0 6) 1 6) 2 6) 3 6) ta tr ro ot Bm bk)) rfl ?_
  refine mWd (w2 := (MW (Int32.ofNat n) (Int32.ofNat vs) wo un h (boX 4 0) ta tr ro ot Bm bk)) rfl ?_
  refine hC.1 _ 0 [] _ _ _ _ _ (show KX3_lay l D ca ad _ _ none (MW (Int32.ofNat n) (Int32.ofNat vs) dt un h (boX 4 0) tt tt ro ot Bm bk) from (by rw [edt, ett]; exact m_lay_4_0 hn)) rfl rfl (Nat.le_of_ble_eq_true rfl) rfl ?_
  refine mB hT 5 rfl ?_
  refine mIf (fun hp => absurd hp (fun q => h0 (lc_eq.mp q))) (fun _ => ?_)
  refine mB hT 2 rfl ?_
  refine hC.2.1 _ 0 [_] _ _ _ _ _ (show KX3_solve l D ca ad _ _ none (MW (Int32.ofNat n) (Int32.ofNat vs) dt (absX dt) h (boX 4 0) tt ts rr ot Bm bk) from (by rw [err, ets]; exact m_solve hn hb)) rfl rfl (Nat.le_of_ble_eq_true rfl) rfl ?_
  refine mB hT 3 rfl ?_
  refine hC.2.2.1 _ 0 [_, _] _ _ _ _ _ (show KX3_sum l D ca ad _ _ (some (.long sm)) _ from (by rw [esm]; exact m_sum_4_0 hn k 1 hk (by decide))) rfl rfl (Nat.le_of_ble_eq_true rfl) rfl ?_
  refine mB hT 2 rfl ?_
  refine hC.2.2.2 _ [_, _] _ _ _ _ (m_th (absX_ne h0)) rfl (Nat.le_of_ble_eq_true rfl) rfl ?_
  exact hR _ (by decide) _ _ _ rfl rfl
set_option maxRecDepth 20000 in
theorem m_mixed0_4_0 {n vs : Nat} {wo un h : Int64} {bo : Nat → Int32} {ta tr ro ot : Nat → Int64} {Bm : Nat → Nat → Nat → Int32} {bk : Nat → Nat → Int32} (hn : n ≤ 4) {b : Nat} (hb : b < 4) {k : Nat} (hk : k < 3) (h0 : dtM (TnM n Bm 0 4) = 0) : ∃ (un2 : Int64) (bo2 : Nat → Int32) (ta2 tr2 ro2 : Nat → Int64), KX3_mixed l D ca ad [.ref 0, .int 4, .int (Int32.ofNat b), .int (Int32.ofNat k), .int 0] (MW (Int32.ofNat n) (Int32.ofNat vs) wo un h bo ta tr ro ot Bm bk) (some (.long 0)) (MW (Int32.ofNat n) (Int32.ofNat vs) (dtM (TnM n Bm 0 4)) un2 h bo2 ta2 tr2 ro2 ot Bm bk) := by
  obtain ⟨tt, ett⟩ : ∃ z, z = (TnM n Bm 0 4) := ⟨_, rfl⟩
  obtain ⟨dt, edt⟩ : ∃ z, z = dtM tt := ⟨_, rfl⟩
  rw [← ett, ← edt] at h0
  rw [← ett, ← edt]
  refine ⟨un, (boX 0 4), tt, tt, ro, ?_⟩
  refine PX3_mixed (Nat.le_of_ble_eq_true rfl) ?_
  intro G hT hC hR
  refine mB hT 39 rfl ?_
  refine mNf (lv2 := [(5, .int 2), (0, .ref 0), (1, .int 4), (2, .int (Int32.ofNat b)), (3, .int (Int32.ofNat k)), (4, .int 0)]) (st2 := []) rfl rfl ?_
  refine mWd (w2 := (MW (Int32.ofNat n) (Int32.ofNat vs) wo un h (up (up (up bo 0 4) 1 4) 2 4) ta tr ro ot Bm bk)) rfl ?_
  refine mB hT 19 rfl ?_
  refine mNf (lv2 := [(5, .int 4), (0, .ref 0), (1, .int 4), (2, .int (Int32.ofNat b)), (3, .int (Int32.ofNat k)), (4, .int 0)]) (st2 := [.ref 0]) rfl rfl ?_
  refine mWd (w2 := (MW (Int32.ofNat n) (Int32.ofNat vs) wo un h (up (up (up (up bo 0 4) 1 4) 2 4) 3 4) ta tr ro ot Bm bk)) rfl ?_
  refine mWd (w2 := (MW (Int32.ofNat n) (Int32.ofNat vs) wo un h (boX 0 4) ta tr ro ot Bm bk)) rfl ?_
  refine hC.1 _ 0 [] _ _ _ _ _ (show KX3_lay l D ca ad _ _ none (MW (Int32.ofNat n) (Int32.ofNat vs) dt un h (boX 0 4) tt tt ro ot Bm bk) from (by rw [edt, ett]; exact m_lay_0_4 hn)) rfl rfl (Nat.le_of_ble_eq_true rfl) rfl ?_
  refine mB hT 5 rfl ?_
  refine mIf (fun _ => ?_) (fun hn => absurd (lc_eq.mpr h0) hn)
  refine mB hT 1 rfl ?_
  exact hR _ (by decide) _ _ _ rfl rfl
set_option maxRecDepth 20000 in
theorem m_mixed1_4_0 {n vs : Nat} {wo un h : Int64} {bo : Nat → Int32} {ta tr ro ot : Nat → Int64} {Bm : Nat → Nat → Nat → Int32} {bk : Nat → Nat → Int32} (hn : n ≤ 4) {b : Nat} (hb : b < 4) {k : Nat} (hk : k < 3) (h0 : ¬ dtM (TnM n Bm 0 4) = 0) : ∃ (un2 : Int64) (bo2 : Nat → Int32) (ta2 tr2 ro2 : Nat → Int64), KX3_mixed l D ca ad [.ref 0, .int 4, .int (Int32.ofNat b), .int (Int32.ofNat k), .int 0] (MW (Int32.ofNat n) (Int32.ofNat vs) wo un h bo ta tr ro ot Bm bk) (some (.long (thM (smG n (fun i s => emM (Bm (bkM 0 4 i) i) k s) (rdM n (TnM n Bm 0 4) (dtM (TnM n Bm 0 4)) (fun j => (bk b j).toInt64)) 1) (absX (dtM (TnM n Bm 0 4)))))) (MW (Int32.ofNat n) (Int32.ofNat vs) (dtM (TnM n Bm 0 4)) un2 h bo2 ta2 tr2 ro2 ot Bm bk) := by
  obtain ⟨tt, ett⟩ : ∃ z, z = (TnM n Bm 0 4) := ⟨_, rfl⟩
  obtain ⟨dt, edt⟩ : ∃ z, z = dtM tt := ⟨_, rfl⟩
  rw [← ett, ← edt] at h0
  obtain ⟨rr, err⟩ : ∃ z, z = rdM n tt dt (fun j => (bk b j).toInt64) := ⟨_, rfl⟩
  obtain ⟨ts, ets⟩ : ∃ z, z = tsM n tt 3 (fun j => (bk b j).toInt64) := ⟨_, rfl⟩
  obtain ⟨sm, esm⟩ : ∃ z, z = smG n (fun i s => emM (Bm (bkM 0 4 i) i) k s) rr 1 := ⟨_, rfl⟩
  rw [← ett, ← edt, ← err, ← esm]
  refine ⟨absX dt, (boX 0 4), tt, ts, rr, ?_⟩
  refine PX3_mixed (Nat.le_of_ble_eq_true rfl) ?_
  intro G hT hC hR
  refine mB hT 39 rfl ?_
  refine mNf (lv2 := [(5, .int 2), (0, .ref 0), (1, .int 4), (2, .int (Int32.ofNat b)), (3, .int (Int32.ofNat k)), (4, .int 0)]) (st2 := []) rfl rfl ?_
  refine mWd (w2 := (MW (Int32.ofNat n) (Int32.ofNat vs) wo un h (up (up (up bo 0 4) 1 4) 2 4) ta tr ro ot Bm bk)) rfl ?_
  refine mB hT 19 rfl ?_
  refine mNf (lv2 := [(5, .int 4), (0, .ref 0), (1, .int 4), (2, .int (Int32.ofNat b)), (3, .int (Int32.ofNat k)), (4, .int 0)]) (st2 := [.ref 0]) rfl rfl ?_
  refine mWd (w2 := (MW (Int32.ofNat n) (Int32.ofNat vs) wo un h (up (up (up (up bo 0 4) 1 4) 2 4) 3 4) ta tr ro ot Bm bk)) rfl ?_
  refine mWd (w2 := (MW (Int32.ofNat n) (Int32.ofNat vs) wo un h (boX 0 4) ta tr ro ot Bm bk)) rfl ?_
  refine hC.1 _ 0 [] _ _ _ _ _ (show KX3_lay l D ca ad _ _ none (MW (Int32.ofNat n) (Int32.ofNat vs) dt un h (boX 0 4) tt tt ro ot Bm bk) from (by rw [edt, ett]; exact m_lay_0_4 hn)) rfl rfl (Nat.le_of_ble_eq_true rfl) rfl ?_
  refine mB hT 5 rfl ?_
  refine mIf (fun hp => absurd hp (fun q => h0 (lc_eq.mp q))) (fun _ => ?_)
  refine mB hT 2 rfl ?_
  refine hC.2.1 _ 0 [_] _ _ _ _ _ (show KX3_solve l D ca ad _ _ none (MW (Int32.ofNat n) (Int32.ofNat vs) dt (absX dt) h (boX 0 4) tt ts rr ot Bm bk) from (by rw [err, ets]; exact m_solve hn hb)) rfl rfl (Nat.le_of_ble_eq_true rfl) rfl ?_
  refine mB hT 3 rfl ?_
  refine hC.2.2.1 _ 0 [_, _] _ _ _ _ _ (show KX3_sum l D ca ad _ _ (some (.long sm)) _ from (by rw [esm]; exact m_sum_0_4 hn k 1 hk (by decide))) rfl rfl (Nat.le_of_ble_eq_true rfl) rfl ?_
  refine mB hT 2 rfl ?_
  refine hC.2.2.2 _ [_, _] _ _ _ _ (m_th (absX_ne h0)) rfl (Nat.le_of_ble_eq_true rfl) rfl ?_
  exact hR _ (by decide) _ _ _ rfl rfl
set_option maxRecDepth 20000 in
theorem m_mixed0_4_1 {n vs : Nat} {wo un h : Int64} {bo : Nat → Int32} {ta tr ro ot : Nat → Int64} {Bm : Nat → Nat → Nat → Int32} {bk : Nat → Nat → Int32} (hn : n ≤ 4) {b : Nat} (hb : b < 4) {k : Nat} (hk : k < 3) (h0 : dtM (TnM n Bm 1 4) = 0) : ∃ (un2 : Int64) (bo2 : Nat → Int32) (ta2 tr2 ro2 : Nat → Int64), KX3_mixed l D ca ad [.ref 0, .int 4, .int (Int32.ofNat b), .int (Int32.ofNat k), .int 1] (MW (Int32.ofNat n) (Int32.ofNat vs) wo un h bo ta tr ro ot Bm bk) (some (.long 0)) (MW (Int32.ofNat n) (Int32.ofNat vs) (dtM (TnM n Bm 1 4)) un2 h bo2 ta2 tr2 ro2 ot Bm bk) := by
  obtain ⟨tt, ett⟩ : ∃ z, z = (TnM n Bm 1 4) := ⟨_, rfl⟩
  obtain ⟨dt, edt⟩ : ∃ z, z = dtM tt := ⟨_, rfl⟩
  rw [← ett, ← edt] at h0
  rw [← ett, ← edt]
  refine ⟨un, (boX 1 4), tt, tt, ro, ?_⟩
  refine PX3_mixed (Nat.le_of_ble_eq_true rfl) ?_
  intro G hT hC hR
  refine mB hT 40 rfl ?_
  refine mNf (lv2 := [(5, .int 2), (0, .ref 0), (1, .int 4), (2, .int (Int32.ofNat b)), (3, .int (Int32.ofNat k)), (4, .int 1)]) (st2 := []) rfl rfl ?_
  refine mWd (w2 := (MW (Int32.ofNat n) (Int32.ofNat vs) wo un h (up (up (up bo 0 6) 1 4) 2 4) ta tr ro ot Bm bk)) rfl ?_
  refine mB hT 19 rfl ?_
  refine mNf (lv2 := [(5, .int 4), (0, .ref 0), (1, .int 4), (2, .int (Int32.ofNat b)), (3, .int (Int32.ofNat k)), (4, .int 1)]) (st2 := [.ref 0]) rfl rfl ?_
  refine mWd (w2 := (MW (Int32.ofNat n) (Int32.ofNat vs) wo un h (up (up (up (up bo 0 6) 1 4) 2 4) 3 4) ta tr ro ot Bm bk)) rfl ?_
  refine mWd (w2 := (MW (Int32.ofNat n) (Int32.ofNat vs) wo un h (boX 1 4) ta tr ro ot Bm bk)) rfl ?_
  refine hC.1 _ 0 [] _ _ _ _ _ (show KX3_lay l D ca ad _ _ none (MW (Int32.ofNat n) (Int32.ofNat vs) dt un h (boX 1 4) tt tt ro ot Bm bk) from (by rw [edt, ett]; exact m_lay_1_4 hn)) rfl rfl (Nat.le_of_ble_eq_true rfl) rfl ?_
  refine mB hT 5 rfl ?_
  refine mIf (fun _ => ?_) (fun hn => absurd (lc_eq.mpr h0) hn)
  refine mB hT 1 rfl ?_
  exact hR _ (by decide) _ _ _ rfl rfl
set_option maxRecDepth 20000 in
theorem m_mixed1_4_1 {n vs : Nat} {wo un h : Int64} {bo : Nat → Int32} {ta tr ro ot : Nat → Int64} {Bm : Nat → Nat → Nat → Int32} {bk : Nat → Nat → Int32} (hn : n ≤ 4) {b : Nat} (hb : b < 4) {k : Nat} (hk : k < 3) (h0 : ¬ dtM (TnM n Bm 1 4) = 0) : ∃ (un2 : Int64) (bo2 : Nat → Int32) (ta2 tr2 ro2 : Nat → Int64), KX3_mixed l D ca ad [.ref 0, .int 4, .int (Int32.ofNat b), .int (Int32.ofNat k), .int 1] (MW (Int32.ofNat n) (Int32.ofNat vs) wo un h bo ta tr ro ot Bm bk) (some (.long (thM (smG n (fun i s => emM (Bm (bkM 1 4 i) i) k s) (rdM n (TnM n Bm 1 4) (dtM (TnM n Bm 1 4)) (fun j => (bk b j).toInt64)) 1) (absX (dtM (TnM n Bm 1 4)))))) (MW (Int32.ofNat n) (Int32.ofNat vs) (dtM (TnM n Bm 1 4)) un2 h bo2 ta2 tr2 ro2 ot Bm bk) := by
  obtain ⟨tt, ett⟩ : ∃ z, z = (TnM n Bm 1 4) := ⟨_, rfl⟩
  obtain ⟨dt, edt⟩ : ∃ z, z = dtM tt := ⟨_, rfl⟩
  rw [← ett, ← edt] at h0
  obtain ⟨rr, err⟩ : ∃ z, z = rdM n tt dt (fun j => (bk b j).toInt64) := ⟨_, rfl⟩
  obtain ⟨ts, ets⟩ : ∃ z, z = tsM n tt 3 (fun j => (bk b j).toInt64) := ⟨_, rfl⟩
  obtain ⟨sm, esm⟩ : ∃ z, z = smG n (fun i s => emM (Bm (bkM 1 4 i) i) k s) rr 1 := ⟨_, rfl⟩
  rw [← ett, ← edt, ← err, ← esm]
  refine ⟨absX dt, (boX 1 4), tt, ts, rr, ?_⟩
  refine PX3_mixed (Nat.le_of_ble_eq_true rfl) ?_
  intro G hT hC hR
  refine mB hT 40 rfl ?_
  refine mNf (lv2 := [(5, .int 2), (0, .ref 0), (1, .int 4), (2, .int (Int32.ofNat b)), (3, .int (Int32.ofNat k)), (4, .int 1)]) (st2 := []) rfl rfl ?_
  refine mWd (w2 := (MW (Int32.ofNat n) (Int32.ofNat vs) wo un h (up (up (up bo 0 6) 1 4) 2 4) ta tr ro ot Bm bk)) rfl ?_
  refine mB hT 19 rfl ?_
  refine mNf (lv2 := [(5, .int 4), (0, .ref 0), (1, .int 4), (2, .int (Int32.ofNat b)), (3, .int (Int32.ofNat k)), (4, .int 1)]) (st2 := [.ref 0]) rfl rfl ?_
  refine mWd (w2 := (MW (Int32.ofNat n) (Int32.ofNat vs) wo un h (up (up (up (up bo 0 6) 1 4) 2 4) 3 4) ta tr ro ot Bm bk)) rfl ?_
  refine mWd (w2 := (MW (Int32.ofNat n) (Int32.ofNat vs) wo un h (boX 1 4) ta tr ro ot Bm bk)) rfl ?_
  refine hC.1 _ 0 [] _ _ _ _ _ (show KX3_lay l D ca ad _ _ none (MW (Int32.ofNat n) (Int32.ofNat vs) dt un h (boX 1 4) tt tt ro ot Bm bk) from (by rw [edt, ett]; exact m_lay_1_4 hn)) rfl rfl (Nat.le_of_ble_eq_true rfl) rfl ?_
  refine mB hT 5 rfl ?_
  refine mIf (fun hp => absurd hp (fun q => h0 (lc_eq.mp q))) (fun _ => ?_)
  refine mB hT 2 rfl ?_
  refine hC.2.1 _ 0 [_] _ _ _ _ _ (show KX3_solve l D ca ad _ _ none (MW (Int32.ofNat n) (Int32.ofNat vs) dt (absX dt) h (boX 1 4) tt ts rr ot Bm bk) from (by rw [err, ets]; exact m_solve hn hb)) rfl rfl (Nat.le_of_ble_eq_true rfl) rfl ?_
  refine mB hT 3 rfl ?_
  refine hC.2.2.1 _ 0 [_, _] _ _ _ _ _ (show KX3_sum l D ca ad _ _ (some (.long sm)) _ from (by rw [esm]; exact m_sum_1_4 hn k 1 hk (by decide))) rfl rfl (Nat.le_of_ble_eq_true rfl) rfl ?_
  refine mB hT 2 rfl ?_
  refine hC.2.2.2 _ [_, _] _ _ _ _ (m_th (absX_ne h0)) rfl (Nat.le_of_ble_eq_true rfl) rfl ?_
  exact hR _ (by decide) _ _ _ rfl rfl
set_option maxRecDepth 20000 in
theorem m_mixed0_4_2 {n vs : Nat} {wo un h : Int64} {bo : Nat → Int32} {ta tr ro ot : Nat → Int64} {Bm : Nat → Nat → Nat → Int32} {bk : Nat → Nat → Int32} (hn : n ≤ 4) {b : Nat} (hb : b < 4) {k : Nat} (hk : k < 3) (h0 : dtM (TnM n Bm 2 4) = 0) : ∃ (un2 : Int64) (bo2 : Nat → Int32) (ta2 tr2 ro2 : Nat → Int64), KX3_mixed l D ca ad [.ref 0, .int 4, .int (Int32.ofNat b), .int (Int32.ofNat k), .int 2] (MW (Int32.ofNat n) (Int32.ofNat vs) wo un h bo ta tr ro ot Bm bk) (some (.long 0)) (MW (Int32.ofNat n) (Int32.ofNat vs) (dtM (TnM n Bm 2 4)) un2 h bo2 ta2 tr2 ro2 ot Bm bk) := by
  obtain ⟨tt, ett⟩ : ∃ z, z = (TnM n Bm 2 4) := ⟨_, rfl⟩
  obtain ⟨dt, edt⟩ : ∃ z, z = dtM tt := ⟨_, rfl⟩
  rw [← ett, ← edt] at h0
  rw [← ett, ← edt]
  refine ⟨un, (boX 2 4), tt, tt, ro, ?_⟩
  refine PX3_mixed (Nat.le_of_ble_eq_true rfl) ?_
  intro G hT hC hR
  refine mB hT 40 rfl ?_
  refine mNf (lv2 := [(5, .int 2), (0, .ref 0), (1, .int 4), (2, .int (Int32.ofNat b)), (3, .int (Int32.ofNat k)), (4, .int 2)]) (st2 := [.int 4, .int 2, .ref 9]) rfl rfl ?_
  refine mB hT 1 rfl ?_
  refine mWd (w2 := (MW (Int32.ofNat n) (Int32.ofNat vs) wo un h (up (up (up bo 0 6) 1 6) 2 4) ta tr ro ot Bm bk)) rfl ?_
  refine mB hT 19 rfl ?_
  refine mNf (lv2 := [(5, .int 4), (0, .ref 0), (1, .int 4), (2, .int (Int32.ofNat b)), (3, .int (Int32.ofNat k)), (4, .int 2)]) (st2 := [.ref 0]) rfl rfl ?_
  refine mWd (w2 := (MW (Int32.ofNat n) (Int32.ofNat vs) wo un h (up (up (up (up bo 0 6) 1 6) 2 4) 3 4) ta tr ro ot Bm bk)) rfl ?_
  refine mWd (w2 := (MW (Int32.ofNat n) (Int32.ofNat vs) wo un h (boX 2 4) ta tr ro ot Bm bk)) rfl ?_
  refine hC.1 _ 0 [] _ _ _ _ _ (show KX3_lay l D ca ad _ _ none (MW (Int32.ofNat n) (Int32.ofNat vs) dt un h (boX 2 4) tt tt ro ot Bm bk) from (by rw [edt, ett]; exact m_lay_2_4 hn)) rfl rfl (Nat.le_of_ble_eq_true rfl) rfl ?_
  refine mB hT 5 rfl ?_
  refine mIf (fun _ => ?_) (fun hn => absurd (lc_eq.mpr h0) hn)
  refine mB hT 1 rfl ?_
  exact hR _ (by decide) _ _ _ rfl rfl
set_option maxRecDepth 20000 in
theorem m_mixed1_4_2 {n vs : Nat} {wo un h : Int64} {bo : Nat → Int32} {ta tr ro ot : Nat → Int64} {Bm : Nat → Nat → Nat → Int32} {bk : Nat → Nat → Int32} (hn : n ≤ 4) {b : Nat} (hb : b < 4) {k : Nat} (hk : k < 3) (h0 : ¬ dtM (TnM n Bm 2 4) = 0) : ∃ (un2 : Int64) (bo2 : Nat → Int32) (ta2 tr2 ro2 : Nat → Int64), KX3_mixed l D ca ad [.ref 0, .int 4, .int (Int32.ofNat b), .int (Int32.ofNat k), .int 2] (MW (Int32.ofNat n) (Int32.ofNat vs) wo un h bo ta tr ro ot Bm bk) (some (.long (thM (smG n (fun i s => emM (Bm (bkM 2 4 i) i) k s) (rdM n (TnM n Bm 2 4) (dtM (TnM n Bm 2 4)) (fun j => (bk b j).toInt64)) 1) (absX (dtM (TnM n Bm 2 4)))))) (MW (Int32.ofNat n) (Int32.ofNat vs) (dtM (TnM n Bm 2 4)) un2 h bo2 ta2 tr2 ro2 ot Bm bk) := by
  obtain ⟨tt, ett⟩ : ∃ z, z = (TnM n Bm 2 4) := ⟨_, rfl⟩
  obtain ⟨dt, edt⟩ : ∃ z, z = dtM tt := ⟨_, rfl⟩
  rw [← ett, ← edt] at h0
  obtain ⟨rr, err⟩ : ∃ z, z = rdM n tt dt (fun j => (bk b j).toInt64) := ⟨_, rfl⟩
  obtain ⟨ts, ets⟩ : ∃ z, z = tsM n tt 3 (fun j => (bk b j).toInt64) := ⟨_, rfl⟩
  obtain ⟨sm, esm⟩ : ∃ z, z = smG n (fun i s => emM (Bm (bkM 2 4 i) i) k s) rr 1 := ⟨_, rfl⟩
  rw [← ett, ← edt, ← err, ← esm]
  refine ⟨absX dt, (boX 2 4), tt, ts, rr, ?_⟩
  refine PX3_mixed (Nat.le_of_ble_eq_true rfl) ?_
  intro G hT hC hR
  refine mB hT 40 rfl ?_
  refine mNf (lv2 := [(5, .int 2), (0, .ref 0), (1, .int 4), (2, .int (Int32.ofNat b)), (3, .int (Int32.ofNat k)), (4, .int 2)]) (st2 := [.int 4, .int 2, .ref 9]) rfl rfl ?_
  refine mB hT 1 rfl ?_
  refine mWd (w2 := (MW (Int32.ofNat n) (Int32.ofNat vs) wo un h (up (up (up bo 0 6) 1 6) 2 4) ta tr ro ot Bm bk)) rfl ?_
  refine mB hT 19 rfl ?_
  refine mNf (lv2 := [(5, .int 4), (0, .ref 0), (1, .int 4), (2, .int (Int32.ofNat b)), (3, .int (Int32.ofNat k)), (4, .int 2)]) (st2 := [.ref 0]) rfl rfl ?_
  refine mWd (w2 := (MW (Int32.ofNat n) (Int32.ofNat vs) wo un h (up (up (up (up bo 0 6) 1 6) 2 4) 3 4) ta tr ro ot Bm bk)) rfl ?_
  refine mWd (w2 := (MW (Int32.ofNat n) (Int32.ofNat vs) wo un h (boX 2 4) ta tr ro ot Bm bk)) rfl ?_
  refine hC.1 _ 0 [] _ _ _ _ _ (show KX3_lay l D ca ad _ _ none (MW (Int32.ofNat n) (Int32.ofNat vs) dt un h (boX 2 4) tt tt ro ot Bm bk) from (by rw [edt, ett]; exact m_lay_2_4 hn)) rfl rfl (Nat.le_of_ble_eq_true rfl) rfl ?_
  refine mB hT 5 rfl ?_
  refine mIf (fun hp => absurd hp (fun q => h0 (lc_eq.mp q))) (fun _ => ?_)
  refine mB hT 2 rfl ?_
  refine hC.2.1 _ 0 [_] _ _ _ _ _ (show KX3_solve l D ca ad _ _ none (MW (Int32.ofNat n) (Int32.ofNat vs) dt (absX dt) h (boX 2 4) tt ts rr ot Bm bk) from (by rw [err, ets]; exact m_solve hn hb)) rfl rfl (Nat.le_of_ble_eq_true rfl) rfl ?_
  refine mB hT 3 rfl ?_
  refine hC.2.2.1 _ 0 [_, _] _ _ _ _ _ (show KX3_sum l D ca ad _ _ (some (.long sm)) _ from (by rw [esm]; exact m_sum_2_4 hn k 1 hk (by decide))) rfl rfl (Nat.le_of_ble_eq_true rfl) rfl ?_
  refine mB hT 2 rfl ?_
  refine hC.2.2.2 _ [_, _] _ _ _ _ (m_th (absX_ne h0)) rfl (Nat.le_of_ble_eq_true rfl) rfl ?_
  exact hR _ (by decide) _ _ _ rfl rfl
set_option maxRecDepth 20000 in
theorem m_mixed0_4_3 {n vs : Nat} {wo un h : Int64} {bo : Nat → Int32} {ta tr ro ot : Nat → Int64} {Bm : Nat → Nat → Nat → Int32} {bk : Nat → Nat → Int32} (hn : n ≤ 4) {b : Nat} (hb : b < 4) {k : Nat} (hk : k < 3) (h0 : dtM (TnM n Bm 3 4) = 0) : ∃ (un2 : Int64) (bo2 : Nat → Int32) (ta2 tr2 ro2 : Nat → Int64), KX3_mixed l D ca ad [.ref 0, .int 4, .int (Int32.ofNat b), .int (Int32.ofNat k), .int 3] (MW (Int32.ofNat n) (Int32.ofNat vs) wo un h bo ta tr ro ot Bm bk) (some (.long 0)) (MW (Int32.ofNat n) (Int32.ofNat vs) (dtM (TnM n Bm 3 4)) un2 h bo2 ta2 tr2 ro2 ot Bm bk) := by
  obtain ⟨tt, ett⟩ : ∃ z, z = (TnM n Bm 3 4) := ⟨_, rfl⟩
  obtain ⟨dt, edt⟩ : ∃ z, z = dtM tt := ⟨_, rfl⟩
  rw [← ett, ← edt] at h0
  rw [← ett, ← edt]
  refine ⟨un, (boX 3 4), tt, tt, ro, ?_⟩
  refine PX3_mixed (Nat.le_of_ble_eq_true rfl) ?_
  intro G hT hC hR
  refine mB hT 40 rfl ?_
  refine mNf (lv2 := [(5, .int 2), (0, .ref 0), (1, .int 4), (2, .int (Int32.ofNat b)), (3, .int (Int32.ofNat k)), (4, .int 3)]) (st2 := [.int 6, .int 2, .ref 9]) rfl rfl ?_
  refine mB hT 2 rfl ?_
  refine mWd (w2 := (MW (Int32.ofNat n) (Int32.ofNat vs) wo un h (up (up (up bo 0 6) 1 6) 2 6) ta tr ro ot Bm bk)) rfl ?_
  refine mB hT 19 rfl ?_
  refine mNf (lv2 := [(5, .int 4), (0, .ref 0), (1, .int 4), (2, .int (Int32.ofNat b)), (3, .int (Int32.ofNat k)), (4, .int 3)]) (st2 := [.ref 0]) rfl rfl ?_
  refine mWd (w2 := (MW (Int32.ofNat n) (Int32.ofNat vs) wo un h (up (up (up (up bo 0 6) 1 6) 2 6) 3 4) ta tr ro ot Bm bk)) rfl ?_
  refine mWd (w2 := (MW (Int32.ofNat n) (Int32.ofNat vs) wo un h (boX 3 4) ta tr ro ot Bm bk)) rfl ?_
  refine hC.1 _ 0 [] _ _ _ _ _ (show KX3_lay l D ca ad _ _ none (MW (Int32.ofNat n) (Int32.ofNat vs) dt un h (boX 3 4) tt tt ro ot Bm bk) from (by rw [edt, ett]; exact m_lay_3_4 hn)) rfl rfl (Nat.le_of_ble_eq_true rfl) rfl ?_
  refine mB hT 5 rfl ?_
  refine mIf (fun _ => ?_) (fun hn => absurd (lc_eq.mpr h0) hn)
  refine mB hT 1 rfl ?_
  exact hR _ (by decide) _ _ _ rfl rfl
set_option maxRecDepth 20000 in
theorem m_mixed1_4_3 {n vs : Nat} {wo un h : Int64} {bo : Nat → Int32} {ta tr ro ot : Nat → Int64} {Bm : Nat → Nat → Nat → Int32} {bk : Nat → Nat → Int32} (hn : n ≤ 4) {b : Nat} (hb : b < 4) {k : Nat} (hk : k < 3) (h0 : ¬ dtM (TnM n Bm 3 4) = 0) : ∃ (un2 : Int64) (bo2 : Nat → Int32) (ta2 tr2 ro2 : Nat → Int64), KX3_mixed l D ca ad [.ref 0, .int 4, .int (Int32.ofNat b), .int (Int32.ofNat k), .int 3] (MW (Int32.ofNat n) (Int32.ofNat vs) wo un h bo ta tr ro ot Bm bk) (some (.long (thM (smG n (fun i s => emM (Bm (bkM 3 4 i) i) k s) (rdM n (TnM n Bm 3 4) (dtM (TnM n Bm 3 4)) (fun j => (bk b j).toInt64)) 1) (absX (dtM (TnM n Bm 3 4)))))) (MW (Int32.ofNat n) (Int32.ofNat vs) (dtM (TnM n Bm 3 4)) un2 h bo2 ta2 tr2 ro2 ot Bm bk) := by
  obtain ⟨tt, ett⟩ : ∃ z, z = (TnM n Bm 3 4) := ⟨_, rfl⟩
  obtain ⟨dt, edt⟩ : ∃ z, z = dtM tt := ⟨_, rfl⟩
  rw [← ett, ← edt] at h0
  obtain ⟨rr, err⟩ : ∃ z, z = rdM n tt dt (fun j => (bk b j).toInt64) := ⟨_, rfl⟩
  obtain ⟨ts, ets⟩ : ∃ z, z = tsM n tt 3 (fun j => (bk b j).toInt64) := ⟨_, rfl⟩
  obtain ⟨sm, esm⟩ : ∃ z, z = smG n (fun i s => emM (Bm (bkM 3 4 i) i) k s) rr 1 := ⟨_, rfl⟩
  rw [← ett, ← edt, ← err, ← esm]
  refine ⟨absX dt, (boX 3 4), tt, ts, rr, ?_⟩
  refine PX3_mixed (Nat.le_of_ble_eq_true rfl) ?_
  intro G hT hC hR
  refine mB hT 40 rfl ?_
  refine mNf (lv2 := [(5, .int 2), (0, .ref 0), (1, .int 4), (2, .int (Int32.ofNat b)), (3, .int (Int32.ofNat k)), (4, .int 3)]) (st2 := [.int 6, .int 2, .ref 9]) rfl rfl ?_
  refine mB hT 2 rfl ?_
  refine mWd (w2 := (MW (Int32.ofNat n) (Int32.ofNat vs) wo un h (up (up (up bo 0 6) 1 6) 2 6) ta tr ro ot Bm bk)) rfl ?_
  refine mB hT 19 rfl ?_
  refine mNf (lv2 := [(5, .int 4), (0, .ref 0), (1, .int 4), (2, .int (Int32.ofNat b)), (3, .int (Int32.ofNat k)), (4, .int 3)]) (st2 := [.ref 0]) rfl rfl ?_
  refine mWd (w2 := (MW (Int32.ofNat n) (Int32.ofNat vs) wo un h (up (up (up (up bo 0 6) 1 6) 2 6) 3 4) ta tr ro ot Bm bk)) rfl ?_
  refine mWd (w2 := (MW (Int32.ofNat n) (Int32.ofNat vs) wo un h (boX 3 4) ta tr ro ot Bm bk)) rfl ?_
  refine hC.1 _ 0 [] _ _ _ _ _ (show KX3_lay l D ca ad _ _ none (MW (Int32.ofNat n) (Int32.ofNat vs) dt un h (boX 3 4) tt tt ro ot Bm bk) from (by rw [edt, ett]; exact m_lay_3_4 hn)) rfl rfl (Nat.le_of_ble_eq_true rfl) rfl ?_
  refine mB hT 5 rfl ?_
  refine mIf (fun hp => absurd hp (fun q => h0 (lc_eq.mp q))) (fun _ => ?_)
  refine mB hT 2 rfl ?_
  refine hC.2.1 _ 0 [_] _ _ _ _ _ (show KX3_solve l D ca ad _ _ none (MW (Int32.ofNat n) (Int32.ofNat vs) dt (absX dt) h (boX 3 4) tt ts rr ot Bm bk) from (by rw [err, ets]; exact m_solve hn hb)) rfl rfl (Nat.le_of_ble_eq_true rfl) rfl ?_
  refine mB hT 3 rfl ?_
  refine hC.2.2.1 _ 0 [_, _] _ _ _ _ _ (show KX3_sum l D ca ad _ _ (some (.long sm)) _ from (by rw [esm]; exact m_sum_3_4 hn k 1 hk (by decide))) rfl rfl (Nat.le_of_ble_eq_true rfl) rfl ?_
  refine mB hT 2 rfl ?_
  refine hC.2.2.2 _ [_, _] _ _ _ _ (m_th (absX_ne h0)) rfl (Nat.le_of_ble_eq_true rfl) rfl ?_
  exact hR _ (by decide) _ _ _ rfl rfl
set_option maxRecDepth 20000 in
theorem m_mixed0_4_4 {n vs : Nat} {wo un h : Int64} {bo : Nat → Int32} {ta tr ro ot : Nat → Int64} {Bm : Nat → Nat → Nat → Int32} {bk : Nat → Nat → Int32} (hn : n ≤ 4) {b : Nat} (hb : b < 4) {k : Nat} (hk : k < 3) (h0 : dtM (TnM n Bm 4 0) = 0) : ∃ (un2 : Int64) (bo2 : Nat → Int32) (ta2 tr2 ro2 : Nat → Int64), KX3_mixed l D ca ad [.ref 0, .int 4, .int (Int32.ofNat b), .int (Int32.ofNat k), .int 4] (MW (Int32.ofNat n) (Int32.ofNat vs) wo un h bo ta tr ro ot Bm bk) (some (.long 0)) (MW (Int32.ofNat n) (Int32.ofNat vs) (dtM (TnM n Bm 4 0)) un2 h bo2 ta2 tr2 ro2 ot Bm bk) := by
  obtain ⟨tt, ett⟩ : ∃ z, z = (TnM n Bm 4 0) := ⟨_, rfl⟩
  obtain ⟨dt, edt⟩ : ∃ z, z = dtM tt := ⟨_, rfl⟩
  rw [← ett, ← edt] at h0
  rw [← ett, ← edt]
  refine ⟨un, (boX 4 0), tt, tt, ro, ?_⟩
  refine PX3_mixed (Nat.le_of_ble_eq_true rfl) ?_
  intro G hT hC hR
  refine mB hT 40 rfl ?_
  refine mNf (lv2 := [(5, .int 2), (0, .ref 0), (1, .int 4), (2, .int (Int32.ofNat b)), (3, .int (Int32.ofNat k)), (4, .int 4)]) (st2 := [.int 6, .int 2, .ref 9]) rfl rfl ?_
  refine mB hT 2 rfl ?_
  refine mWd (w2 := (MW (Int32.ofNat n) (Int32.ofNat vs) wo un h (up (up (up bo 0 6) 1 6) 2 6) ta tr ro ot Bm bk)) rfl ?_
  refine mB hT 20 rfl ?_
  refine mNf (lv2 := [(5, .int 4), (0, .ref 0), (1, .int 4), (2, .int (Int32.ofNat b)), (3, .int (Int32.ofNat k)), (4, .int 4)]) (st2 := [.ref 0]) rfl rfl ?_
  refine mWd (w2 := (MW (Int32.ofNat n) (Int32.ofNat vs) wo un h (up (up (up (up bo 0 6) 1 6) 2 6) 3 6) ta tr ro ot Bm bk)) rfl ?_
  refine mWd (w2 := (MW (Int32.ofNat n) (Int32.ofNat vs) wo un h (boX 4 0) ta tr ro ot Bm bk)) rfl ?_
  refine hC.1 _ 0 [] _ _ _ _ _ (show KX3_lay l D ca ad _ _ none (MW (Int32.ofNat n) (Int32.ofNat vs) dt un h (boX 4 0) tt tt ro ot Bm bk) from (by rw [edt, ett]; exact m_lay_4_0 hn)) rfl rfl (Nat.le_of_ble_eq_true rfl) rfl ?_
  refine mB hT 5 rfl ?_
  refine mIf (fun _ => ?_) (fun hn => absurd (lc_eq.mpr h0) hn)
  refine mB hT 1 rfl ?_
  exact hR _ (by decide) _ _ _ rfl rfl
set_option maxRecDepth 20000 in
theorem m_mixed1_4_4 {n vs : Nat} {wo un h : Int64} {bo : Nat → Int32} {ta tr ro ot : Nat → Int64} {Bm : Nat → Nat → Nat → Int32} {bk : Nat → Nat → Int32} (hn : n ≤ 4) {b : Nat} (hb : b < 4) {k : Nat} (hk : k < 3) (h0 : ¬ dtM (TnM n Bm 4 0) = 0) : ∃ (un2 : Int64) (bo2 : Nat → Int32) (ta2 tr2 ro2 : Nat → Int64), KX3_mixed l D ca ad [.ref 0, .int 4, .int (Int32.ofNat b), .int (Int32.ofNat k), .int 4] (MW (Int32.ofNat n) (Int32.ofNat vs) wo un h bo ta tr ro ot Bm bk) (some (.long (thM (smG n (fun i s => emM (Bm (bkM 4 0 i) i) k s) (rdM n (TnM n Bm 4 0) (dtM (TnM n Bm 4 0)) (fun j => (bk b j).toInt64)) 1) (absX (dtM (TnM n Bm 4 0)))))) (MW (Int32.ofNat n) (Int32.ofNat vs) (dtM (TnM n Bm 4 0)) un2 h bo2 ta2 tr2 ro2 ot Bm bk) := by
  obtain ⟨tt, ett⟩ : ∃ z, z = (TnM n Bm 4 0) := ⟨_, rfl⟩
  obtain ⟨dt, edt⟩ : ∃ z, z = dtM tt := ⟨_, rfl⟩
  rw [← ett, ← edt] at h0
  obtain ⟨rr, err⟩ : ∃ z, z = rdM n tt dt (fun j => (bk b j).toInt64) := ⟨_, rfl⟩
  obtain ⟨ts, ets⟩ : ∃ z, z = tsM n tt 3 (fun j => (bk b j).toInt64) := ⟨_, rfl⟩
  obtain ⟨sm, esm⟩ : ∃ z, z = smG n (fun i s => emM (Bm (bkM 4 0 i) i) k s) rr 1 := ⟨_, rfl⟩
  rw [← ett, ← edt, ← err, ← esm]
  refine ⟨absX dt, (boX 4 0), tt, ts, rr, ?_⟩
  refine PX3_mixed (Nat.le_of_ble_eq_true rfl) ?_
  intro G hT hC hR
  refine mB hT 40 rfl ?_
  refine mNf (lv2 := [(5, .int 2), (0, .ref 0), (1, .int 4), (2, .int (Int32.ofNat b)), (3, .int (Int32.ofNat k)), (4, .int 4)]) (st2 := [.int 6, .int 2, .ref 9]) rfl rfl ?_
  refine mB hT 2 rfl ?_
  refine mWd (w2 := (MW (Int32.ofNat n) (Int32.ofNat vs) wo un h (up (up (up bo 0 6) 1 6) 2 6) ta tr ro ot Bm bk)) rfl ?_
  refine mB hT 20 rfl ?_
  refine mNf (lv2 := [(5, .int 4), (0, .ref 0), (1, .int 4), (2, .int (Int32.ofNat b)), (3, .int (Int32.ofNat k)), (4, .int 4)]) (st2 := [.ref 0]) rfl rfl ?_
  refine mWd (w2 := (MW (Int32.ofNat n) (Int32.ofNat vs) wo un h (up (up (up (up bo 0 6) 1 6) 2 6) 3 6) ta tr ro ot Bm bk)) rfl ?_
  refine mWd (w2 := (MW (Int32.ofNat n) (Int32.ofNat vs) wo un h (boX 4 0) ta tr ro ot Bm bk)) rfl ?_
  refine hC.1 _ 0 [] _ _ _ _ _ (show KX3_lay l D ca ad _ _ none (MW (Int32.ofNat n) (Int32.ofNat vs) dt un h (boX 4 0) tt tt ro ot Bm bk) from (by rw [edt, ett]; exact m_lay_4_0 hn)) rfl rfl (Nat.le_of_ble_eq_true rfl) rfl ?_
  refine mB hT 5 rfl ?_
  refine mIf (fun hp => absurd hp (fun q => h0 (lc_eq.mp q))) (fun _ => ?_)
  refine mB hT 2 rfl ?_
  refine hC.2.1 _ 0 [_] _ _ _ _ _ (show KX3_solve l D ca ad _ _ none (MW (Int32.ofNat n) (Int32.ofNat vs) dt (absX dt) h (boX 4 0) tt ts rr ot Bm bk) from (by rw [err, ets]; exact m_solve hn hb)) rfl rfl (Nat.le_of_ble_eq_true rfl) rfl ?_
  refine mB hT 3 rfl ?_
  refine hC.2.2.1 _ 0 [_, _] _ _ _ _ _ (show KX3_sum l D ca ad _ _ (some (.long sm)) _ from (by rw [esm]; exact m_sum_4_0 hn k 1 hk (by decide))) rfl rfl (Nat.le_of_ble_eq_true rfl) rfl ?_
  refine mB hT 2 rfl ?_
  refine hC.2.2.2 _ [_, _] _ _ _ _ (m_th (absX_ne h0)) rfl (Nat.le_of_ble_eq_true rfl) rfl ?_
  exact hR _ (by decide) _ _ _ rfl rfl
set_option maxRecDepth 20000 in
theorem m_mixed0_5_0 {n vs : Nat} {wo un h : Int64} {bo : Nat → Int32} {ta tr ro ot : Nat → Int64} {Bm : Nat → Nat → Nat → Int32} {bk : Nat → Nat → Int32} (hn : n ≤ 4) {b : Nat} (hb : b < 4) {k : Nat} (hk : k < 3) (h0 : dtM (TnM n Bm 0 5) = 0) : ∃ (un2 : Int64) (bo2 : Nat → Int32) (ta2 tr2 ro2 : Nat → Int64), KX3_mixed l D ca ad [.ref 0, .int 5, .int (Int32.ofNat b), .int (Int32.ofNat k), .int 0] (MW (Int32.ofNat n) (Int32.ofNat vs) wo un h bo ta tr ro ot Bm bk) (some (.long 0)) (MW (Int32.ofNat n) (Int32.ofNat vs) (dtM (TnM n Bm 0 5)) un2 h bo2 ta2 tr2 ro2 ot Bm bk) := by
  obtain ⟨tt, ett⟩ : ∃ z, z = (TnM n Bm 0 5) := ⟨_, rfl⟩
  obtain ⟨dt, edt⟩ : ∃ z, z = dtM tt := ⟨_, rfl⟩
  rw [← ett, ← edt] at h0
  rw [← ett, ← edt]
  refine ⟨un, (boX 0 5), tt, tt, ro, ?_⟩
  refine PX3_mixed (Nat.le_of_ble_eq_true rfl) ?_
  intro G hT hC hR
  refine mB hT 39 rfl ?_
  refine mNf (lv2 := [(5, .int 2), (0, .ref 0), (1, .int 5), (2, .int (Int32.ofNat b)), (3, .int (Int32.ofNat k)), (4, .int 0)]) (st2 := []) rfl rfl ?_
  refine mWd (w2 := (MW (Int32.ofNat n) (Int32.ofNat vs) wo un h (up (up (up bo 0 5) 1 5) 2 5) ta tr ro ot Bm bk)) rfl ?_
  refine mB hT 19 rfl ?_
  refine mNf (lv2 := [(5, .int 4), (0, .ref 0), (1, .int 5), (2, .int (Int32.ofNat b)), (3, .int (Int32.ofNat k)), (4, .int 0)]) (st2 := [.ref 0]) rfl rfl ?_
  refine mWd (w2 := (MW (Int32.ofNat n) (Int32.ofNat vs) wo un h (up (up (up (up bo 0 5) 1 5) 2 5) 3 5) ta tr ro ot Bm bk)) rfl ?_
  refine mWd (w2 := (MW (Int32.ofNat n) (Int32.ofNat vs) wo un h (boX 0 5) ta tr ro ot Bm bk)) rfl ?_
  refine hC.1 _ 0 [] _ _ _ _ _ (show KX3_lay l D ca ad _ _ none (MW (Int32.ofNat n) (Int32.ofNat vs) dt un h (boX 0 5) tt tt ro ot Bm bk) from (by rw [edt, ett]; exact m_lay_0_5 hn)) rfl rfl (Nat.le_of_ble_eq_true rfl) rfl ?_
  refine mB hT 5 rfl ?_
  refine mIf (fun _ => ?_) (fun hn => absurd (lc_eq.mpr h0) hn)
  refine mB hT 1 rfl ?_
  exact hR _ (by decide) _ _ _ rfl rfl
set_option maxRecDepth 20000 in
theorem m_mixed1_5_0 {n vs : Nat} {wo un h : Int64} {bo : Nat → Int32} {ta tr ro ot : Nat → Int64} {Bm : Nat → Nat → Nat → Int32} {bk : Nat → Nat → Int32} (hn : n ≤ 4) {b : Nat} (hb : b < 4) {k : Nat} (hk : k < 3) (h0 : ¬ dtM (TnM n Bm 0 5) = 0) : ∃ (un2 : Int64) (bo2 : Nat → Int32) (ta2 tr2 ro2 : Nat → Int64), KX3_mixed l D ca ad [.ref 0, .int 5, .int (Int32.ofNat b), .int (Int32.ofNat k), .int 0] (MW (Int32.ofNat n) (Int32.ofNat vs) wo un h bo ta tr ro ot Bm bk) (some (.long (thM (smG n (fun i s => emM (Bm (bkM 0 5 i) i) k s) (rdM n (TnM n Bm 0 5) (dtM (TnM n Bm 0 5)) (fun j => (bk b j).toInt64)) 1) (absX (dtM (TnM n Bm 0 5)))))) (MW (Int32.ofNat n) (Int32.ofNat vs) (dtM (TnM n Bm 0 5)) un2 h bo2 ta2 tr2 ro2 ot Bm bk) := by
  obtain ⟨tt, ett⟩ : ∃ z, z = (TnM n Bm 0 5) := ⟨_, rfl⟩
  obtain ⟨dt, edt⟩ : ∃ z, z = dtM tt := ⟨_, rfl⟩
  rw [← ett, ← edt] at h0
  obtain ⟨rr, err⟩ : ∃ z, z = rdM n tt dt (fun j => (bk b j).toInt64) := ⟨_, rfl⟩
  obtain ⟨ts, ets⟩ : ∃ z, z = tsM n tt 3 (fun j => (bk b j).toInt64) := ⟨_, rfl⟩
  obtain ⟨sm, esm⟩ : ∃ z, z = smG n (fun i s => emM (Bm (bkM 0 5 i) i) k s) rr 1 := ⟨_, rfl⟩
  rw [← ett, ← edt, ← err, ← esm]
  refine ⟨absX dt, (boX 0 5), tt, ts, rr, ?_⟩
  refine PX3_mixed (Nat.le_of_ble_eq_true rfl) ?_
  intro G hT hC hR
  refine mB hT 39 rfl ?_
  refine mNf (lv2 := [(5, .int 2), (0, .ref 0), (1, .int 5), (2, .int (Int32.ofNat b)), (3, .int (Int32.ofNat k)), (4, .int 0)]) (st2 := []) rfl rfl ?_
  refine mWd (w2 := (MW (Int32.ofNat n) (Int32.ofNat vs) wo un h (up (up (up bo 0 5) 1 5) 2 5) ta tr ro ot Bm bk)) rfl ?_
  refine mB hT 19 rfl ?_
  refine mNf (lv2 := [(5, .int 4), (0, .ref 0), (1, .int 5), (2, .int (Int32.ofNat b)), (3, .int (Int32.ofNat k)), (4, .int 0)]) (st2 := [.ref 0]) rfl rfl ?_
  refine mWd (w2 := (MW (Int32.ofNat n) (Int32.ofNat vs) wo un h (up (up (up (up bo 0 5) 1 5) 2 5) 3 5) ta tr ro ot Bm bk)) rfl ?_
  refine mWd (w2 := (MW (Int32.ofNat n) (Int32.ofNat vs) wo un h (boX 0 5) ta tr ro ot Bm bk)) rfl ?_
  refine hC.1 _ 0 [] _ _ _ _ _ (show KX3_lay l D ca ad _ _ none (MW (Int32.ofNat n) (Int32.ofNat vs) dt un h (boX 0 5) tt tt ro ot Bm bk) from (by rw [edt, ett]; exact m_lay_0_5 hn)) rfl rfl (Nat.le_of_ble_eq_true rfl) rfl ?_
  refine mB hT 5 rfl ?_
  refine mIf (fun hp => absurd hp (fun q => h0 (lc_eq.mp q))) (fun _ => ?_)
  refine mB hT 2 rfl ?_
  refine hC.2.1 _ 0 [_] _ _ _ _ _ (show KX3_solve l D ca ad _ _ none (MW (Int32.ofNat n) (Int32.ofNat vs) dt (absX dt) h (boX 0 5) tt ts rr ot Bm bk) from (by rw [err, ets]; exact m_solve hn hb)) rfl rfl (Nat.le_of_ble_eq_true rfl) rfl ?_
  refine mB hT 3 rfl ?_
  refine hC.2.2.1 _ 0 [_, _] _ _ _ _ _ (show KX3_sum l D ca ad _ _ (some (.long sm)) _ from (by rw [esm]; exact m_sum_0_5 hn k 1 hk (by decide))) rfl rfl (Nat.le_of_ble_eq_true rfl) rfl ?_
  refine mB hT 2 rfl ?_
  refine hC.2.2.2 _ [_, _] _ _ _ _ (m_th (absX_ne h0)) rfl (Nat.le_of_ble_eq_true rfl) rfl ?_
  exact hR _ (by decide) _ _ _ rfl rfl
set_option maxRecDepth 20000 in
theorem m_mixed0_5_1 {n vs : Nat} {wo un h : Int64} {bo : Nat → Int32} {ta tr ro ot : Nat → Int64} {Bm : Nat → Nat → Nat → Int32} {bk : Nat → Nat → Int32} (hn : n ≤ 4) {b : Nat} (hb : b < 4) {k : Nat} (hk : k < 3) (h0 : dtM (TnM n Bm 1 5) = 0) : ∃ (un2 : Int64) (bo2 : Nat → Int32) (ta2 tr2 ro2 : Nat → Int64), KX3_mixed l D ca ad [.ref 0, .int 5, .int (Int32.ofNat b), .int (Int32.ofNat k), .int 1] (MW (Int32.ofNat n) (Int32.ofNat vs) wo un h bo ta tr ro ot Bm bk) (some (.long 0)) (MW (Int32.ofNat n) (Int32.ofNat vs) (dtM (TnM n Bm 1 5)) un2 h bo2 ta2 tr2 ro2 ot Bm bk) := by
  obtain ⟨tt, ett⟩ : ∃ z, z = (TnM n Bm 1 5) := ⟨_, rfl⟩
  obtain ⟨dt, edt⟩ : ∃ z, z = dtM tt := ⟨_, rfl⟩
  rw [← ett, ← edt] at h0
  rw [← ett, ← edt]
  refine ⟨un, (boX 1 5), tt, tt, ro, ?_⟩
  refine PX3_mixed (Nat.le_of_ble_eq_true rfl) ?_
  intro G hT hC hR
  refine mB hT 40 rfl ?_
  refine mNf (lv2 := [(5, .int 2), (0, .ref 0), (1, .int 5), (2, .int (Int32.ofNat b)), (3, .int (Int32.ofNat k)), (4, .int 1)]) (st2 := []) rfl rfl ?_
  refine mWd (w2 := (MW (Int32.ofNat n) (Int32.ofNat vs) wo un h (up (up (up bo 0 6) 1 5) 2 5) ta tr ro ot Bm bk)) rfl ?_
  refine mB hT 19 rfl ?_
  refine mNf (lv2 := [(5, .int 4), (0, .ref 0), (1, .int 5), (2, .int (Int32.ofNat b)), (3, .int (Int32.ofNat k)), (4, .int 1)]) (st2 := [.ref 0]) rfl rfl ?_
  refine mWd (w2 := (MW (Int32.ofNat n) (Int32.ofNat vs) wo un h (up (up (up (up bo 0 6) 1 5) 2 5) 3 5) ta tr ro ot Bm bk)) rfl ?_
  refine mWd (w2 := (MW (Int32.ofNat n) (Int32.ofNat vs) wo un h (boX 1 5) ta tr ro ot Bm bk)) rfl ?_
  refine hC.1 _ 0 [] _ _ _ _ _ (show KX3_lay l D ca ad _ _ none (MW (Int32.ofNat n) (Int32.ofNat vs) dt un h (boX 1 5) tt tt ro ot Bm bk) from (by rw [edt, ett]; exact m_lay_1_5 hn)) rfl rfl (Nat.le_of_ble_eq_true rfl) rfl ?_
  refine mB hT 5 rfl ?_
  refine mIf (fun _ => ?_) (fun hn => absurd (lc_eq.mpr h0) hn)
  refine mB hT 1 rfl ?_
  exact hR _ (by decide) _ _ _ rfl rfl
set_option maxRecDepth 20000 in
theorem m_mixed1_5_1 {n vs : Nat} {wo un h : Int64} {bo : Nat → Int32} {ta tr ro ot : Nat → Int64} {Bm : Nat → Nat → Nat → Int32} {bk : Nat → Nat → Int32} (hn : n ≤ 4) {b : Nat} (hb : b < 4) {k : Nat} (hk : k < 3) (h0 : ¬ dtM (TnM n Bm 1 5) = 0) : ∃ (un2 : Int64) (bo2 : Nat → Int32) (ta2 tr2 ro2 : Nat → Int64), KX3_mixed l D ca ad [.ref 0, .int 5, .int (Int32.ofNat b), .int (Int32.ofNat k), .int 1] (MW (Int32.ofNat n) (Int32.ofNat vs) wo un h bo ta tr ro ot Bm bk) (some (.long (thM (smG n (fun i s => emM (Bm (bkM 1 5 i) i) k s) (rdM n (TnM n Bm 1 5) (dtM (TnM n Bm 1 5)) (fun j => (bk b j).toInt64)) 1) (absX (dtM (TnM n Bm 1 5)))))) (MW (Int32.ofNat n) (Int32.ofNat vs) (dtM (TnM n Bm 1 5)) un2 h bo2 ta2 tr2 ro2 ot Bm bk) := by
  obtain ⟨tt, ett⟩ : ∃ z, z = (TnM n Bm 1 5) := ⟨_, rfl⟩
  obtain ⟨dt, edt⟩ : ∃ z, z = dtM tt := ⟨_, rfl⟩
  rw [← ett, ← edt] at h0
  obtain ⟨rr, err⟩ : ∃ z, z = rdM n tt dt (fun j => (bk b j).toInt64) := ⟨_, rfl⟩
  obtain ⟨ts, ets⟩ : ∃ z, z = tsM n tt 3 (fun j => (bk b j).toInt64) := ⟨_, rfl⟩
  obtain ⟨sm, esm⟩ : ∃ z, z = smG n (fun i s => emM (Bm (bkM 1 5 i) i) k s) rr 1 := ⟨_, rfl⟩
  rw [← ett, ← edt, ← err, ← esm]
  refine ⟨absX dt, (boX 1 5), tt, ts, rr, ?_⟩
  refine PX3_mixed (Nat.le_of_ble_eq_true rfl) ?_
  intro G hT hC hR
  refine mB hT 40 rfl ?_
  refine mNf (lv2 := [(5, .int 2), (0, .ref 0), (1, .int 5), (2, .int (Int32.ofNat b)), (3, .int (Int32.ofNat k)), (4, .int 1)]) (st2 := []) rfl rfl ?_
  refine mWd (w2 := (MW (Int32.ofNat n) (Int32.ofNat vs) wo un h (up (up (up bo 0 6) 1 5) 2 5) ta tr ro ot Bm bk)) rfl ?_
  refine mB hT 19 rfl ?_
  refine mNf (lv2 := [(5, .int 4), (0, .ref 0), (1, .int 5), (2, .int (Int32.ofNat b)), (3, .int (Int32.ofNat k)), (4, .int 1)]) (st2 := [.ref 0]) rfl rfl ?_
  refine mWd (w2 := (MW (Int32.ofNat n) (Int32.ofNat vs) wo un h (up (up (up (up bo 0 6) 1 5) 2 5) 3 5) ta tr ro ot Bm bk)) rfl ?_
  refine mWd (w2 := (MW (Int32.ofNat n) (Int32.ofNat vs) wo un h (boX 1 5) ta tr ro ot Bm bk)) rfl ?_
  refine hC.1 _ 0 [] _ _ _ _ _ (show KX3_lay l D ca ad _ _ none (MW (Int32.ofNat n) (Int32.ofNat vs) dt un h (boX 1 5) tt tt ro ot Bm bk) from (by rw [edt, ett]; exact m_lay_1_5 hn)) rfl rfl (Nat.le_of_ble_eq_true rfl) rfl ?_
  refine mB hT 5 rfl ?_
  refine mIf (fun hp => absurd hp (fun q => h0 (lc_eq.mp q))) (fun _ => ?_)
  refine mB hT 2 rfl ?_
  refine hC.2.1 _ 0 [_] _ _ _ _ _ (show KX3_solve l D ca ad _ _ none (MW (Int32.ofNat n) (Int32.ofNat vs) dt (absX dt) h (boX 1 5) tt ts rr ot Bm bk) from (by rw [err, ets]; exact m_solve hn hb)) rfl rfl (Nat.le_of_ble_eq_true rfl) rfl ?_
  refine mB hT 3 rfl ?_
  refine hC.2.2.1 _ 0 [_, _] _ _ _ _ _ (show KX3_sum l D ca ad _ _ (some (.long sm)) _ from (by rw [esm]; exact m_sum_1_5 hn k 1 hk (by decide))) rfl rfl (Nat.le_of_ble_eq_true rfl) rfl ?_
  refine mB hT 2 rfl ?_
  refine hC.2.2.2 _ [_, _] _ _ _ _ (m_th (absX_ne h0)) rfl (Nat.le_of_ble_eq_true rfl) rfl ?_
  exact hR _ (by decide) _ _ _ rfl rfl
set_option maxRecDepth 20000 in
theorem m_mixed0_5_2 {n vs : Nat} {wo un h : Int64} {bo : Nat → Int32} {ta tr ro ot : Nat → Int64} {Bm : Nat → Nat → Nat → Int32} {bk : Nat → Nat → Int32} (hn : n ≤ 4) {b : Nat} (hb : b < 4) {k : Nat} (hk : k < 3) (h0 : dtM (TnM n Bm 2 5) = 0) : ∃ (un2 : Int64) (bo2 : Nat → Int32) (ta2 tr2 ro2 : Nat → Int64), KX3_mixed l D ca ad [.ref 0, .int 5, .int (Int32.ofNat b), .int (Int32.ofNat k), .int 2] (MW (Int32.ofNat n) (Int32.ofNat vs) wo un h bo ta tr ro ot Bm bk) (some (.long 0)) (MW (Int32.ofNat n) (Int32.ofNat vs) (dtM (TnM n Bm 2 5)) un2 h bo2 ta2 tr2 ro2 ot Bm bk) := by
  obtain ⟨tt, ett⟩ : ∃ z, z = (TnM n Bm 2 5) := ⟨_, rfl⟩
  obtain ⟨dt, edt⟩ : ∃ z, z = dtM tt := ⟨_, rfl⟩
  rw [← ett, ← edt] at h0
  rw [← ett, ← edt]
  refine ⟨un, (boX 2 5), tt, tt, ro, ?_⟩
  refine PX3_mixed (Nat.le_of_ble_eq_true rfl) ?_
  intro G hT hC hR
  refine mB hT 40 rfl ?_
  refine mNf (lv2 := [(5, .int 2), (0, .ref 0), (1, .int 5), (2, .int (Int32.ofNat b)), (3, .int (Int32.ofNat k)), (4, .int 2)]) (st2 := [.int 5, .int 2, .ref 9]) rfl rfl ?_
  refine mB hT 1 rfl ?_
  refine mWd (w2 := (MW (Int32.ofNat n) (Int32.ofNat vs) wo un h (up (up (up bo 0 6) 1 6) 2 5) ta tr ro ot Bm bk)) rfl ?_
  refine mB hT 19 rfl ?_
  refine mNf (lv2 := [(5, .int 4), (0, .ref 0), (1, .int 5), (2, .int (Int32.ofNat b)), (3, .int (Int32.ofNat k)), (4, .int 2)]) (st2 := [.ref 0]) rfl rfl ?_
  refine mWd (w2 := (MW (Int32.ofNat n) (Int32.ofNat vs) wo un h (up (up (up (up bo 0 6) 1 6) 2 5) 3 5) ta tr ro ot Bm bk)) rfl ?_
  refine mWd (w2 := (MW (Int32.ofNat n) (Int32.ofNat vs) wo un h (boX 2 5) ta tr ro ot Bm bk)) rfl ?_
  refine hC.1 _ 0 [] _ _ _ _ _ (show KX3_lay l D ca ad _ _ none (MW (Int32.ofNat n) (Int32.ofNat vs) dt un h (boX 2 5) tt tt ro ot Bm bk) from (by rw [edt, ett]; exact m_lay_2_5 hn)) rfl rfl (Nat.le_of_ble_eq_true rfl) rfl ?_
  refine mB hT 5 rfl ?_
  refine mIf (fun _ => ?_) (fun hn => absurd (lc_eq.mpr h0) hn)
  refine mB hT 1 rfl ?_
  exact hR _ (by decide) _ _ _ rfl rfl
set_option maxRecDepth 20000 in
theorem m_mixed1_5_2 {n vs : Nat} {wo un h : Int64} {bo : Nat → Int32} {ta tr ro ot : Nat → Int64} {Bm : Nat → Nat → Nat → Int32} {bk : Nat → Nat → Int32} (hn : n ≤ 4) {b : Nat} (hb : b < 4) {k : Nat} (hk : k < 3) (h0 : ¬ dtM (TnM n Bm 2 5) = 0) : ∃ (un2 : Int64) (bo2 : Nat → Int32) (ta2 tr2 ro2 : Nat → Int64), KX3_mixed l D ca ad [.ref 0, .int 5, .int (Int32.ofNat b), .int (Int32.ofNat k), .int 2] (MW (Int32.ofNat n) (Int32.ofNat vs) wo un h bo ta tr ro ot Bm bk) (some (.long (thM (smG n (fun i s => emM (Bm (bkM 2 5 i) i) k s) (rdM n (TnM n Bm 2 5) (dtM (TnM n Bm 2 5)) (fun j => (bk b j).toInt64)) 1) (absX (dtM (TnM n Bm 2 5)))))) (MW (Int32.ofNat n) (Int32.ofNat vs) (dtM (TnM n Bm 2 5)) un2 h bo2 ta2 tr2 ro2 ot Bm bk) := by
  obtain ⟨tt, ett⟩ : ∃ z, z = (TnM n Bm 2 5) := ⟨_, rfl⟩
  obtain ⟨dt, edt⟩ : ∃ z, z = dtM tt := ⟨_, rfl⟩
  rw [← ett, ← edt] at h0
  obtain ⟨rr, err⟩ : ∃ z, z = rdM n tt dt (fun j => (bk b j).toInt64) := ⟨_, rfl⟩
  obtain ⟨ts, ets⟩ : ∃ z, z = tsM n tt 3 (fun j => (bk b j).toInt64) := ⟨_, rfl⟩
  obtain ⟨sm, esm⟩ : ∃ z, z = smG n (fun i s => emM (Bm (bkM 2 5 i) i) k s) rr 1 := ⟨_, rfl⟩
  rw [← ett, ← edt, ← err, ← esm]
  refine ⟨absX dt, (boX 2 5), tt, ts, rr, ?_⟩
  refine PX3_mixed (Nat.le_of_ble_eq_true rfl) ?_
  intro G hT hC hR
  refine mB hT 40 rfl ?_
  refine mNf (lv2 := [(5, .int 2), (0, .ref 0), (1, .int 5), (2, .int (Int32.ofNat b)), (3, .int (Int32.ofNat k)), (4, .int 2)]) (st2 := [.int 5, .int 2, .ref 9]) rfl rfl ?_
  refine mB hT 1 rfl ?_
  refine mWd (w2 := (MW (Int32.ofNat n) (Int32.ofNat vs) wo un h (up (up (up bo 0 6) 1 6) 2 5) ta tr ro ot Bm bk)) rfl ?_
  refine mB hT 19 rfl ?_
  refine mNf (lv2 := [(5, .int 4), (0, .ref 0), (1, .int 5), (2, .int (Int32.ofNat b)), (3, .int (Int32.ofNat k)), (4, .int 2)]) (st2 := [.ref 0]) rfl rfl ?_
  refine mWd (w2 := (MW (Int32.ofNat n) (Int32.ofNat vs) wo un h (up (up (up (up bo 0 6) 1 6) 2 5) 3 5) ta tr ro ot Bm bk)) rfl ?_
  refine mWd (w2 := (MW (Int32.ofNat n) (Int32.ofNat vs) wo un h (boX 2 5) ta tr ro ot Bm bk)) rfl ?_
  refine hC.1 _ 0 [] _ _ _ _ _ (show KX3_lay l D ca ad _ _ none (MW (Int32.ofNat n) (Int32.ofNat vs) dt un h (boX 2 5) tt tt ro ot Bm bk) from (by rw [edt, ett]; exact m_lay_2_5 hn)) rfl rfl (Nat.le_of_ble_eq_true rfl) rfl ?_
  refine mB hT 5 rfl ?_
  refine mIf (fun hp => absurd hp (fun q => h0 (lc_eq.mp q))) (fun _ => ?_)
  refine mB hT 2 rfl ?_
  refine hC.2.1 _ 0 [_] _ _ _ _ _ (show KX3_solve l D ca ad _ _ none (MW (Int32.ofNat n) (Int32.ofNat vs) dt (absX dt) h (boX 2 5) tt ts rr ot Bm bk) from (by rw [err, ets]; exact m_solve hn hb)) rfl rfl (Nat.le_of_ble_eq_true rfl) rfl ?_
  refine mB hT 3 rfl ?_
  refine hC.2.2.1 _ 0 [_, _] _ _ _ _ _ (show KX3_sum l D ca ad _ _ (some (.long sm)) _ from (by rw [esm]; exact m_sum_2_5 hn k 1 hk (by decide))) rfl rfl (Nat.le_of_ble_eq_true rfl) rfl ?_
  refine mB hT 2 rfl ?_
  refine hC.2.2.2 _ [_, _] _ _ _ _ (m_th (absX_ne h0)) rfl (Nat.le_of_ble_eq_true rfl) rfl ?_
  exact hR _ (by decide) _ _ _ rfl rfl
set_option maxRecDepth 20000 in
theorem m_mixed0_5_3 {n vs : Nat} {wo un h : Int64} {bo : Nat → Int32} {ta tr ro ot : Nat → Int64} {Bm : Nat → Nat → Nat → Int32} {bk : Nat → Nat → Int32} (hn : n ≤ 4) {b : Nat} (hb : b < 4) {k : Nat} (hk : k < 3) (h0 : dtM (TnM n Bm 3 5) = 0) : ∃ (un2 : Int64) (bo2 : Nat → Int32) (ta2 tr2 ro2 : Nat → Int64), KX3_mixed l D ca ad [.ref 0, .int 5, .int (Int32.ofNat b), .int (Int32.ofNat k), .int 3] (MW (Int32.ofNat n) (Int32.ofNat vs) wo un h bo ta tr ro ot Bm bk) (some (.long 0)) (MW (Int32.ofNat n) (Int32.ofNat vs) (dtM (TnM n Bm 3 5)) un2 h bo2 ta2 tr2 ro2 ot Bm bk) := by
  obtain ⟨tt, ett⟩ : ∃ z, z = (TnM n Bm 3 5) := ⟨_, rfl⟩
  obtain ⟨dt, edt⟩ : ∃ z, z = dtM tt := ⟨_, rfl⟩
  rw [← ett, ← edt] at h0
  rw [← ett, ← edt]
  refine ⟨un, (boX 3 5), tt, tt, ro, ?_⟩
  refine PX3_mixed (Nat.le_of_ble_eq_true rfl) ?_
  intro G hT hC hR
  refine mB hT 40 rfl ?_
  refine mNf (lv2 := [(5, .int 2), (0, .ref 0), (1, .int 5), (2, .int (Int32.ofNat b)), (3, .int (Int32.ofNat k)), (4, .int 3)]) (st2 := [.int 6, .int 2, .ref 9]) rfl rfl ?_
  refine mB hT 2 rfl ?_
  refine mWd (w2 := (MW (Int32.ofNat n) (Int32.ofNat vs) wo un h (up (up (up bo 0 6) 1 6) 2 6) ta tr ro ot Bm bk)) rfl ?_
  refine mB hT 19 rfl ?_
  refine mNf (lv2 := [(5, .int 4), (0, .ref 0), (1, .int 5), (2, .int (Int32.ofNat b)), (3, .int (Int32.ofNat k)), (4, .int 3)]) (st2 := [.ref 0]) rfl rfl ?_
  refine mWd (w2 := (MW (Int32.ofNat n) (Int32.ofNat vs) wo un h (up (up (up (up bo 0 6) 1 6) 2 6) 3 5) ta tr ro ot Bm bk)) rfl ?_
  refine mWd (w2 := (MW (Int32.ofNat n) (Int32.ofNat vs) wo un h (boX 3 5) ta tr ro ot Bm bk)) rfl ?_
  refine hC.1 _ 0 [] _ _ _ _ _ (show KX3_lay l D ca ad _ _ none (MW (Int32.ofNat n) (Int32.ofNat vs) dt un h (boX 3 5) tt tt ro ot Bm bk) from (by rw [edt, ett]; exact m_lay_3_5 hn)) rfl rfl (Nat.le_of_ble_eq_true rfl) rfl ?_
  refine mB hT 5 rfl ?_
  refine mIf (fun _ => ?_) (fun hn => absurd (lc_eq.mpr h0) hn)
  refine mB hT 1 rfl ?_
  exact hR _ (by decide) _ _ _ rfl rfl
set_option maxRecDepth 20000 in
theorem m_mixed1_5_3 {n vs : Nat} {wo un h : Int64} {bo : Nat → Int32} {ta tr ro ot : Nat → Int64} {Bm : Nat → Nat → Nat → Int32} {bk : Nat → Nat → Int32} (hn : n ≤ 4) {b : Nat} (hb : b < 4) {k : Nat} (hk : k < 3) (h0 : ¬ dtM (TnM n Bm 3 5) = 0) : ∃ (un2 : Int64) (bo2 : Nat → Int32) (ta2 tr2 ro2 : Nat → Int64), KX3_mixed l D ca ad [.ref 0, .int 5, .int (Int32.ofNat b), .int (Int32.ofNat k), .int 3] (MW (Int32.ofNat n) (Int32.ofNat vs) wo un h bo ta tr ro ot Bm bk) (some (.long (thM (smG n (fun i s => emM (Bm (bkM 3 5 i) i) k s) (rdM n (TnM n Bm 3 5) (dtM (TnM n Bm 3 5)) (fun j => (bk b j).toInt64)) 1) (absX (dtM (TnM n Bm 3 5)))))) (MW (Int32.ofNat n) (Int32.ofNat vs) (dtM (TnM n Bm 3 5)) un2 h bo2 ta2 tr2 ro2 ot Bm bk) := by
  obtain ⟨tt, ett⟩ : ∃ z, z = (TnM n Bm 3 5) := ⟨_, rfl⟩
  obtain ⟨dt, edt⟩ : ∃ z, z = dtM tt := ⟨_, rfl⟩
  rw [← ett, ← edt] at h0
  obtain ⟨rr, err⟩ : ∃ z, z = rdM n tt dt (fun j => (bk b j).toInt64) := ⟨_, rfl⟩
  obtain ⟨ts, ets⟩ : ∃ z, z = tsM n tt 3 (fun j => (bk b j).toInt64) := ⟨_, rfl⟩
  obtain ⟨sm, esm⟩ : ∃ z, z = smG n (fun i s => emM (Bm (bkM 3 5 i) i) k s) rr 1 := ⟨_, rfl⟩
  rw [← ett, ← edt, ← err, ← esm]
  refine ⟨absX dt, (boX 3 5), tt, ts, rr, ?_⟩
  refine PX3_mixed (Nat.le_of_ble_eq_true rfl) ?_
  intro G hT hC hR
  refine mB hT 40 rfl ?_
  refine mNf (lv2 := [(5, .int 2), (0, .ref 0), (1, .int 5), (2, .int (Int32.ofNat b)), (3, .int (Int32.ofNat k)), (4, .int 3)]) (st2 := [.int 6, .int 2, .ref 9]) rfl rfl ?_
  refine mB hT 2 rfl ?_
  refine mWd (w2 := (MW (Int32.ofNat n) (Int32.ofNat vs) wo un h (up (up (up bo 0 6) 1 6) 2 6) ta tr ro ot Bm bk)) rfl ?_
  refine mB hT 19 rfl ?_
  refine mNf (lv2 := [(5, .int 4), (0, .ref 0), (1, .int 5), (2, .int (Int32.ofNat b)), (3, .int (Int32.ofNat k)), (4, .int 3)]) (st2 := [.ref 0]) rfl rfl ?_
  refine mWd (w2 := (MW (Int32.ofNat n) (Int32.ofNat vs) wo un h (up (up (up (up bo 0 6) 1 6) 2 6) 3 5) ta tr ro ot Bm bk)) rfl ?_
  refine mWd (w2 := (MW (Int32.ofNat n) (Int32.ofNat vs) wo un h (boX 3 5) ta tr ro ot Bm bk)) rfl ?_
  refine hC.1 _ 0 [] _ _ _ _ _ (show KX3_lay l D ca ad _ _ none (MW (Int32.ofNat n) (Int32.ofNat vs) dt un h (boX 3 5) tt tt ro ot Bm bk) from (by rw [edt, ett]; exact m_lay_3_5 hn)) rfl rfl (Nat.le_of_ble_eq_true rfl) rfl ?_
  refine mB hT 5 rfl ?_
  refine mIf (fun hp => absurd hp (fun q => h0 (lc_eq.mp q))) (fun _ => ?_)
  refine mB hT 2 rfl ?_
  refine hC.2.1 _ 0 [_] _ _ _ _ _ (show KX3_solve l D ca ad _ _ none (MW (Int32.ofNat n) (Int32.ofNat vs) dt (absX dt) h (boX 3 5) tt ts rr ot Bm bk) from (by rw [err, ets]; exact m_solve hn hb)) rfl rfl (Nat.le_of_ble_eq_true rfl) rfl ?_
  refine mB hT 3 rfl ?_
  refine hC.2.2.1 _ 0 [_, _] _ _ _ _ _ (show KX3_sum l D ca ad _ _ (some (.long sm)) _ from (by rw [esm]; exact m_sum_3_5 hn k 1 hk (by decide))) rfl rfl (Nat.le_of_ble_eq_true rfl) rfl ?_
  refine mB hT 2 rfl ?_
  refine hC.2.2.2 _ [_, _] _ _ _ _ (m_th (absX_ne h0)) rfl (Nat.le_of_ble_eq_true rfl) rfl ?_
  exact hR _ (by decide) _ _ _ rfl rfl
set_option maxRecDepth 20000 in
theorem m_mixed0_5_4 {n vs : Nat} {wo un h : Int64} {bo : Nat → Int32} {ta tr ro ot : Nat → Int64} {Bm : Nat → Nat → Nat → Int32} {bk : Nat → Nat → Int32} (hn : n ≤ 4) {b : Nat} (hb : b < 4) {k : Nat} (hk : k < 3) (h0 : dtM (TnM n Bm 4 0) = 0) : ∃ (un2 : Int64) (bo2 : Nat → Int32) (ta2 tr2 ro2 : Nat → Int64), KX3_mixed l D ca ad [.ref 0, .int 5, .int (Int32.ofNat b), .int (Int32.ofNat k), .int 4] (MW (Int32.ofNat n) (Int32.ofNat vs) wo un h bo ta tr ro ot Bm bk) (some (.long 0)) (MW (Int32.ofNat n) (Int32.ofNat vs) (dtM (TnM n Bm 4 0)) un2 h bo2 ta2 tr2 ro2 ot Bm bk) := by
  obtain ⟨tt, ett⟩ : ∃ z, z = (TnM n Bm 4 0) := ⟨_, rfl⟩
  obtain ⟨dt, edt⟩ : ∃ z, z = dtM tt := ⟨_, rfl⟩
  rw [← ett, ← edt] at h0
  rw [← ett, ← edt]
  refine ⟨un, (boX 4 0), tt, tt, ro, ?_⟩
  refine PX3_mixed (Nat.le_of_ble_eq_true rfl) ?_
  intro G hT hC hR
  refine mB hT 40 rfl ?_
  refine mNf (lv2 := [(5, .int 2), (0, .ref 0), (1, .int 5), (2, .int (Int32.ofNat b)), (3, .int (Int32.ofNat k)), (4, .int 4)]) (st2 := [.int 6, .int 2, .ref 9]) rfl rfl ?_
  refine mB hT 2 rfl ?_
  refine mWd (w2 := (MW (Int32.ofNat n) (Int32.ofNat vs) wo un h (up (up (up bo 0 6) 1 6) 2 6) ta tr ro ot Bm bk)) rfl ?_
  refine mB hT 20 rfl ?_
  refine mNf (lv2 := [(5, .int 4), (0, .ref 0), (1, .int 5), (2, .int (Int32.ofNat b)), (3, .int (Int32.ofNat k)), (4, .int 4)]) (st2 := [.ref 0]) rfl rfl ?_
  refine mWd (w2 := (MW (Int32.ofNat n) (Int32.ofNat vs) wo un h (up (up (up (up bo 0 6) 1 6) 2 6) 3 6) ta tr ro ot Bm bk)) rfl ?_
  refine mWd (w2 := (MW (Int32.ofNat n) (Int32.ofNat vs) wo un h (boX 4 0) ta tr ro ot Bm bk)) rfl ?_
  refine hC.1 _ 0 [] _ _ _ _ _ (show KX3_lay l D ca ad _ _ none (MW (Int32.ofNat n) (Int32.ofNat vs) dt un h (boX 4 0) tt tt ro ot Bm bk) from (by rw [edt, ett]; exact m_lay_4_0 hn)) rfl rfl (Nat.le_of_ble_eq_true rfl) rfl ?_
  refine mB hT 5 rfl ?_
  refine mIf (fun _ => ?_) (fun hn => absurd (lc_eq.mpr h0) hn)
  refine mB hT 1 rfl ?_
  exact hR _ (by decide) _ _ _ rfl rfl
set_option maxRecDepth 20000 in
theorem m_mixed1_5_4 {n vs : Nat} {wo un h : Int64} {bo : Nat → Int32} {ta tr ro ot : Nat → Int64} {Bm : Nat → Nat → Nat → Int32} {bk : Nat → Nat → Int32} (hn : n ≤ 4) {b : Nat} (hb : b < 4) {k : Nat} (hk : k < 3) (h0 : ¬ dtM (TnM n Bm 4 0) = 0) : ∃ (un2 : Int64) (bo2 : Nat → Int32) (ta2 tr2 ro2 : Nat → Int64), KX3_mixed l D ca ad [.ref 0, .int 5, .int (Int32.ofNat b), .int (Int32.ofNat k), .int 4] (MW (Int32.ofNat n) (Int32.ofNat vs) wo un h bo ta tr ro ot Bm bk) (some (.long (thM (smG n (fun i s => emM (Bm (bkM 4 0 i) i) k s) (rdM n (TnM n Bm 4 0) (dtM (TnM n Bm 4 0)) (fun j => (bk b j).toInt64)) 1) (absX (dtM (TnM n Bm 4 0)))))) (MW (Int32.ofNat n) (Int32.ofNat vs) (dtM (TnM n Bm 4 0)) un2 h bo2 ta2 tr2 ro2 ot Bm bk) := by
  obtain ⟨tt, ett⟩ : ∃ z, z = (TnM n Bm 4 0) := ⟨_, rfl⟩
  obtain ⟨dt, edt⟩ : ∃ z, z = dtM tt := ⟨_, rfl⟩
  rw [← ett, ← edt] at h0
  obtain ⟨rr, err⟩ : ∃ z, z = rdM n tt dt (fun j => (bk b j).toInt64) := ⟨_, rfl⟩
  obtain ⟨ts, ets⟩ : ∃ z, z = tsM n tt 3 (fun j => (bk b j).toInt64) := ⟨_, rfl⟩
  obtain ⟨sm, esm⟩ : ∃ z, z = smG n (fun i s => emM (Bm (bkM 4 0 i) i) k s) rr 1 := ⟨_, rfl⟩
  rw [← ett, ← edt, ← err, ← esm]
  refine ⟨absX dt, (boX 4 0), tt, ts, rr, ?_⟩
  refine PX3_mixed (Nat.le_of_ble_eq_true rfl) ?_
  intro G hT hC hR
  refine mB hT 40 rfl ?_
  refine mNf (lv2 := [(5, .int 2), (0, .ref 0), (1, .int 5), (2, .int (Int32.ofNat b)), (3, .int (Int32.ofNat k)), (4, .int 4)]) (st2 := [.int 6, .int 2, .ref 9]) rfl rfl ?_
  refine mB hT 2 rfl ?_
  refine mWd (w2 := (MW (Int32.ofNat n) (Int32.ofNat vs) wo un h (up (up (up bo 0 6) 1 6) 2 6) ta tr ro ot Bm bk)) rfl ?_
  refine mB hT 20 rfl ?_
  refine mNf (lv2 := [(5, .int 4), (0, .ref 0), (1, .int 5), (2, .int (Int32.ofNat b)), (3, .int (Int32.ofNat k)), (4, .int 4)]) (st2 := [.ref 0]) rfl rfl ?_
  refine mWd (w2 := (MW (Int32.ofNat n) (Int32.ofNat vs) wo un h (up (up (up (up bo 0 6) 1 6) 2 6) 3 6) ta tr ro ot Bm bk)) rfl ?_
  refine mWd (w2 := (MW (Int32.ofNat n) (Int32.ofNat vs) wo un h (boX 4 0) ta tr ro ot Bm bk)) rfl ?_
  refine hC.1 _ 0 [] _ _ _ _ _ (show KX3_lay l D ca ad _ _ none (MW (Int32.ofNat n) (Int32.ofNat vs) dt un h (boX 4 0) tt tt ro ot Bm bk) from (by rw [edt, ett]; exact m_lay_4_0 hn)) rfl rfl (Nat.le_of_ble_eq_true rfl) rfl ?_
  refine mB hT 5 rfl ?_
  refine mIf (fun hp => absurd hp (fun q => h0 (lc_eq.mp q))) (fun _ => ?_)
  refine mB hT 2 rfl ?_
  refine hC.2.1 _ 0 [_] _ _ _ _ _ (show KX3_solve l D ca ad _ _ none (MW (Int32.ofNat n) (Int32.ofNat vs) dt (absX dt) h (boX 4 0) tt ts rr ot Bm bk) from (by rw [err, ets]; exact m_solve hn hb)) rfl rfl (Nat.le_of_ble_eq_true rfl) rfl ?_
  refine mB hT 3 rfl ?_
  refine hC.2.2.1 _ 0 [_, _] _ _ _ _ _ (show KX3_sum l D ca ad _ _ (some (.long sm)) _ from (by rw [esm]; exact m_sum_4_0 hn k 1 hk (by decide))) rfl rfl (Nat.le_of_ble_eq_true rfl) rfl ?_
  refine mB hT 2 rfl ?_
  refine hC.2.2.2 _ [_, _] _ _ _ _ (m_th (absX_ne h0)) rfl (Nat.le_of_ble_eq_true rfl) rfl ?_
  exact hR _ (by decide) _ _ _ rfl rfl
set_option maxRecDepth 20000 in
theorem m_blame_A_0_0 {n vs : Nat} {wo un h : Int64} {bo : Nat → Int32} {ta tr ro ot : Nat → Int64} {Bm : Nat → Nat → Nat → Int32} {bk : Nat → Nat → Int32} (hv : 0 < vs) (hvs : vs ≤ 6) (hi : 0 < n) (hn : n ≤ 4) {b : Nat} (hb : b < 4) {k : Nat} (hk : k < 3) (h1 : dtM (TnM n Bm 1 0) = 0) : ∃ (wo4 un4 : Int64) (bo4 : Nat → Int32) (ta4 tr4 ro4 : Nat → Int64), KX3_blame l D ca ad [.ref 0, .int 0, .int (Int32.ofNat b), .int (Int32.ofNat k), .int 0] (MW (Int32.ofNat n) (Int32.ofNat vs) wo un h bo ta tr ro ot Bm bk) (some (.long (-9000000000000000004))) (MW (Int32.ofNat n) (Int32.ofNat vs) wo4 un4 h bo4 ta4 tr4 ro4 ot Bm bk) := by
  obtain ⟨un1, bo1, ta1, tr1, ro1, hk1⟩ := m_mixed0_0_1 (l := l) (D := D) (ca := ca) (ad := ad) (vs := vs) (wo := wo) (un := un) (h := h) (bo := bo) (ta := ta) (tr := tr) (ro := ro) (ot := ot) hn hb hk h1
  obtain ⟨d1, ed1⟩ : ∃ z, z = dtM (TnM n Bm 1 0) := ⟨_, rfl⟩
  rw [← ed1] at hk1 h1
  refine ⟨d1, un1, bo1, ta1, tr1, ro1, ?_⟩
  refine PX3_blame (Nat.le_of_ble_eq_true rfl) ?_
  intro G hT hC hR
  refine mB hT 6 rfl ?_
  refine hC.1 _ [_, _, _] _ _ _ _ (m_in_t (by decide) ((le_pred (by omega)).mpr (ofNat_lt (i := 0) hv (by omega)))) rfl (Nat.le_of_ble_eq_true rfl) rfl ?_
  refine mB hT 2 rfl ?_
  refine hC.2.1 _ [_] _ _ _ _ (m_isBasket_t hb) rfl (Nat.le_of_ble_eq_true rfl) rfl ?_
  refine mB hT 2 rfl ?_
  refine hC.2.2.1 _ [_] _ _ _ _ (m_isStuff_t hk) rfl (Nat.le_of_ble_eq_true rfl) rfl ?_
  refine mB hT 3 rfl ?_
  refine hC.2.2.2.1 _ 0 [_] _ _ _ _ _ (m_isMaking_t (i := 0) hi hn) rfl rfl (Nat.le_of_ble_eq_true rfl) rfl ?_
  refine mB hT 8 rfl ?_
  refine hC.2.2.2.2.1 _ 0 [_, _, _, _] _ _ _ _ _ (hk1) rfl rfl (Nat.le_of_ble_eq_true rfl) rfl ?_
  refine mB hT 6 rfl ?_
  refine mIf (fun _ => ?_) (fun hn => absurd (lc_eq.mpr h1) hn)
  refine mB hT 1 rfl ?_
  exact hR _ (by decide) _ _ _ rfl rfl
set_option maxRecDepth 20000 in
theorem m_blame_B_0_0 {n vs : Nat} {wo un h : Int64} {bo : Nat → Int32} {ta tr ro ot : Nat → Int64} {Bm : Nat → Nat → Nat → Int32} {bk : Nat → Nat → Int32} (hv : 0 < vs) (hvs : vs ≤ 6) (hi : 0 < n) (hn : n ≤ 4) {b : Nat} (hb : b < 4) {k : Nat} (hk : k < 3) (h1 : ¬ dtM (TnM n Bm 1 0) = 0) (h2 : dtM (TnM n Bm 0 0) = 0) : ∃ (wo4 un4 : Int64) (bo4 : Nat → Int32) (ta4 tr4 ro4 : Nat → Int64), KX3_blame l D ca ad [.ref 0, .int 0, .int (Int32.ofNat b), .int (Int32.ofNat k), .int 0] (MW (Int32.ofNat n) (Int32.ofNat vs) wo un h bo ta tr ro ot Bm bk) (some (.long (-9000000000000000004))) (MW (Int32.ofNat n) (Int32.ofNat vs) wo4 un4 h bo4 ta4 tr4 ro4 ot Bm bk) := by
  obtain ⟨un1, bo1, ta1, tr1, ro1, hk1⟩ := m_mixed1_0_1 (l := l) (D := D) (ca := ca) (ad := ad) (vs := vs) (wo := wo) (un := un) (h := h) (bo := bo) (ta := ta) (tr := tr) (ro := ro) (ot := ot) hn hb hk h1
  obtain ⟨d1, ed1⟩ : ∃ z, z = dtM (TnM n Bm 1 0) := ⟨_, rfl⟩
  rw [← ed1] at hk1 h1
  generalize thM _ _ = a1 at hk1
  obtain ⟨un3, bo3, ta3, tr3, ro3, hk3⟩ := m_mixed0_0_0 (l := l) (D := D) (ca := ca) (ad := ad) (vs := vs) (wo := d1) (un := un1) (h := h) (bo := bo1) (ta := ta1) (tr := tr1) (ro := ro1) (ot := ot) hn hb hk h2
  obtain ⟨d2, ed2⟩ : ∃ z, z = dtM (TnM n Bm 0 0) := ⟨_, rfl⟩
  rw [← ed2] at hk3 h2
  refine ⟨d2, un3, bo3, ta3, tr3, ro3, ?_⟩
  refine PX3_blame (Nat.le_of_ble_eq_true rfl) ?_
  intro G hT hC hR
  refine mB hT 6 rfl ?_
  refine hC.1 _ [_, _, _] _ _ _ _ (m_in_t (by decide) ((le_pred (by omega)).mpr (ofNat_lt (i := 0) hv (by omega)))) rfl (Nat.le_of_ble_eq_true rfl) rfl ?_
  refine mB hT 2 rfl ?_
  refine hC.2.1 _ [_] _ _ _ _ (m_isBasket_t hb) rfl (Nat.le_of_ble_eq_true rfl) rfl ?_
  refine mB hT 2 rfl ?_
  refine hC.2.2.1 _ [_] _ _ _ _ (m_isStuff_t hk) rfl (Nat.le_of_ble_eq_true rfl) rfl ?_
  refine mB hT 3 rfl ?_
  refine hC.2.2.2.1 _ 0 [_] _ _ _ _ _ (m_isMaking_t (i := 0) hi hn) rfl rfl (Nat.le_of_ble_eq_true rfl) rfl ?_
  refine mB hT 8 rfl ?_
  refine hC.2.2.2.2.1 _ 0 [_, _, _, _] _ _ _ _ _ (hk1) rfl rfl (Nat.le_of_ble_eq_true rfl) rfl ?_
  refine mB hT 6 rfl ?_
  refine mIf (fun hp => absurd hp (fun q => h1 (lc_eq.mp q))) (fun _ => ?_)
  refine mB hT 5 rfl ?_
  refine hC.2.2.2.2.2 _ 0 [_, _, _, _] _ _ _ _ _ (hk3) rfl rfl (Nat.le_of_ble_eq_true rfl) rfl ?_
  refine mB hT 6 rfl ?_
  refine mIf (fun _ => ?_) (fun hn => absurd (lc_eq.mpr h2) hn)
  refine mNf (lv2 := [(7, .long 0), (5, .long a1), (0, .ref 0), (1, .int 0), (2, .int (Int32.ofNat b)), (3, .int (Int32.ofNat k)), (4, .int 0)]) (st2 := []) rfl rfl ?_
  refine mB hT 2 rfl ?_
  exact hR _ (by decide) _ _ _ rfl rfl
set_option maxRecDepth 20000 in
theorem m_blame_C_0_0 {n vs : Nat} {wo un h : Int64} {bo : Nat → Int32} {ta tr ro ot : Nat → Int64} {Bm : Nat → Nat → Nat → Int32} {bk : Nat → Nat → Int32} (hv : 0 < vs) (hvs : vs ≤ 6) (hi : 0 < n) (hn : n ≤ 4) {b : Nat} (hb : b < 4) {k : Nat} (hk : k < 3) (h1 : ¬ dtM (TnM n Bm 1 0) = 0) (h2 : ¬ dtM (TnM n Bm 0 0) = 0) : ∃ (wo4 un4 : Int64) (bo4 : Nat → Int32) (ta4 tr4 ro4 : Nat → Int64), KX3_blame l D ca ad [.ref 0, .int 0, .int (Int32.ofNat b), .int (Int32.ofNat k), .int 0] (MW (Int32.ofNat n) (Int32.ofNat vs) wo un h bo ta tr ro ot Bm bk) (some (.long ((thM (smG n (fun i s => emM (Bm (bkM 1 0 i) i) k s) (rdM n (TnM n Bm 1 0) (dtM (TnM n Bm 1 0)) (fun j => (bk b j).toInt64)) 1) (absX (dtM (TnM n Bm 1 0)))) - (thM (smG n (fun i s => emM (Bm (bkM 0 0 i) i) k s) (rdM n (TnM n Bm 0 0) (dtM (TnM n Bm 0 0)) (fun j => (bk b j).toInt64)) 1) (absX (dtM (TnM n Bm 0 0))))))) (MW (Int32.ofNat n) (Int32.ofNat vs) wo4 un4 h bo4 ta4 tr4 ro4 ot Bm bk) := by
  obtain ⟨a1, ea1⟩ : ∃ z, z = (thM (smG n (fun i s => emM (Bm (bkM 1 0 i) i) k s) (rdM n (TnM n Bm 1 0) (dtM (TnM n Bm 1 0)) (fun j => (bk b j).toInt64)) 1) (absX (dtM (TnM n Bm 1 0)))) := ⟨_, rfl⟩
  obtain ⟨a2, ea2⟩ : ∃ z, z = (thM (smG n (fun i s => emM (Bm (bkM 0 0 i) i) k s) (rdM n (TnM n Bm 0 0) (dtM (TnM n Bm 0 0)) (fun j => (bk b j).toInt64)) 1) (absX (dtM (TnM n Bm 0 0)))) := ⟨_, rfl⟩
  obtain ⟨un1, bo1, ta1, tr1, ro1, hk1⟩ := m_mixed1_0_1 (l := l) (D := D) (ca := ca) (ad := ad) (vs := vs) (wo := wo) (un := un) (h := h) (bo := bo) (ta := ta) (tr := tr) (ro := ro) (ot := ot) hn hb hk h1
  rw [← ea1] at hk1
  obtain ⟨d1, ed1⟩ : ∃ z, z = dtM (TnM n Bm 1 0) := ⟨_, rfl⟩
  rw [← ed1] at hk1 h1
  obtain ⟨un3, bo3, ta3, tr3, ro3, hk3⟩ := m_mixed1_0_0 (l := l) (D := D) (ca := ca) (ad := ad) (vs := vs) (wo := d1) (un := un1) (h := h) (bo := bo1) (ta := ta1) (tr := tr1) (ro := ro1) (ot := ot) hn hb hk h2
  rw [← ea2] at hk3
  obtain ⟨d2, ed2⟩ : ∃ z, z = dtM (TnM n Bm 0 0) := ⟨_, rfl⟩
  rw [← ed2] at hk3 h2
  rw [← ea1, ← ea2]
  refine ⟨d2, un3, bo3, ta3, tr3, ro3, ?_⟩
  refine PX3_blame (Nat.le_of_ble_eq_true rfl) ?_
  intro G hT hC hR
  refine mB hT 6 rfl ?_
  refine hC.1 _ [_, _, _] _ _ _ _ (m_in_t (by decide) ((le_pred (by omega)).mpr (ofNat_lt (i := 0) hv (by omega)))) rfl (Nat.le_of_ble_eq_true rfl) rfl ?_
  refine mB hT 2 rfl ?_
  refine hC.2.1 _ [_] _ _ _ _ (m_isBasket_t hb) rfl (Nat.le_of_ble_eq_true rfl) rfl ?_
  refine mB hT 2 rfl ?_
  refine hC.2.2.1 _ [_] _ _ _ _ (m_isStuff_t hk) rfl (Nat.le_of_ble_eq_true rfl) rfl ?_
  refine mB hT 3 rfl ?_
  refine hC.2.2.2.1 _ 0 [_] _ _ _ _ _ (m_isMaking_t (i := 0) hi hn) rfl rfl (Nat.le_of_ble_eq_true rfl) rfl ?_
  refine mB hT 8 rfl ?_
  refine hC.2.2.2.2.1 _ 0 [_, _, _, _] _ _ _ _ _ (hk1) rfl rfl (Nat.le_of_ble_eq_true rfl) rfl ?_
  refine mB hT 6 rfl ?_
  refine mIf (fun hp => absurd hp (fun q => h1 (lc_eq.mp q))) (fun _ => ?_)
  refine mB hT 5 rfl ?_
  refine hC.2.2.2.2.2 _ 0 [_, _, _, _] _ _ _ _ _ (hk3) rfl rfl (Nat.le_of_ble_eq_true rfl) rfl ?_
  refine mB hT 6 rfl ?_
  refine mIf (fun hp => absurd hp (fun q => h2 (lc_eq.mp q))) (fun _ => ?_)
  refine mNf (lv2 := [(7, .long a2), (5, .long a1), (0, .ref 0), (1, .int 0), (2, .int (Int32.ofNat b)), (3, .int (Int32.ofNat k)), (4, .int 0)]) (st2 := []) rfl rfl ?_
  refine mB hT 3 rfl ?_
  exact hR _ (by decide) _ _ _ rfl rfl
set_option maxRecDepth 20000 in
theorem m_blame_A_0_1 {n vs : Nat} {wo un h : Int64} {bo : Nat → Int32} {ta tr ro ot : Nat → Int64} {Bm : Nat → Nat → Nat → Int32} {bk : Nat → Nat → Int32} (hv : 0 < vs) (hvs : vs ≤ 6) (hi : 1 < n) (hn : n ≤ 4) {b : Nat} (hb : b < 4) {k : Nat} (hk : k < 3) (h1 : dtM (TnM n Bm 2 0) = 0) : ∃ (wo4 un4 : Int64) (bo4 : Nat → Int32) (ta4 tr4 ro4 : Nat → Int64), KX3_blame l D ca ad [.ref 0, .int 0, .int (Int32.ofNat b), .int (Int32.ofNat k), .int 1] (MW (Int32.ofNat n) (Int32.ofNat vs) wo un h bo ta tr ro ot Bm bk) (some (.long (-9000000000000000004))) (MW (Int32.ofNat n) (Int32.ofNat vs) wo4 un4 h bo4 ta4 tr4 ro4 ot Bm bk) := by
  obtain ⟨un1, bo1, ta1, tr1, ro1, hk1⟩ := m_mixed0_0_2 (l := l) (D := D) (ca := ca) (ad := ad) (vs := vs) (wo := wo) (un := un) (h := h) (bo := bo) (ta := ta) (tr := tr) (ro := ro) (ot := ot) hn hb hk h1
  obtain ⟨d1, ed1⟩ : ∃ z, z = dtM (TnM n Bm 2 0) := ⟨_, rfl⟩
  rw [← ed1] at hk1 h1
  refine ⟨d1, un1, bo1, ta1, tr1, ro1, ?_⟩
  refine PX3_blame (Nat.le_of_ble_eq_true rfl) ?_
  intro G hT hC hR
  refine mB hT 6 rfl ?_
  refine hC.1 _ [_, _, _] _ _ _ _ (m_in_t (by decide) ((le_pred (by omega)).mpr (ofNat_lt (i := 0) hv (by omega)))) rfl (Nat.le_of_ble_eq_true rfl) rfl ?_
  refine mB hT 2 rfl ?_
  refine hC.2.1 _ [_] _ _ _ _ (m_isBasket_t hb) rfl (Nat.le_of_ble_eq_true rfl) rfl ?_
  refine mB hT 2 rfl ?_
  refine hC.2.2.1 _ [_] _ _ _ _ (m_isStuff_t hk) rfl (Nat.le_of_ble_eq_true rfl) rfl ?_
  refine mB hT 3 rfl ?_
  refine hC.2.2.2.1 _ 0 [_] _ _ _ _ _ (m_isMaking_t (i := 1) hi hn) rfl rfl (Nat.le_of_ble_eq_true rfl) rfl ?_
  refine mB hT 8 rfl ?_
  refine hC.2.2.2.2.1 _ 0 [_, _, _, _] _ _ _ _ _ (hk1) rfl rfl (Nat.le_of_ble_eq_true rfl) rfl ?_
  refine mB hT 6 rfl ?_
  refine mIf (fun _ => ?_) (fun hn => absurd (lc_eq.mpr h1) hn)
  refine mB hT 1 rfl ?_
  exact hR _ (by decide) _ _ _ rfl rfl
set_option maxRecDepth 20000 in
theorem m_blame_B_0_1 {n vs : Nat} {wo un h : Int64} {bo : Nat → Int32} {ta tr ro ot : Nat → Int64} {Bm : Nat → Nat → Nat → Int32} {bk : Nat → Nat → Int32} (hv : 0 < vs) (hvs : vs ≤ 6) (hi : 1 < n) (hn : n ≤ 4) {b : Nat} (hb : b < 4) {k : Nat} (hk : k < 3) (h1 : ¬ dtM (TnM n Bm 2 0) = 0) (h2 : dtM (TnM n Bm 1 0) = 0) : ∃ (wo4 un4 : Int64) (bo4 : Nat → Int32) (ta4 tr4 ro4 : Nat → Int64), KX3_blame l D ca ad [.ref 0, .int 0, .int (Int32.ofNat b), .int (Int32.ofNat k), .int 1] (MW (Int32.ofNat n) (Int32.ofNat vs) wo un h bo ta tr ro ot Bm bk) (some (.long (-9000000000000000004))) (MW (Int32.ofNat n) (Int32.ofNat vs) wo4 un4 h bo4 ta4 tr4 ro4 ot Bm bk) := by
  obtain ⟨un1, bo1, ta1, tr1, ro1, hk1⟩ := m_mixed1_0_2 (l := l) (D := D) (ca := ca) (ad := ad) (vs := vs) (wo := wo) (un := un) (h := h) (bo := bo) (ta := ta) (tr := tr) (ro := ro) (ot := ot) hn hb hk h1
  obtain ⟨d1, ed1⟩ : ∃ z, z = dtM (TnM n Bm 2 0) := ⟨_, rfl⟩
  rw [← ed1] at hk1 h1
  generalize thM _ _ = a1 at hk1
  obtain ⟨un3, bo3, ta3, tr3, ro3, hk3⟩ := m_mixed0_0_1 (l := l) (D := D) (ca := ca) (ad := ad) (vs := vs) (wo := d1) (un := un1) (h := h) (bo := bo1) (ta := ta1) (tr := tr1) (ro := ro1) (ot := ot) hn hb hk h2
  obtain ⟨d2, ed2⟩ : ∃ z, z = dtM (TnM n Bm 1 0) := ⟨_, rfl⟩
  rw [← ed2] at hk3 h2
  refine ⟨d2, un3, bo3, ta3, tr3, ro3, ?_⟩
  refine PX3_blame (Nat.le_of_ble_eq_true rfl) ?_
  intro G hT hC hR
  refine mB hT 6 rfl ?_
  refine hC.1 _ [_, _, _] _ _ _ _ (m_in_t (by decide) ((le_pred (by omega)).mpr (ofNat_lt (i := 0) hv (by omega)))) rfl (Nat.le_of_ble_eq_true rfl) rfl ?_
  refine mB hT 2 rfl ?_
  refine hC.2.1 _ [_] _ _ _ _ (m_isBasket_t hb) rfl (Nat.le_of_ble_eq_true rfl) rfl ?_
  refine mB hT 2 rfl ?_
  refine hC.2.2.1 _ [_] _ _ _ _ (m_isStuff_t hk) rfl (Nat.le_of_ble_eq_true rfl) rfl ?_
  refine mB hT 3 rfl ?_
  refine hC.2.2.2.1 _ 0 [_] _ _ _ _ _ (m_isMaking_t (i := 1) hi hn) rfl rfl (Nat.le_of_ble_eq_true rfl) rfl ?_
  refine mB hT 8 rfl ?_
  refine hC.2.2.2.2.1 _ 0 [_, _, _, _] _ _ _ _ _ (hk1) rfl rfl (Nat.le_of_ble_eq_true rfl) rfl ?_
  refine mB hT 6 rfl ?_
  refine mIf (fun hp => absurd hp (fun q => h1 (lc_eq.mp q))) (fun _ => ?_)
  refine mB hT 5 rfl ?_
  refine hC.2.2.2.2.2 _ 0 [_, _, _, _] _ _ _ _ _ (hk3) rfl rfl (Nat.le_of_ble_eq_true rfl) rfl ?_
  refine mB hT 6 rfl ?_
  refine mIf (fun _ => ?_) (fun hn => absurd (lc_eq.mpr h2) hn)
  refine mNf (lv2 := [(7, .long 0), (5, .long a1), (0, .ref 0), (1, .int 0), (2, .int (Int32.ofNat b)), (3, .int (Int32.ofNat k)), (4, .int 1)]) (st2 := []) rfl rfl ?_
  refine mB hT 2 rfl ?_
  exact hR _ (by decide) _ _ _ rfl rfl
set_option maxRecDepth 20000 in
theorem m_blame_C_0_1 {n vs : Nat} {wo un h : Int64} {bo : Nat → Int32} {ta tr ro ot : Nat → Int64} {Bm : Nat → Nat → Nat → Int32} {bk : Nat → Nat → Int32} (hv : 0 < vs) (hvs : vs ≤ 6) (hi : 1 < n) (hn : n ≤ 4) {b : Nat} (hb : b < 4) {k : Nat} (hk : k < 3) (h1 : ¬ dtM (TnM n Bm 2 0) = 0) (h2 : ¬ dtM (TnM n Bm 1 0) = 0) : ∃ (wo4 un4 : Int64) (bo4 : Nat → Int32) (ta4 tr4 ro4 : Nat → Int64), KX3_blame l D ca ad [.ref 0, .int 0, .int (Int32.ofNat b), .int (Int32.ofNat k), .int 1] (MW (Int32.ofNat n) (Int32.ofNat vs) wo un h bo ta tr ro ot Bm bk) (some (.long ((thM (smG n (fun i s => emM (Bm (bkM 2 0 i) i) k s) (rdM n (TnM n Bm 2 0) (dtM (TnM n Bm 2 0)) (fun j => (bk b j).toInt64)) 1) (absX (dtM (TnM n Bm 2 0)))) - (thM (smG n (fun i s => emM (Bm (bkM 1 0 i) i) k s) (rdM n (TnM n Bm 1 0) (dtM (TnM n Bm 1 0)) (fun j => (bk b j).toInt64)) 1) (absX (dtM (TnM n Bm 1 0))))))) (MW (Int32.ofNat n) (Int32.ofNat vs) wo4 un4 h bo4 ta4 tr4 ro4 ot Bm bk) := by
  obtain ⟨a1, ea1⟩ : ∃ z, z = (thM (smG n (fun i s => emM (Bm (bkM 2 0 i) i) k s) (rdM n (TnM n Bm 2 0) (dtM (TnM n Bm 2 0)) (fun j => (bk b j).toInt64)) 1) (absX (dtM (TnM n Bm 2 0)))) := ⟨_, rfl⟩
  obtain ⟨a2, ea2⟩ : ∃ z, z = (thM (smG n (fun i s => emM (Bm (bkM 1 0 i) i) k s) (rdM n (TnM n Bm 1 0) (dtM (TnM n Bm 1 0)) (fun j => (bk b j).toInt64)) 1) (absX (dtM (TnM n Bm 1 0)))) := ⟨_, rfl⟩
  obtain ⟨un1, bo1, ta1, tr1, ro1, hk1⟩ := m_mixed1_0_2 (l := l) (D := D) (ca := ca) (ad := ad) (vs := vs) (wo := wo) (un := un) (h := h) (bo := bo) (ta := ta) (tr := tr) (ro := ro) (ot := ot) hn hb hk h1
  rw [← ea1] at hk1
  obtain ⟨d1, ed1⟩ : ∃ z, z = dtM (TnM n Bm 2 0) := ⟨_, rfl⟩
  rw [← ed1] at hk1 h1
  obtain ⟨un3, bo3, ta3, tr3, ro3, hk3⟩ := m_mixed1_0_1 (l := l) (D := D) (ca := ca) (ad := ad) (vs := vs) (wo := d1) (un := un1) (h := h) (bo := bo1) (ta := ta1) (tr := tr1) (ro := ro1) (ot := ot) hn hb hk h2
  rw [← ea2] at hk3
  obtain ⟨d2, ed2⟩ : ∃ z, z = dtM (TnM n Bm 1 0) := ⟨_, rfl⟩
  rw [← ed2] at hk3 h2
  rw [← ea1, ← ea2]
  refine ⟨d2, un3, bo3, ta3, tr3, ro3, ?_⟩
  refine PX3_blame (Nat.le_of_ble_eq_true rfl) ?_
  intro G hT hC hR
  refine mB hT 6 rfl ?_
  refine hC.1 _ [_, _, _] _ _ _ _ (m_in_t (by decide) ((le_pred (by omega)).mpr (ofNat_lt (i := 0) hv (by omega)))) rfl (Nat.le_of_ble_eq_true rfl) rfl ?_
  refine mB hT 2 rfl ?_
  refine hC.2.1 _ [_] _ _ _ _ (m_isBasket_t hb) rfl (Nat.le_of_ble_eq_true rfl) rfl ?_
  refine mB hT 2 rfl ?_
  refine hC.2.2.1 _ [_] _ _ _ _ (m_isStuff_t hk) rfl (Nat.le_of_ble_eq_true rfl) rfl ?_
  refine mB hT 3 rfl ?_
  refine hC.2.2.2.1 _ 0 [_] _ _ _ _ _ (m_isMaking_t (i := 1) hi hn) rfl rfl (Nat.le_of_ble_eq_true rfl) rfl ?_
  refine mB hT 8 rfl ?_
  refine hC.2.2.2.2.1 _ 0 [_, _, _, _] _ _ _ _ _ (hk1) rfl rfl (Nat.le_of_ble_eq_true rfl) rfl ?_
  refine mB hT 6 rfl ?_
  refine mIf (fun hp => absurd hp (fun q => h1 (lc_eq.mp q))) (fun _ => ?_)
  refine mB hT 5 rfl ?_
  refine hC.2.2.2.2.2 _ 0 [_, _, _, _] _ _ _ _ _ (hk3) rfl rfl (Nat.le_of_ble_eq_true rfl) rfl ?_
  refine mB hT 6 rfl ?_
  refine mIf (fun hp => absurd hp (fun q => h2 (lc_eq.mp q))) (fun _ => ?_)
  refine mNf (lv2 := [(7, .long a2), (5, .long a1), (0, .ref 0), (1, .int 0), (2, .int (Int32.ofNat b)), (3, .int (Int32.ofNat k)), (4, .int 1)]) (st2 := []) rfl rfl ?_
  refine mB hT 3 rfl ?_
  exact hR _ (by decide) _ _ _ rfl rfl
set_option maxRecDepth 20000 in
theorem m_blame_A_0_2 {n vs : Nat} {wo un h : Int64} {bo : Nat → Int32} {ta tr ro ot : Nat → Int64} {Bm : Nat → Nat → Nat → Int32} {bk : Nat → Nat → Int32} (hv : 0 < vs) (hvs : vs ≤ 6) (hi : 2 < n) (hn : n ≤ 4) {b : Nat} (hb : b < 4) {k : Nat} (hk : k < 3) (h1 : dtM (TnM n Bm 3 0) = 0) : ∃ (wo4 un4 : Int64) (bo4 : Nat → Int32) (ta4 tr4 ro4 : Nat → Int64), KX3_blame l D ca ad [.ref 0, .int 0, .int (Int32.ofNat b), .int (Int32.ofNat k), .int 2] (MW (Int32.ofNat n) (Int32.ofNat vs) wo un h bo ta tr ro ot Bm bk) (some (.long (-9000000000000000004))) (MW (Int32.ofNat n) (Int32.ofNat vs) wo4 un4 h bo4 ta4 tr4 ro4 ot Bm bk) := by
  obtain ⟨un1, bo1, ta1, tr1, ro1, hk1⟩ := m_mixed0_0_3 (l := l) (D := D) (ca := ca) (ad := ad) (vs := vs) (wo := wo) (un := un) (h := h) (bo := bo) (ta := ta) (tr := tr) (ro := ro) (ot := ot) hn hb hk h1
  obtain ⟨d1, ed1⟩ : ∃ z, z = dtM (TnM n Bm 3 0) := ⟨_, rfl⟩
  rw [← ed1] at hk1 h1
  refine ⟨d1, un1, bo1, ta1, tr1, ro1, ?_⟩
  refine PX3_blame (Nat.le_of_ble_eq_true rfl) ?_
  intro G hT hC hR
  refine mB hT 6 rfl ?_
  refine hC.1 _ [_, _, _] _ _ _ _ (m_in_t (by decide) ((le_pred (by omega)).mpr (ofNat_lt (i := 0) hv (by omega)))) rfl (Nat.le_of_ble_eq_true rfl) rfl ?_
  refine mB hT 2 rfl ?_
  refine hC.2.1 _ [_] _ _ _ _ (m_isBasket_t hb) rfl (Nat.le_of_ble_eq_true rfl) rfl ?_
  refine mB hT 2 rfl ?_
  refine hC.2.2.1 _ [_] _ _ _ _ (m_isStuff_t hk) rfl (Nat.le_of_ble_eq_true rfl) rfl ?_
  refine mB hT 3 rfl ?_
  refine hC.2.2.2.1 _ 0 [_] _ _ _ _ _ (m_isMaking_t (i := 2) hi hn) rfl rfl (Nat.le_of_ble_eq_true rfl) rfl ?_
  refine mB hT 8 rfl ?_
  refine hC.2.2.2.2.1 _ 0 [_, _, _, _] _ _ _ _ _ (hk1) rfl rfl (Nat.le_of_ble_eq_true rfl) rfl ?_
  refine mB hT 6 rfl ?_
  refine mIf (fun _ => ?_) (fun hn => absurd (lc_eq.mpr h1) hn)
  refine mB hT 1 rfl ?_
  exact hR _ (by decide) _ _ _ rfl rfl
set_option maxRecDepth 20000 in
theorem m_blame_B_0_2 {n vs : Nat} {wo un h : Int64} {bo : Nat → Int32} {ta tr ro ot : Nat → Int64} {Bm : Nat → Nat → Nat → Int32} {bk : Nat → Nat → Int32} (hv : 0 < vs) (hvs : vs ≤ 6) (hi : 2 < n) (hn : n ≤ 4) {b : Nat} (hb : b < 4) {k : Nat} (hk : k < 3) (h1 : ¬ dtM (TnM n Bm 3 0) = 0) (h2 : dtM (TnM n Bm 2 0) = 0) : ∃ (wo4 un4 : Int64) (bo4 : Nat → Int32) (ta4 tr4 ro4 : Nat → Int64), KX3_blame l D ca ad [.ref 0, .int 0, .int (Int32.ofNat b), .int (Int32.ofNat k), .int 2] (MW (Int32.ofNat n) (Int32.ofNat vs) wo un h bo ta tr ro ot Bm bk) (some (.long (-9000000000000000004))) (MW (Int32.ofNat n) (Int32.ofNat vs) wo4 un4 h bo4 ta4 tr4 ro4 ot Bm bk) := by
  obtain ⟨un1, bo1, ta1, tr1, ro1, hk1⟩ := m_mixed1_0_3 (l := l) (D := D) (ca := ca) (ad := ad) (vs := vs) (wo := wo) (un := un) (h := h) (bo := bo) (ta := ta) (tr := tr) (ro := ro) (ot := ot) hn hb hk h1
  obtain ⟨d1, ed1⟩ : ∃ z, z = dtM (TnM n Bm 3 0) := ⟨_, rfl⟩
  rw [← ed1] at hk1 h1
  generalize thM _ _ = a1 at hk1
  obtain ⟨un3, bo3, ta3, tr3, ro3, hk3⟩ := m_mixed0_0_2 (l := l) (D := D) (ca := ca) (ad := ad) (vs := vs) (wo := d1) (un := un1) (h := h) (bo := bo1) (ta := ta1) (tr := tr1) (ro := ro1) (ot := ot) hn hb hk h2
  obtain ⟨d2, ed2⟩ : ∃ z, z = dtM (TnM n Bm 2 0) := ⟨_, rfl⟩
  rw [← ed2] at hk3 h2
  refine ⟨d2, un3, bo3, ta3, tr3, ro3, ?_⟩
  refine PX3_blame (Nat.le_of_ble_eq_true rfl) ?_
  intro G hT hC hR
  refine mB hT 6 rfl ?_
  refine hC.1 _ [_, _, _] _ _ _ _ (m_in_t (by decide) ((le_pred (by omega)).mpr (ofNat_lt (i := 0) hv (by omega)))) rfl (Nat.le_of_ble_eq_true rfl) rfl ?_
  refine mB hT 2 rfl ?_
  refine hC.2.1 _ [_] _ _ _ _ (m_isBasket_t hb) rfl (Nat.le_of_ble_eq_true rfl) rfl ?_
  refine mB hT 2 rfl ?_
  refine hC.2.2.1 _ [_] _ _ _ _ (m_isStuff_t hk) rfl (Nat.le_of_ble_eq_true rfl) rfl ?_
  refine mB hT 3 rfl ?_
  refine hC.2.2.2.1 _ 0 [_] _ _ _ _ _ (m_isMaking_t (i := 2) hi hn) rfl rfl (Nat.le_of_ble_eq_true rfl) rfl ?_
  refine mB hT 8 rfl ?_
  refine hC.2.2.2.2.1 _ 0 [_, _, _, _] _ _ _ _ _ (hk1) rfl rfl (Nat.le_of_ble_eq_true rfl) rfl ?_
  refine mB hT 6 rfl ?_
  refine mIf (fun hp => absurd hp (fun q => h1 (lc_eq.mp q))) (fun _ => ?_)
  refine mB hT 5 rfl ?_
  refine hC.2.2.2.2.2 _ 0 [_, _, _, _] _ _ _ _ _ (hk3) rfl rfl (Nat.le_of_ble_eq_true rfl) rfl ?_
  refine mB hT 6 rfl ?_
  refine mIf (fun _ => ?_) (fun hn => absurd (lc_eq.mpr h2) hn)
  refine mNf (lv2 := [(7, .long 0), (5, .long a1), (0, .ref 0), (1, .int 0), (2, .int (Int32.ofNat b)), (3, .int (Int32.ofNat k)), (4, .int 2)]) (st2 := []) rfl rfl ?_
  refine mB hT 2 rfl ?_
  exact hR _ (by decide) _ _ _ rfl rfl
set_option maxRecDepth 20000 in
theorem m_blame_C_0_2 {n vs : Nat} {wo un h : Int64} {bo : Nat → Int32} {ta tr ro ot : Nat → Int64} {Bm : Nat → Nat → Nat → Int32} {bk : Nat → Nat → Int32} (hv : 0 < vs) (hvs : vs ≤ 6) (hi : 2 < n) (hn : n ≤ 4) {b : Nat} (hb : b < 4) {k : Nat} (hk : k < 3) (h1 : ¬ dtM (TnM n Bm 3 0) = 0) (h2 : ¬ dtM (TnM n Bm 2 0) = 0) : ∃ (wo4 un4 : Int64) (bo4 : Nat → Int32) (ta4 tr4 ro4 : Nat → Int64), KX3_blame l D ca ad [.ref 0, .int 0, .int (Int32.ofNat b), .int (Int32.ofNat k), .int 2] (MW (Int32.ofNat n) (Int32.ofNat vs) wo un h bo ta tr ro ot Bm bk) (some (.long ((thM (smG n (fun i s => emM (Bm (bkM 3 0 i) i) k s) (rdM n (TnM n Bm 3 0) (dtM (TnM n Bm 3 0)) (fun j => (bk b j).toInt64)) 1) (absX (dtM (TnM n Bm 3 0)))) - (thM (smG n (fun i s => emM (Bm (bkM 2 0 i) i) k s) (rdM n (TnM n Bm 2 0) (dtM (TnM n Bm 2 0)) (fun j => (bk b j).toInt64)) 1) (absX (dtM (TnM n Bm 2 0))))))) (MW (Int32.ofNat n) (Int32.ofNat vs) wo4 un4 h bo4 ta4 tr4 ro4 ot Bm bk) := by
  obtain ⟨a1, ea1⟩ : ∃ z, z = (thM (smG n (fun i s => emM (Bm (bkM 3 0 i) i) k s) (rdM n (TnM n Bm 3 0) (dtM (TnM n Bm 3 0)) (fun j => (bk b j).toInt64)) 1) (absX (dtM (TnM n Bm 3 0)))) := ⟨_, rfl⟩
  obtain ⟨a2, ea2⟩ : ∃ z, z = (thM (smG n (fun i s => emM (Bm (bkM 2 0 i) i) k s) (rdM n (TnM n Bm 2 0) (dtM (TnM n Bm 2 0)) (fun j => (bk b j).toInt64)) 1) (absX (dtM (TnM n Bm 2 0)))) := ⟨_, rfl⟩
  obtain ⟨un1, bo1, ta1, tr1, ro1, hk1⟩ := m_mixed1_0_3 (l := l) (D := D) (ca := ca) (ad := ad) (vs := vs) (wo := wo) (un := un) (h := h) (bo := bo) (ta := ta) (tr := tr) (ro := ro) (ot := ot) hn hb hk h1
  rw [← ea1] at hk1
  obtain ⟨d1, ed1⟩ : ∃ z, z = dtM (TnM n Bm 3 0) := ⟨_, rfl⟩
  rw [← ed1] at hk1 h1
  obtain ⟨un3, bo3, ta3, tr3, ro3, hk3⟩ := m_mixed1_0_2 (l := l) (D := D) (ca := ca) (ad := ad) (vs := vs) (wo := d1) (un := un1) (h := h) (bo := bo1) (ta := ta1) (tr := tr1) (ro := ro1) (ot := ot) hn hb hk h2
  rw [← ea2] at hk3
  obtain ⟨d2, ed2⟩ : ∃ z, z = dtM (TnM n Bm 2 0) := ⟨_, rfl⟩
  rw [← ed2] at hk3 h2
  rw [← ea1, ← ea2]
  refine ⟨d2, un3, bo3, ta3, tr3, ro3, ?_⟩
  refine PX3_blame (Nat.le_of_ble_eq_true rfl) ?_
  intro G hT hC hR
  refine mB hT 6 rfl ?_
  refine hC.1 _ [_, _, _] _ _ _ _ (m_in_t (by decide) ((le_pred (by omega)).mpr (ofNat_lt (i := 0) hv (by omega)))) rfl (Nat.le_of_ble_eq_true rfl) rfl ?_
  refine mB hT 2 rfl ?_
  refine hC.2.1 _ [_] _ _ _ _ (m_isBasket_t hb) rfl (Nat.le_of_ble_eq_true rfl) rfl ?_
  refine mB hT 2 rfl ?_
  refine hC.2.2.1 _ [_] _ _ _ _ (m_isStuff_t hk) rfl (Nat.le_of_ble_eq_true rfl) rfl ?_
  refine mB hT 3 rfl ?_
  refine hC.2.2.2.1 _ 0 [_] _ _ _ _ _ (m_isMaking_t (i := 2) hi hn) rfl rfl (Nat.le_of_ble_eq_true rfl) rfl ?_
  refine mB hT 8 rfl ?_
  refine hC.2.2.2.2.1 _ 0 [_, _, _, _] _ _ _ _ _ (hk1) rfl rfl (Nat.le_of_ble_eq_true rfl) rfl ?_
  refine mB hT 6 rfl ?_
  refine mIf (fun hp => absurd hp (fun q => h1 (lc_eq.mp q))) (fun _ => ?_)
  refine mB hT 5 rfl ?_
  refine hC.2.2.2.2.2 _ 0 [_, _, _, _] _ _ _ _ _ (hk3) rfl rfl (Nat.le_of_ble_eq_true rfl) rfl ?_
  refine mB hT 6 rfl ?_
  refine mIf (fun hp => absurd hp (fun q => h2 (lc_eq.mp q))) (fun _ => ?_)
  refine mNf (lv2 := [(7, .long a2), (5, .long a1), (0, .ref 0), (1, .int 0), (2, .int (Int32.ofNat b)), (3, .int (Int32.ofNat k)), (4, .int 2)]) (st2 := []) rfl rfl ?_
  refine mB hT 3 rfl ?_
  exact hR _ (by decide) _ _ _ rfl rfl
set_option maxRecDepth 20000 in
theorem m_blame_A_0_3 {n vs : Nat} {wo un h : Int64} {bo : Nat → Int32} {ta tr ro ot : Nat → Int64} {Bm : Nat → Nat → Nat → Int32} {bk : Nat → Nat → Int32} (hv : 0 < vs) (hvs : vs ≤ 6) (hi : 3 < n) (hn : n ≤ 4) {b : Nat} (hb : b < 4) {k : Nat} (hk : k < 3) (h1 : dtM (TnM n Bm 4 0) = 0) : ∃ (wo4 un4 : Int64) (bo4 : Nat → Int32) (ta4 tr4 ro4 : Nat → Int64), KX3_blame l D ca ad [.ref 0, .int 0, .int (Int32.ofNat b), .int (Int32.ofNat k), .int 3] (MW (Int32.ofNat n) (Int32.ofNat vs) wo un h bo ta tr ro ot Bm bk) (some (.long (-9000000000000000004))) (MW (Int32.ofNat n) (Int32.ofNat vs) wo4 un4 h bo4 ta4 tr4 ro4 ot Bm bk) := by
  obtain ⟨un1, bo1, ta1, tr1, ro1, hk1⟩ := m_mixed0_0_4 (l := l) (D := D) (ca := ca) (ad := ad) (vs := vs) (wo := wo) (un := un) (h := h) (bo := bo) (ta := ta) (tr := tr) (ro := ro) (ot := ot) hn hb hk h1
  obtain ⟨d1, ed1⟩ : ∃ z, z = dtM (TnM n Bm 4 0) := ⟨_, rfl⟩
  rw [← ed1] at hk1 h1
  refine ⟨d1, un1, bo1, ta1, tr1, ro1, ?_⟩
  refine PX3_blame (Nat.le_of_ble_eq_true rfl) ?_
  intro G hT hC hR
  refine mB hT 6 rfl ?_
  refine hC.1 _ [_, _, _] _ _ _ _ (m_in_t (by decide) ((le_pred (by omega)).mpr (ofNat_lt (i := 0) hv (by omega)))) rfl (Nat.le_of_ble_eq_true rfl) rfl ?_
  refine mB hT 2 rfl ?_
  refine hC.2.1 _ [_] _ _ _ _ (m_isBasket_t hb) rfl (Nat.le_of_ble_eq_true rfl) rfl ?_
  refine mB hT 2 rfl ?_
  refine hC.2.2.1 _ [_] _ _ _ _ (m_isStuff_t hk) rfl (Nat.le_of_ble_eq_true rfl) rfl ?_
  refine mB hT 3 rfl ?_
  refine hC.2.2.2.1 _ 0 [_] _ _ _ _ _ (m_isMaking_t (i := 3) hi hn) rfl rfl (Nat.le_of_ble_eq_true rfl) rfl ?_
  refine mB hT 8 rfl ?_
  refine hC.2.2.2.2.1 _ 0 [_, _, _, _] _ _ _ _ _ (hk1) rfl rfl (Nat.le_of_ble_eq_true rfl) rfl ?_
  refine mB hT 6 rfl ?_
  refine mIf (fun _ => ?_) (fun hn => absurd (lc_eq.mpr h1) hn)
  refine mB hT 1 rfl ?_
  exact hR _ (by decide) _ _ _ rfl rfl
set_option maxRecDepth 20000 in
theorem m_blame_B_0_3 {n vs : Nat} {wo un h : Int64} {bo : Nat → Int32} {ta tr ro ot : Nat → Int64} {Bm : Nat → Nat → Nat → Int32} {bk : Nat → Nat → Int32} (hv : 0 < vs) (hvs : vs ≤ 6) (hi : 3 < n) (hn : n ≤ 4) {b : Nat} (hb : b < 4) {k : Nat} (hk : k < 3) (h1 : ¬ dtM (TnM n Bm 4 0) = 0) (h2 : dtM (TnM n Bm 3 0) = 0) : ∃ (wo4 un4 : Int64) (bo4 : Nat → Int32) (ta4 tr4 ro4 : Nat → Int64), KX3_blame l D ca ad [.ref 0, .int 0, .int (Int32.ofNat b), .int (Int32.ofNat k), .int 3] (MW (Int32.ofNat n) (Int32.ofNat vs) wo un h bo ta tr ro ot Bm bk) (some (.long (-9000000000000000004))) (MW (Int32.ofNat n) (Int32.ofNat vs) wo4 un4 h bo4 ta4 tr4 ro4 ot Bm bk) := by
  obtain ⟨un1, bo1, ta1, tr1, ro1, hk1⟩ := m_mixed1_0_4 (l := l) (D := D) (ca := ca) (ad := ad) (vs := vs) (wo := wo) (un := un) (h := h) (bo := bo) (ta := ta) (tr := tr) (ro := ro) (ot := ot) hn hb hk h1
  obtain ⟨d1, ed1⟩ : ∃ z, z = dtM (TnM n Bm 4 0) := ⟨_, rfl⟩
  rw [← ed1] at hk1 h1
  generalize thM _ _ = a1 at hk1
  obtain ⟨un3, bo3, ta3, tr3, ro3, hk3⟩ := m_mixed0_0_3 (l := l) (D := D) (ca := ca) (ad := ad) (vs := vs) (wo := d1) (un := un1) (h := h) (bo := bo1) (ta := ta1) (tr := tr1) (ro := ro1) (ot := ot) hn hb hk h2
  obtain ⟨d2, ed2⟩ : ∃ z, z = dtM (TnM n Bm 3 0) := ⟨_, rfl⟩
  rw [← ed2] at hk3 h2
  refine ⟨d2, un3, bo3, ta3, tr3, ro3, ?_⟩
  refine PX3_blame (Nat.le_of_ble_eq_true rfl) ?_
  intro G hT hC hR
  refine mB hT 6 rfl ?_
  refine hC.1 _ [_, _, _] _ _ _ _ (m_in_t (by decide) ((le_pred (by omega)).mpr (ofNat_lt (i := 0) hv (by omega)))) rfl (Nat.le_of_ble_eq_true rfl) rfl ?_
  refine mB hT 2 rfl ?_
  refine hC.2.1 _ [_] _ _ _ _ (m_isBasket_t hb) rfl (Nat.le_of_ble_eq_true rfl) rfl ?_
  refine mB hT 2 rfl ?_
  refine hC.2.2.1 _ [_] _ _ _ _ (m_isStuff_t hk) rfl (Nat.le_of_ble_eq_true rfl) rfl ?_
  refine mB hT 3 rfl ?_
  refine hC.2.2.2.1 _ 0 [_] _ _ _ _ _ (m_isMaking_t (i := 3) hi hn) rfl rfl (Nat.le_of_ble_eq_true rfl) rfl ?_
  refine mB hT 8 rfl ?_
  refine hC.2.2.2.2.1 _ 0 [_, _, _, _] _ _ _ _ _ (hk1) rfl rfl (Nat.le_of_ble_eq_true rfl) rfl ?_
  refine mB hT 6 rfl ?_
  refine mIf (fun hp => absurd hp (fun q => h1 (lc_eq.mp q))) (fun _ => ?_)
  refine mB hT 5 rfl ?_
  refine hC.2.2.2.2.2 _ 0 [_, _, _, _] _ _ _ _ _ (hk3) rfl rfl (Nat.le_of_ble_eq_true rfl) rfl ?_
  refine mB hT 6 rfl ?_
  refine mIf (fun _ => ?_) (fun hn => absurd (lc_eq.mpr h2) hn)
  refine mNf (lv2 := [(7, .long 0), (5, .long a1), (0, .ref 0), (1, .int 0), (2, .int (Int32.ofNat b)), (3, .int (Int32.ofNat k)), (4, .int 3)]) (st2 := []) rfl rfl ?_
  refine mB hT 2 rfl ?_
  exact hR _ (by decide) _ _ _ rfl rfl
set_option maxRecDepth 20000 in
theorem m_blame_C_0_3 {n vs : Nat} {wo un h : Int64} {bo : Nat → Int32} {ta tr ro ot : Nat → Int64} {Bm : Nat → Nat → Nat → Int32} {bk : Nat → Nat → Int32} (hv : 0 < vs) (hvs : vs ≤ 6) (hi : 3 < n) (hn : n ≤ 4) {b : Nat} (hb : b < 4) {k : Nat} (hk : k < 3) (h1 : ¬ dtM (TnM n Bm 4 0) = 0) (h2 : ¬ dtM (TnM n Bm 3 0) = 0) : ∃ (wo4 un4 : Int64) (bo4 : Nat → Int32) (ta4 tr4 ro4 : Nat → Int64), KX3_blame l D ca ad [.ref 0, .int 0, .int (Int32.ofNat b), .int (Int32.ofNat k), .int 3] (MW (Int32.ofNat n) (Int32.ofNat vs) wo un h bo ta tr ro ot Bm bk) (some (.long ((thM (smG n (fun i s => emM (Bm (bkM 4 0 i) i) k s) (rdM n (TnM n Bm 4 0) (dtM (TnM n Bm 4 0)) (fun j => (bk b j).toInt64)) 1) (absX (dtM (TnM n Bm 4 0)))) - (thM (smG n (fun i s => emM (Bm (bkM 3 0 i) i) k s) (rdM n (TnM n Bm 3 0) (dtM (TnM n Bm 3 0)) (fun j => (bk b j).toInt64)) 1) (absX (dtM (TnM n Bm 3 0))))))) (MW (Int32.ofNat n) (Int32.ofNat vs) wo4 un4 h bo4 ta4 tr4 ro4 ot Bm bk) := by
  obtain ⟨a1, ea1⟩ : ∃ z, z = (thM (smG n (fun i s => emM (Bm (bkM 4 0 i) i) k s) (rdM n (TnM n Bm 4 0) (dtM (TnM n Bm 4 0)) (fun j => (bk b j).toInt64)) 1) (absX (dtM (TnM n Bm 4 0)))) := ⟨_, rfl⟩
  obtain ⟨a2, ea2⟩ : ∃ z, z = (thM (smG n (fun i s => emM (Bm (bkM 3 0 i) i) k s) (rdM n (TnM n Bm 3 0) (dtM (TnM n Bm 3 0)) (fun j => (bk b j).toInt64)) 1) (absX (dtM (TnM n Bm 3 0)))) := ⟨_, rfl⟩
  obtain ⟨un1, bo1, ta1, tr1, ro1, hk1⟩ := m_mixed1_0_4 (l := l) (D := D) (ca := ca) (ad := ad) (vs := vs) (wo := wo) (un := un) (h := h) (bo := bo) (ta := ta) (tr := tr) (ro := ro) (ot := ot) hn hb hk h1
  rw [← ea1] at hk1
  obtain ⟨d1, ed1⟩ : ∃ z, z = dtM (TnM n Bm 4 0) := ⟨_, rfl⟩
  rw [← ed1] at hk1 h1
  obtain ⟨un3, bo3, ta3, tr3, ro3, hk3⟩ := m_mixed1_0_3 (l := l) (D := D) (ca := ca) (ad := ad) (vs := vs) (wo := d1) (un := un1) (h := h) (bo := bo1) (ta := ta1) (tr := tr1) (ro := ro1) (ot := ot) hn hb hk h2
  rw [← ea2] at hk3
  obtain ⟨d2, ed2⟩ : ∃ z, z = dtM (TnM n Bm 3 0) := ⟨_, rfl⟩
  rw [← ed2] at hk3 h2
  rw [← ea1, ← ea2]
  refine ⟨d2, un3, bo3, ta3, tr3, ro3, ?_⟩
  refine PX3_blame (Nat.le_of_ble_eq_true rfl) ?_
  intro G hT hC hR
  refine mB hT 6 rfl ?_
  refine hC.1 _ [_, _, _] _ _ _ _ (m_in_t (by decide) ((le_pred (by omega)).mpr (ofNat_lt (i := 0) hv (by omega)))) rfl (Nat.le_of_ble_eq_true rfl) rfl ?_
  refine mB hT 2 rfl ?_
  refine hC.2.1 _ [_] _ _ _ _ (m_isBasket_t hb) rfl (Nat.le_of_ble_eq_true rfl) rfl ?_
  refine mB hT 2 rfl ?_
  refine hC.2.2.1 _ [_] _ _ _ _ (m_isStuff_t hk) rfl (Nat.le_of_ble_eq_true rfl) rfl ?_
  refine mB hT 3 rfl ?_
  refine hC.2.2.2.1 _ 0 [_] _ _ _ _ _ (m_isMaking_t (i := 3) hi hn) rfl rfl (Nat.le_of_ble_eq_true rfl) rfl ?_
  refine mB hT 8 rfl ?_
  refine hC.2.2.2.2.1 _ 0 [_, _, _, _] _ _ _ _ _ (hk1) rfl rfl (Nat.le_of_ble_eq_true rfl) rfl ?_
  refine mB hT 6 rfl ?_
  refine mIf (fun hp => absurd hp (fun q => h1 (lc_eq.mp q))) (fun _ => ?_)
  refine mB hT 5 rfl ?_
  refine hC.2.2.2.2.2 _ 0 [_, _, _, _] _ _ _ _ _ (hk3) rfl rfl (Nat.le_of_ble_eq_true rfl) rfl ?_
  refine mB hT 6 rfl ?_
  refine mIf (fun hp => absurd hp (fun q => h2 (lc_eq.mp q))) (fun _ => ?_)
  refine mNf (lv2 := [(7, .long a2), (5, .long a1), (0, .ref 0), (1, .int 0), (2, .int (Int32.ofNat b)), (3, .int (Int32.ofNat k)), (4, .int 3)]) (st2 := []) rfl rfl ?_
  refine mB hT 3 rfl ?_
  exact hR _ (by decide) _ _ _ rfl rfl
set_option maxRecDepth 20000 in
theorem m_blame_A_1_0 {n vs : Nat} {wo un h : Int64} {bo : Nat → Int32} {ta tr ro ot : Nat → Int64} {Bm : Nat → Nat → Nat → Int32} {bk : Nat → Nat → Int32} (hv : 1 < vs) (hvs : vs ≤ 6) (hi : 0 < n) (hn : n ≤ 4) {b : Nat} (hb : b < 4) {k : Nat} (hk : k < 3) (h1 : dtM (TnM n Bm 1 1) = 0) : ∃ (wo4 un4 : Int64) (bo4 : Nat → Int32) (ta4 tr4 ro4 : Nat → Int64), KX3_blame l D ca ad [.ref 0, .int 1, .int (Int32.ofNat b), .int (Int32.ofNat k), .int 0] (MW (Int32.ofNat n) (Int32.ofNat vs) wo un h bo ta tr ro ot Bm bk) (some (.long (-9000000000000000004))) (MW (Int32.ofNat n) (Int32.ofNat vs) wo4 un4 h bo4 ta4 tr4 ro4 ot Bm bk) := by
  obtain ⟨un1, bo1, ta1, tr1, ro1, hk1⟩ := m_mixed0_1_1 (l := l) (D := D) (ca := ca) (ad := ad) (vs := vs) (wo := wo) (un := un) (h := h) (bo := bo) (ta := ta) (tr := tr) (ro := ro) (ot := ot) hn hb hk h1
  obtain ⟨d1, ed1⟩ : ∃ z, z = dtM (TnM n Bm 1 1) := ⟨_, rfl⟩
  rw [← ed1] at hk1 h1
  refine ⟨d1, un1, bo1, ta1, tr1, ro1, ?_⟩
  refine PX3_blame (Nat.le_of_ble_eq_true rfl) ?_
  intro G hT hC hR
  refine mB hT 6 rfl ?_
  refine hC.1 _ [_, _, _] _ _ _ _ (m_in_t (by decide) ((le_pred (by omega)).mpr (ofNat_lt (i := 1) hv (by omega)))) rfl (Nat.le_of_ble_eq_true rfl) rfl ?_
  refine mB hT 2 rfl ?_
  refine hC.2.1 _ [_] _ _ _ _ (m_isBasket_t hb) rfl (Nat.le_of_ble_eq_true rfl) rfl ?_
  refine mB hT 2 rfl ?_
  refine hC.2.2.1 _ [_] _ _ _ _ (m_isStuff_t hk) rfl (Nat.le_of_ble_eq_true rfl) rfl ?_
  refine mB hT 3 rfl ?_
  refine hC.2.2.2.1 _ 0 [_] _ _ _ _ _ (m_isMaking_t (i := 0) hi hn) rfl rfl (Nat.le_of_ble_eq_true rfl) rfl ?_
  refine mB hT 8 rfl ?_
  refine hC.2.2.2.2.1 _ 0 [_, _, _, _] _ _ _ _ _ (hk1) rfl rfl (Nat.le_of_ble_eq_true rfl) rfl ?_
  refine mB hT 6 rfl ?_
  refine mIf (fun _ => ?_) (fun hn => absurd (lc_eq.mpr h1) hn)
  refine mB hT 1 rfl ?_
  exact hR _ (by decide) _ _ _ rfl rfl
set_option maxRecDepth 20000 in
theorem m_blame_B_1_0 {n vs : Nat} {wo un h : Int64} {bo : Nat → Int32} {ta tr ro ot : Nat → Int64} {Bm : Nat → Nat → Nat → Int32} {bk : Nat → Nat → Int32} (hv : 1 < vs) (hvs : vs ≤ 6) (hi : 0 < n) (hn : n ≤ 4) {b : Nat} (hb : b < 4) {k : Nat} (hk : k < 3) (h1 : ¬ dtM (TnM n Bm 1 1) = 0) (h2 : dtM (TnM n Bm 0 1) = 0) : ∃ (wo4 un4 : Int64) (bo4 : Nat → Int32) (ta4 tr4 ro4 : Nat → Int64), KX3_blame l D ca ad [.ref 0, .int 1, .int (Int32.ofNat b), .int (Int32.ofNat k), .int 0] (MW (Int32.ofNat n) (Int32.ofNat vs) wo un h bo ta tr ro ot Bm bk) (some (.long (-9000000000000000004))) (MW (Int32.ofNat n) (Int32.ofNat vs) wo4 un4 h bo4 ta4 tr4 ro4 ot Bm bk) := by
  obtain ⟨un1, bo1, ta1, tr1, ro1, hk1⟩ := m_mixed1_1_1 (l := l) (D := D) (ca := ca) (ad := ad) (vs := vs) (wo := wo) (un := un) (h := h) (bo := bo) (ta := ta) (tr := tr) (ro := ro) (ot := ot) hn hb hk h1
  obtain ⟨d1, ed1⟩ : ∃ z, z = dtM (TnM n Bm 1 1) := ⟨_, rfl⟩
  rw [← ed1] at hk1 h1
  generalize thM _ _ = a1 at hk1
  obtain ⟨un3, bo3, ta3, tr3, ro3, hk3⟩ := m_mixed0_1_0 (l := l) (D := D) (ca := ca) (ad := ad) (vs := vs) (wo := d1) (un := un1) (h := h) (bo := bo1) (ta := ta1) (tr := tr1) (ro := ro1) (ot := ot) hn hb hk h2
  obtain ⟨d2, ed2⟩ : ∃ z, z = dtM (TnM n Bm 0 1) := ⟨_, rfl⟩
  rw [← ed2] at hk3 h2
  refine ⟨d2, un3, bo3, ta3, tr3, ro3, ?_⟩
  refine PX3_blame (Nat.le_of_ble_eq_true rfl) ?_
  intro G hT hC hR
  refine mB hT 6 rfl ?_
  refine hC.1 _ [_, _, _] _ _ _ _ (m_in_t (by decide) ((le_pred (by omega)).mpr (ofNat_lt (i := 1) hv (by omega)))) rfl (Nat.le_of_ble_eq_true rfl) rfl ?_
  refine mB hT 2 rfl ?_
  refine hC.2.1 _ [_] _ _ _ _ (m_isBasket_t hb) rfl (Nat.le_of_ble_eq_true rfl) rfl ?_
  refine mB hT 2 rfl ?_
  refine hC.2.2.1 _ [_] _ _ _ _ (m_isStuff_t hk) rfl (Nat.le_of_ble_eq_true rfl) rfl ?_
  refine mB hT 3 rfl ?_
  refine hC.2.2.2.1 _ 0 [_] _ _ _ _ _ (m_isMaking_t (i := 0) hi hn) rfl rfl (Nat.le_of_ble_eq_true rfl) rfl ?_
  refine mB hT 8 rfl ?_
  refine hC.2.2.2.2.1 _ 0 [_, _, _, _] _ _ _ _ _ (hk1) rfl rfl (Nat.le_of_ble_eq_true rfl) rfl ?_
  refine mB hT 6 rfl ?_
  refine mIf (fun hp => absurd hp (fun q => h1 (lc_eq.mp q))) (fun _ => ?_)
  refine mB hT 5 rfl ?_
  refine hC.2.2.2.2.2 _ 0 [_, _, _, _] _ _ _ _ _ (hk3) rfl rfl (Nat.le_of_ble_eq_true rfl) rfl ?_
  refine mB hT 6 rfl ?_
  refine mIf (fun _ => ?_) (fun hn => absurd (lc_eq.mpr h2) hn)
  refine mNf (lv2 := [(7, .long 0), (5, .long a1), (0, .ref 0), (1, .int 1), (2, .int (Int32.ofNat b)), (3, .int (Int32.ofNat k)), (4, .int 0)]) (st2 := []) rfl rfl ?_
  refine mB hT 2 rfl ?_
  exact hR _ (by decide) _ _ _ rfl rfl
set_option maxRecDepth 20000 in
theorem m_blame_C_1_0 {n vs : Nat} {wo un h : Int64} {bo : Nat → Int32} {ta tr ro ot : Nat → Int64} {Bm : Nat → Nat → Nat → Int32} {bk : Nat → Nat → Int32} (hv : 1 < vs) (hvs : vs ≤ 6) (hi : 0 < n) (hn : n ≤ 4) {b : Nat} (hb : b < 4) {k : Nat} (hk : k < 3) (h1 : ¬ dtM (TnM n Bm 1 1) = 0) (h2 : ¬ dtM (TnM n Bm 0 1) = 0) : ∃ (wo4 un4 : Int64) (bo4 : Nat → Int32) (ta4 tr4 ro4 : Nat → Int64), KX3_blame l D ca ad [.ref 0, .int 1, .int (Int32.ofNat b), .int (Int32.ofNat k), .int 0] (MW (Int32.ofNat n) (Int32.ofNat vs) wo un h bo ta tr ro ot Bm bk) (some (.long ((thM (smG n (fun i s => emM (Bm (bkM 1 1 i) i) k s) (rdM n (TnM n Bm 1 1) (dtM (TnM n Bm 1 1)) (fun j => (bk b j).toInt64)) 1) (absX (dtM (TnM n Bm 1 1)))) - (thM (smG n (fun i s => emM (Bm (bkM 0 1 i) i) k s) (rdM n (TnM n Bm 0 1) (dtM (TnM n Bm 0 1)) (fun j => (bk b j).toInt64)) 1) (absX (dtM (TnM n Bm 0 1))))))) (MW (Int32.ofNat n) (Int32.ofNat vs) wo4 un4 h bo4 ta4 tr4 ro4 ot Bm bk) := by
  obtain ⟨a1, ea1⟩ : ∃ z, z = (thM (smG n (fun i s => emM (Bm (bkM 1 1 i) i) k s) (rdM n (TnM n Bm 1 1) (dtM (TnM n Bm 1 1)) (fun j => (bk b j).toInt64)) 1) (absX (dtM (TnM n Bm 1 1)))) := ⟨_, rfl⟩
  obtain ⟨a2, ea2⟩ : ∃ z, z = (thM (smG n (fun i s => emM (Bm (bkM 0 1 i) i) k s) (rdM n (TnM n Bm 0 1) (dtM (TnM n Bm 0 1)) (fun j => (bk b j).toInt64)) 1) (absX (dtM (TnM n Bm 0 1)))) := ⟨_, rfl⟩
  obtain ⟨un1, bo1, ta1, tr1, ro1, hk1⟩ := m_mixed1_1_1 (l := l) (D := D) (ca := ca) (ad := ad) (vs := vs) (wo := wo) (un := un) (h := h) (bo := bo) (ta := ta) (tr := tr) (ro := ro) (ot := ot) hn hb hk h1
  rw [← ea1] at hk1
  obtain ⟨d1, ed1⟩ : ∃ z, z = dtM (TnM n Bm 1 1) := ⟨_, rfl⟩
  rw [← ed1] at hk1 h1
  obtain ⟨un3, bo3, ta3, tr3, ro3, hk3⟩ := m_mixed1_1_0 (l := l) (D := D) (ca := ca) (ad := ad) (vs := vs) (wo := d1) (un := un1) (h := h) (bo := bo1) (ta := ta1) (tr := tr1) (ro := ro1) (ot := ot) hn hb hk h2
  rw [← ea2] at hk3
  obtain ⟨d2, ed2⟩ : ∃ z, z = dtM (TnM n Bm 0 1) := ⟨_, rfl⟩
  rw [← ed2] at hk3 h2
  rw [← ea1, ← ea2]
  refine ⟨d2, un3, bo3, ta3, tr3, ro3, ?_⟩
  refine PX3_blame (Nat.le_of_ble_eq_true rfl) ?_
  intro G hT hC hR
  refine mB hT 6 rfl ?_
  refine hC.1 _ [_, _, _] _ _ _ _ (m_in_t (by decide) ((le_pred (by omega)).mpr (ofNat_lt (i := 1) hv (by omega)))) rfl (Nat.le_of_ble_eq_true rfl) rfl ?_
  refine mB hT 2 rfl ?_
  refine hC.2.1 _ [_] _ _ _ _ (m_isBasket_t hb) rfl (Nat.le_of_ble_eq_true rfl) rfl ?_
  refine mB hT 2 rfl ?_
  refine hC.2.2.1 _ [_] _ _ _ _ (m_isStuff_t hk) rfl (Nat.le_of_ble_eq_true rfl) rfl ?_
  refine mB hT 3 rfl ?_
  refine hC.2.2.2.1 _ 0 [_] _ _ _ _ _ (m_isMaking_t (i := 0) hi hn) rfl rfl (Nat.le_of_ble_eq_true rfl) rfl ?_
  refine mB hT 8 rfl ?_
  refine hC.2.2.2.2.1 _ 0 [_, _, _, _] _ _ _ _ _ (hk1) rfl rfl (Nat.le_of_ble_eq_true rfl) rfl ?_
  refine mB hT 6 rfl ?_
  refine mIf (fun hp => absurd hp (fun q => h1 (lc_eq.mp q))) (fun _ => ?_)
  refine mB hT 5 rfl ?_
  refine hC.2.2.2.2.2 _ 0 [_, _, _, _] _ _ _ _ _ (hk3) rfl rfl (Nat.le_of_ble_eq_true rfl) rfl ?_
  refine mB hT 6 rfl ?_
  refine mIf (fun hp => absurd hp (fun q => h2 (lc_eq.mp q))) (fun _ => ?_)
  refine mNf (lv2 := [(7, .long a2), (5, .long a1), (0, .ref 0), (1, .int 1), (2, .int (Int32.ofNat b)), (3, .int (Int32.ofNat k)), (4, .int 0)]) (st2 := []) rfl rfl ?_
  refine mB hT 3 rfl ?_
  exact hR _ (by decide) _ _ _ rfl rfl
set_option maxRecDepth 20000 in
theorem m_blame_A_1_1 {n vs : Nat} {wo un h : Int64} {bo : Nat → Int32} {ta tr ro ot : Nat → Int64} {Bm : Nat → Nat → Nat → Int32} {bk : Nat → Nat → Int32} (hv : 1 < vs) (hvs : vs ≤ 6) (hi : 1 < n) (hn : n ≤ 4) {b : Nat} (hb : b < 4) {k : Nat} (hk : k < 3) (h1 : dtM (TnM n Bm 2 1) = 0) : ∃ (wo4 un4 : Int64) (bo4 : Nat → Int32) (ta4 tr4 ro4 : Nat → Int64), KX3_blame l D ca ad [.ref 0, .int 1, .int (Int32.ofNat b), .int (Int32.ofNat k), .int 1] (MW (Int32.ofNat n) (Int32.ofNat vs) wo un h bo ta tr ro ot Bm bk) (some (.long (-9000000000000000004))) (MW (Int32.ofNat n) (Int32.ofNat vs) wo4 un4 h bo4 ta4 tr4 ro4 ot Bm bk) := by
  obtain ⟨un1, bo1, ta1, tr1, ro1, hk1⟩ := m_mixed0_1_2 (l := l) (D := D) (ca := ca) (ad := ad) (vs := vs) (wo := wo) (un := un) (h := h) (bo := bo) (ta := ta) (tr := tr) (ro := ro) (ot := ot) hn hb hk h1
  obtain ⟨d1, ed1⟩ : ∃ z, z = dtM (TnM n Bm 2 1) := ⟨_, rfl⟩
  rw [← ed1] at hk1 h1
  refine ⟨d1, un1, bo1, ta1, tr1, ro1, ?_⟩
  refine PX3_blame (Nat.le_of_ble_eq_true rfl) ?_
  intro G hT hC hR
  refine mB hT 6 rfl ?_
  refine hC.1 _ [_, _, _] _ _ _ _ (m_in_t (by decide) ((le_pred (by omega)).mpr (ofNat_lt (i := 1) hv (by omega)))) rfl (Nat.le_of_ble_eq_true rfl) rfl ?_
  refine mB hT 2 rfl ?_
  refine hC.2.1 _ [_] _ _ _ _ (m_isBasket_t hb) rfl (Nat.le_of_ble_eq_true rfl) rfl ?_
  refine mB hT 2 rfl ?_
  refine hC.2.2.1 _ [_] _ _ _ _ (m_isStuff_t hk) rfl (Nat.le_of_ble_eq_true rfl) rfl ?_
  refine mB hT 3 rfl ?_
  refine hC.2.2.2.1 _ 0 [_] _ _ _ _ _ (m_isMaking_t (i := 1) hi hn) rfl rfl (Nat.le_of_ble_eq_true rfl) rfl ?_
  refine mB hT 8 rfl ?_
  refine hC.2.2.2.2.1 _ 0 [_, _, _, _] _ _ _ _ _ (hk1) rfl rfl (Nat.le_of_ble_eq_true rfl) rfl ?_
  refine mB hT 6 rfl ?_
  refine mIf (fun _ => ?_) (fun hn => absurd (lc_eq.mpr h1) hn)
  refine mB hT 1 rfl ?_
  exact hR _ (by decide) _ _ _ rfl rfl
set_option maxRecDepth 20000 in
theorem m_blame_B_1_1 {n vs : Nat} {wo un h : Int64} {bo : Nat → Int32} {ta tr ro ot : Nat → Int64} {Bm : Nat → Nat → Nat → Int32} {bk : Nat → Nat → Int32} (hv : 1 < vs) (hvs : vs ≤ 6) (hi : 1 < n) (hn : n ≤ 4) {b : Nat} (hb : b < 4) {k : Nat} (hk : k < 3) (h1 : ¬ dtM (TnM n Bm 2 1) = 0) (h2 : dtM (TnM n Bm 1 1) = 0) : ∃ (wo4 un4 : Int64) (bo4 : Nat → Int32) (ta4 tr4 ro4 : Nat → Int64), KX3_blame l D ca ad [.ref 0, .int 1, .int (Int32.ofNat b), .int (Int32.ofNat k), .int 1] (MW (Int32.ofNat n) (Int32.ofNat vs) wo un h bo ta tr ro ot Bm bk) (some (.long (-9000000000000000004))) (MW (Int32.ofNat n) (Int32.ofNat vs) wo4 un4 h bo4 ta4 tr4 ro4 ot Bm bk) := by
  obtain ⟨un1, bo1, ta1, tr1, ro1, hk1⟩ := m_mixed1_1_2 (l := l) (D := D) (ca := ca) (ad := ad) (vs := vs) (wo := wo) (un := un) (h := h) (bo := bo) (ta := ta) (tr := tr) (ro := ro) (ot := ot) hn hb hk h1
  obtain ⟨d1, ed1⟩ : ∃ z, z = dtM (TnM n Bm 2 1) := ⟨_, rfl⟩
  rw [← ed1] at hk1 h1
  generalize thM _ _ = a1 at hk1
  obtain ⟨un3, bo3, ta3, tr3, ro3, hk3⟩ := m_mixed0_1_1 (l := l) (D := D) (ca := ca) (ad := ad) (vs := vs) (wo := d1) (un := un1) (h := h) (bo := bo1) (ta := ta1) (tr := tr1) (ro := ro1) (ot := ot) hn hb hk h2
  obtain ⟨d2, ed2⟩ : ∃ z, z = dtM (TnM n Bm 1 1) := ⟨_, rfl⟩
  rw [← ed2] at hk3 h2
  refine ⟨d2, un3, bo3, ta3, tr3, ro3, ?_⟩
  refine PX3_blame (Nat.le_of_ble_eq_true rfl) ?_
  intro G hT hC hR
  refine mB hT 6 rfl ?_
  refine hC.1 _ [_, _, _] _ _ _ _ (m_in_t (by decide) ((le_pred (by omega)).mpr (ofNat_lt (i := 1) hv (by omega)))) rfl (Nat.le_of_ble_eq_true rfl) rfl ?_
  refine mB hT 2 rfl ?_
  refine hC.2.1 _ [_] _ _ _ _ (m_isBasket_t hb) rfl (Nat.le_of_ble_eq_true rfl) rfl ?_
  refine mB hT 2 rfl ?_
  refine hC.2.2.1 _ [_] _ _ _ _ (m_isStuff_t hk) rfl (Nat.le_of_ble_eq_true rfl) rfl ?_
  refine mB hT 3 rfl ?_
  refine hC.2.2.2.1 _ 0 [_] _ _ _ _ _ (m_isMaking_t (i := 1) hi hn) rfl rfl (Nat.le_of_ble_eq_true rfl) rfl ?_
  refine mB hT 8 rfl ?_
  refine hC.2.2.2.2.1 _ 0 [_, _, _, _] _ _ _ _ _ (hk1) rfl rfl (Nat.le_of_ble_eq_true rfl) rfl ?_
  refine mB hT 6 rfl ?_
  refine mIf (fun hp => absurd hp (fun q => h1 (lc_eq.mp q))) (fun _ => ?_)
  refine mB hT 5 rfl ?_
  refine hC.2.2.2.2.2 _ 0 [_, _, _, _] _ _ _ _ _ (hk3) rfl rfl (Nat.le_of_ble_eq_true rfl) rfl ?_
  refine mB hT 6 rfl ?_
  refine mIf (fun _ => ?_) (fun hn => absurd (lc_eq.mpr h2) hn)
  refine mNf (lv2 := [(7, .long 0), (5, .long a1), (0, .ref 0), (1, .int 1), (2, .int (Int32.ofNat b)), (3, .int (Int32.ofNat k)), (4, .int 1)]) (st2 := []) rfl rfl ?_
  refine mB hT 2 rfl ?_
  exact hR _ (by decide) _ _ _ rfl rfl
set_option maxRecDepth 20000 in
theorem m_blame_C_1_1 {n vs : Nat} {wo un h : Int64} {bo : Nat → Int32} {ta tr ro ot : Nat → Int64} {Bm : Nat → Nat → Nat → Int32} {bk : Nat → Nat → Int32} (hv : 1 < vs) (hvs : vs ≤ 6) (hi : 1 < n) (hn : n ≤ 4) {b : Nat} (hb : b < 4) {k : Nat} (hk : k < 3) (h1 : ¬ dtM (TnM n Bm 2 1) = 0) (h2 : ¬ dtM (TnM n Bm 1 1) = 0) : ∃ (wo4 un4 : Int64) (bo4 : Nat → Int32) (ta4 tr4 ro4 : Nat → Int64), KX3_blame l D ca ad [.ref 0, .int 1, .int (Int32.ofNat b), .int (Int32.ofNat k), .int 1] (MW (Int32.ofNat n) (Int32.ofNat vs) wo un h bo ta tr ro ot Bm bk) (some (.long ((thM (smG n (fun i s => emM (Bm (bkM 2 1 i) i) k s) (rdM n (TnM n Bm 2 1) (dtM (TnM n Bm 2 1)) (fun j => (bk b j).toInt64)) 1) (absX (dtM (TnM n Bm 2 1)))) - (thM (smG n (fun i s => emM (Bm (bkM 1 1 i) i) k s) (rdM n (TnM n Bm 1 1) (dtM (TnM n Bm 1 1)) (fun j => (bk b j).toInt64)) 1) (absX (dtM (TnM n Bm 1 1))))))) (MW (Int32.ofNat n) (Int32.ofNat vs) wo4 un4 h bo4 ta4 tr4 ro4 ot Bm bk) := by
  obtain ⟨a1, ea1⟩ : ∃ z, z = (thM (smG n (fun i s => emM (Bm (bkM 2 1 i) i) k s) (rdM n (TnM n Bm 2 1) (dtM (TnM n Bm 2 1)) (fun j => (bk b j).toInt64)) 1) (absX (dtM (TnM n Bm 2 1)))) := ⟨_, rfl⟩
  obtain ⟨a2, ea2⟩ : ∃ z, z = (thM (smG n (fun i s => emM (Bm (bkM 1 1 i) i) k s) (rdM n (TnM n Bm 1 1) (dtM (TnM n Bm 1 1)) (fun j => (bk b j).toInt64)) 1) (absX (dtM (TnM n Bm 1 1)))) := ⟨_, rfl⟩
  obtain ⟨un1, bo1, ta1, tr1, ro1, hk1⟩ := m_mixed1_1_2 (l := l) (D := D) (ca := ca) (ad := ad) (vs := vs) (wo := wo) (un := un) (h := h) (bo := bo) (ta := ta) (tr := tr) (ro := ro) (ot := ot) hn hb hk h1
  rw [← ea1] at hk1
  obtain ⟨d1, ed1⟩ : ∃ z, z = dtM (TnM n Bm 2 1) := ⟨_, rfl⟩
  rw [← ed1] at hk1 h1
  obtain ⟨un3, bo3, ta3, tr3, ro3, hk3⟩ := m_mixed1_1_1 (l := l) (D := D) (ca := ca) (ad := ad) (vs := vs) (wo := d1) (un := un1) (h := h) (bo := bo1) (ta := ta1) (tr := tr1) (ro := ro1) (ot := ot) hn hb hk h2
  rw [← ea2] at hk3
  obtain ⟨d2, ed2⟩ : ∃ z, z = dtM (TnM n Bm 1 1) := ⟨_, rfl⟩
  rw [← ed2] at hk3 h2
  rw [← ea1, ← ea2]
  refine ⟨d2, un3, bo3, ta3, tr3, ro3, ?_⟩
  refine PX3_blame (Nat.le_of_ble_eq_true rfl) ?_
  intro G hT hC hR
  refine mB hT 6 rfl ?_
  refine hC.1 _ [_, _, _] _ _ _ _ (m_in_t (by decide) ((le_pred (by omega)).mpr (ofNat_lt (i := 1) hv (by omega)))) rfl (Nat.le_of_ble_eq_true rfl) rfl ?_
  refine mB hT 2 rfl ?_
  refine hC.2.1 _ [_] _ _ _ _ (m_isBasket_t hb) rfl (Nat.le_of_ble_eq_true rfl) rfl ?_
  refine mB hT 2 rfl ?_
  refine hC.2.2.1 _ [_] _ _ _ _ (m_isStuff_t hk) rfl (Nat.le_of_ble_eq_true rfl) rfl ?_
  refine mB hT 3 rfl ?_
  refine hC.2.2.2.1 _ 0 [_] _ _ _ _ _ (m_isMaking_t (i := 1) hi hn) rfl rfl (Nat.le_of_ble_eq_true rfl) rfl ?_
  refine mB hT 8 rfl ?_
  refine hC.2.2.2.2.1 _ 0 [_, _, _, _] _ _ _ _ _ (hk1) rfl rfl (Nat.le_of_ble_eq_true rfl) rfl ?_
  refine mB hT 6 rfl ?_
  refine mIf (fun hp => absurd hp (fun q => h1 (lc_eq.mp q))) (fun _ => ?_)
  refine mB hT 5 rfl ?_
  refine hC.2.2.2.2.2 _ 0 [_, _, _, _] _ _ _ _ _ (hk3) rfl rfl (Nat.le_of_ble_eq_true rfl) rfl ?_
  refine mB hT 6 rfl ?_
  refine mIf (fun hp => absurd hp (fun q => h2 (lc_eq.mp q))) (fun _ => ?_)
  refine mNf (lv2 := [(7, .long a2), (5, .long a1), (0, .ref 0), (1, .int 1), (2, .int (Int32.ofNat b)), (3, .int (Int32.ofNat k)), (4, .int 1)]) (st2 := []) rfl rfl ?_
  refine mB hT 3 rfl ?_
  exact hR _ (by decide) _ _ _ rfl rfl
set_option maxRecDepth 20000 in
theorem m_blame_A_1_2 {n vs : Nat} {wo un h : Int64} {bo : Nat → Int32} {ta tr ro ot : Nat → Int64} {Bm : Nat → Nat → Nat → Int32} {bk : Nat → Nat → Int32} (hv : 1 < vs) (hvs : vs ≤ 6) (hi : 2 < n) (hn : n ≤ 4) {b : Nat} (hb : b < 4) {k : Nat} (hk : k < 3) (h1 : dtM (TnM n Bm 3 1) = 0) : ∃ (wo4 un4 : Int64) (bo4 : Nat → Int32) (ta4 tr4 ro4 : Nat → Int64), KX3_blame l D ca ad [.ref 0, .int 1, .int (Int32.ofNat b), .int (Int32.ofNat k), .int 2] (MW (Int32.ofNat n) (Int32.ofNat vs) wo un h bo ta tr ro ot Bm bk) (some (.long (-9000000000000000004))) (MW (Int32.ofNat n) (Int32.ofNat vs) wo4 un4 h bo4 ta4 tr4 ro4 ot Bm bk) := by
  obtain ⟨un1, bo1, ta1, tr1, ro1, hk1⟩ := m_mixed0_1_3 (l := l) (D := D) (ca := ca) (ad := ad) (vs := vs) (wo := wo) (un := un) (h := h) (bo := bo) (ta := ta) (tr := tr) (ro := ro) (ot := ot) hn hb hk h1
  obtain ⟨d1, ed1⟩ : ∃ z, z = dtM (TnM n Bm 3 1) := ⟨_, rfl⟩
  rw [← ed1] at hk1 h1
  refine ⟨d1, un1, bo1, ta1, tr1, ro1, ?_⟩
  refine PX3_blame (Nat.le_of_ble_eq_true rfl) ?_
  intro G hT hC hR
  refine mB hT 6 rfl ?_
  refine hC.1 _ [_, _, _] _ _ _ _ (m_in_t (by decide) ((le_pred (by omega)).mpr (ofNat_lt (i := 1) hv (by omega)))) rfl (Nat.le_of_ble_eq_true rfl) rfl ?_
  refine mB hT 2 rfl ?_
  refine hC.2.1 _ [_] _ _ _ _ (m_isBasket_t hb) rfl (Nat.le_of_ble_eq_true rfl) rfl ?_
  refine mB hT 2 rfl ?_
  refine hC.2.2.1 _ [_] _ _ _ _ (m_isStuff_t hk) rfl (Nat.le_of_ble_eq_true rfl) rfl ?_
  refine mB hT 3 rfl ?_
  refine hC.2.2.2.1 _ 0 [_] _ _ _ _ _ (m_isMaking_t (i := 2) hi hn) rfl rfl (Nat.le_of_ble_eq_true rfl) rfl ?_
  refine mB hT 8 rfl ?_
  refine hC.2.2.2.2.1 _ 0 [_, _, _, _] _ _ _ _ _ (hk1) rfl rfl (Nat.le_of_ble_eq_true rfl) rfl ?_
  refine mB hT 6 rfl ?_
  refine mIf (fun _ => ?_) (fun hn => absurd (lc_eq.mpr h1) hn)
  refine mB hT 1 rfl ?_
  exact hR _ (by decide) _ _ _ rfl rfl
set_option maxRecDepth 20000 in
theorem m_blame_B_1_2 {n vs : Nat} {wo un h : Int64} {bo : Nat → Int32} {ta tr ro ot : Nat → Int64} {Bm : Nat → Nat → Nat → Int32} {bk : Nat → Nat → Int32} (hv : 1 < vs) (hvs : vs ≤ 6) (hi : 2 < n) (hn : n ≤ 4) {b : Nat} (hb : b < 4) {k : Nat} (hk : k < 3) (h1 : ¬ dtM (TnM n Bm 3 1) = 0) (h2 : dtM (TnM n Bm 2 1) = 0) : ∃ (wo4 un4 : Int64) (bo4 : Nat → Int32) (ta4 tr4 ro4 : Nat → Int64), KX3_blame l D ca ad [.ref 0, .int 1, .int (Int32.ofNat b), .int (Int32.ofNat k), .int 2] (MW (Int32.ofNat n) (Int32.ofNat vs) wo un h bo ta tr ro ot Bm bk) (some (.long (-9000000000000000004))) (MW (Int32.ofNat n) (Int32.ofNat vs) wo4 un4 h bo4 ta4 tr4 ro4 ot Bm bk) := by
  obtain ⟨un1, bo1, ta1, tr1, ro1, hk1⟩ := m_mixed1_1_3 (l := l) (D := D) (ca := ca) (ad := ad) (vs := vs) (wo := wo) (un := un) (h := h) (bo := bo) (ta := ta) (tr := tr) (ro := ro) (ot := ot) hn hb hk h1
  obtain ⟨d1, ed1⟩ : ∃ z, z = dtM (TnM n Bm 3 1) := ⟨_, rfl⟩
  rw [← ed1] at hk1 h1
  generalize thM _ _ = a1 at hk1
  obtain ⟨un3, bo3, ta3, tr3, ro3, hk3⟩ := m_mixed0_1_2 (l := l) (D := D) (ca := ca) (ad := ad) (vs := vs) (wo := d1) (un := un1) (h := h) (bo := bo1) (ta := ta1) (tr := tr1) (ro := ro1) (ot := ot) hn hb hk h2
  obtain ⟨d2, ed2⟩ : ∃ z, z = dtM (TnM n Bm 2 1) := ⟨_, rfl⟩
  rw [← ed2] at hk3 h2
  refine ⟨d2, un3, bo3, ta3, tr3, ro3, ?_⟩
  refine PX3_blame (Nat.le_of_ble_eq_true rfl) ?_
  intro G hT hC hR
  refine mB hT 6 rfl ?_
  refine hC.1 _ [_, _, _] _ _ _ _ (m_in_t (by decide) ((le_pred (by omega)).mpr (ofNat_lt (i := 1) hv (by omega)))) rfl (Nat.le_of_ble_eq_true rfl) rfl ?_
  refine mB hT 2 rfl ?_
  refine hC.2.1 _ [_] _ _ _ _ (m_isBasket_t hb) rfl (Nat.le_of_ble_eq_true rfl) rfl ?_
  refine mB hT 2 rfl ?_
  refine hC.2.2.1 _ [_] _ _ _ _ (m_isStuff_t hk) rfl (Nat.le_of_ble_eq_true rfl) rfl ?_
  refine mB hT 3 rfl ?_
  refine hC.2.2.2.1 _ 0 [_] _ _ _ _ _ (m_isMaking_t (i := 2) hi hn) rfl rfl (Nat.le_of_ble_eq_true rfl) rfl ?_
  refine mB hT 8 rfl ?_
  refine hC.2.2.2.2.1 _ 0 [_, _, _, _] _ _ _ _ _ (hk1) rfl rfl (Nat.le_of_ble_eq_true rfl) rfl ?_
  refine mB hT 6 rfl ?_
  refine mIf (fun hp => absurd hp (fun q => h1 (lc_eq.mp q))) (fun _ => ?_)
  refine mB hT 5 rfl ?_
  refine hC.2.2.2.2.2 _ 0 [_, _, _, _] _ _ _ _ _ (hk3) rfl rfl (Nat.le_of_ble_eq_true rfl) rfl ?_
  refine mB hT 6 rfl ?_
  refine mIf (fun _ => ?_) (fun hn => absurd (lc_eq.mpr h2) hn)
  refine mNf (lv2 := [(7, .long 0), (5, .long a1), (0, .ref 0), (1, .int 1), (2, .int (Int32.ofNat b)), (3, .int (Int32.ofNat k)), (4, .int 2)]) (st2 := []) rfl rfl ?_
  refine mB hT 2 rfl ?_
  exact hR _ (by decide) _ _ _ rfl rfl
set_option maxRecDepth 20000 in
theorem m_blame_C_1_2 {n vs : Nat} {wo un h : Int64} {bo : Nat → Int32} {ta tr ro ot : Nat → Int64} {Bm : Nat → Nat → Nat → Int32} {bk : Nat → Nat → Int32} (hv : 1 < vs) (hvs : vs ≤ 6) (hi : 2 < n) (hn : n ≤ 4) {b : Nat} (hb : b < 4) {k : Nat} (hk : k < 3) (h1 : ¬ dtM (TnM n Bm 3 1) = 0) (h2 : ¬ dtM (TnM n Bm 2 1) = 0) : ∃ (wo4 un4 : Int64) (bo4 : Nat → Int32) (ta4 tr4 ro4 : Nat → Int64), KX3_blame l D ca ad [.ref 0, .int 1, .int (Int32.ofNat b), .int (Int32.ofNat k), .int 2] (MW (Int32.ofNat n) (Int32.ofNat vs) wo un h bo ta tr ro ot Bm bk) (some (.long ((thM (smG n (fun i s => emM (Bm (bkM 3 1 i) i) k s) (rdM n (TnM n Bm 3 1) (dtM (TnM n Bm 3 1)) (fun j => (bk b j).toInt64)) 1) (absX (dtM (TnM n Bm 3 1)))) - (thM (smG n (fun i s => emM (Bm (bkM 2 1 i) i) k s) (rdM n (TnM n Bm 2 1) (dtM (TnM n Bm 2 1)) (fun j => (bk b j).toInt64)) 1) (absX (dtM (TnM n Bm 2 1))))))) (MW (Int32.ofNat n) (Int32.ofNat vs) wo4 un4 h bo4 ta4 tr4 ro4 ot Bm bk) := by
  obtain ⟨a1, ea1⟩ : ∃ z, z = (thM (smG n (fun i s => emM (Bm (bkM 3 1 i) i) k s) (rdM n (TnM n Bm 3 1) (dtM (TnM n Bm 3 1)) (fun j => (bk b j).toInt64)) 1) (absX (dtM (TnM n Bm 3 1)))) := ⟨_, rfl⟩
  obtain ⟨a2, ea2⟩ : ∃ z, z = (thM (smG n (fun i s => emM (Bm (bkM 2 1 i) i) k s) (rdM n (TnM n Bm 2 1) (dtM (TnM n Bm 2 1)) (fun j => (bk b j).toInt64)) 1) (absX (dtM (TnM n Bm 2 1)))) := ⟨_, rfl⟩
  obtain ⟨un1, bo1, ta1, tr1, ro1, hk1⟩ := m_mixed1_1_3 (l := l) (D := D) (ca := ca) (ad := ad) (vs := vs) (wo := wo) (un := un) (h := h) (bo := bo) (ta := ta) (tr := tr) (ro := ro) (ot := ot) hn hb hk h1
  rw [← ea1] at hk1
  obtain ⟨d1, ed1⟩ : ∃ z, z = dtM (TnM n Bm 3 1) := ⟨_, rfl⟩
  rw [← ed1] at hk1 h1
  obtain ⟨un3, bo3, ta3, tr3, ro3, hk3⟩ := m_mixed1_1_2 (l := l) (D := D) (ca := ca) (ad := ad) (vs := vs) (wo := d1) (un := un1) (h := h) (bo := bo1) (ta := ta1) (tr := tr1) (ro := ro1) (ot := ot) hn hb hk h2
  rw [← ea2] at hk3
  obtain ⟨d2, ed2⟩ : ∃ z, z = dtM (TnM n Bm 2 1) := ⟨_, rfl⟩
  rw [← ed2] at hk3 h2
  rw [← ea1, ← ea2]
  refine ⟨d2, un3, bo3, ta3, tr3, ro3, ?_⟩
  refine PX3_blame (Nat.le_of_ble_eq_true rfl) ?_
  intro G hT hC hR
  refine mB hT 6 rfl ?_
  refine hC.1 _ [_, _, _] _ _ _ _ (m_in_t (by decide) ((le_pred (by omega)).mpr (ofNat_lt (i := 1) hv (by omega)))) rfl (Nat.le_of_ble_eq_true rfl) rfl ?_
  refine mB hT 2 rfl ?_
  refine hC.2.1 _ [_] _ _ _ _ (m_isBasket_t hb) rfl (Nat.le_of_ble_eq_true rfl) rfl ?_
  refine mB hT 2 rfl ?_
  refine hC.2.2.1 _ [_] _ _ _ _ (m_isStuff_t hk) rfl (Nat.le_of_ble_eq_true rfl) rfl ?_
  refine mB hT 3 rfl ?_
  refine hC.2.2.2.1 _ 0 [_] _ _ _ _ _ (m_isMaking_t (i := 2) hi hn) rfl rfl (Nat.le_of_ble_eq_true rfl) rfl ?_
  refine mB hT 8 rfl ?_
  refine hC.2.2.2.2.1 _ 0 [_, _, _, _] _ _ _ _ _ (hk1) rfl rfl (Nat.le_of_ble_eq_true rfl) rfl ?_
  refine mB hT 6 rfl ?_
  refine mIf (fun hp => absurd hp (fun q => h1 (lc_eq.mp q))) (fun _ => ?_)
  refine mB hT 5 rfl ?_
  refine hC.2.2.2.2.2 _ 0 [_, _, _, _] _ _ _ _ _ (hk3) rfl rfl (Nat.le_of_ble_eq_true rfl) rfl ?_
  refine mB hT 6 rfl ?_
  refine mIf (fun hp => absurd hp (fun q => h2 (lc_eq.mp q))) (fun _ => ?_)
  refine mNf (lv2 := [(7, .long a2), (5, .long a1), (0, .ref 0), (1, .int 1), (2, .int (Int32.ofNat b)), (3, .int (Int32.ofNat k)), (4, .int 2)]) (st2 := []) rfl rfl ?_
  refine mB hT 3 rfl ?_
  exact hR _ (by decide) _ _ _ rfl rfl
set_option maxRecDepth 20000 in
theorem m_blame_A_1_3 {n vs : Nat} {wo un h : Int64} {bo : Nat → Int32} {ta tr ro ot : Nat → Int64} {Bm : Nat → Nat → Nat → Int32} {bk : Nat → Nat → Int32} (hv : 1 < vs) (hvs : vs ≤ 6) (hi : 3 < n) (hn : n ≤ 4) {b : Nat} (hb : b < 4) {k : Nat} (hk : k < 3) (h1 : dtM (TnM n Bm 4 0) = 0) : ∃ (wo4 un4 : Int64) (bo4 : Nat → Int32) (ta4 tr4 ro4 : Nat → Int64), KX3_blame l D ca ad [.ref 0, .int 1, .int (Int32.ofNat b), .int (Int32.ofNat k), .int 3] (MW (Int32.ofNat n) (Int32.ofNat vs) wo un h bo ta tr ro ot Bm bk) (some (.long (-9000000000000000004))) (MW (Int32.ofNat n) (Int32.ofNat vs) wo4 un4 h bo4 ta4 tr4 ro4 ot Bm bk) := by
  obtain ⟨un1, bo1, ta1, tr1, ro1, hk1⟩ := m_mixed0_1_4 (l := l) (D := D) (ca := ca) (ad := ad) (vs := vs) (wo := wo) (un := un) (h := h) (bo := bo) (ta := ta) (tr := tr) (ro := ro) (ot := ot) hn hb hk h1
  obtain ⟨d1, ed1⟩ : ∃ z, z = dtM (TnM n Bm 4 0) := ⟨_, rfl⟩
  rw [← ed1] at hk1 h1
  refine ⟨d1, un1, bo1, ta1, tr1, ro1, ?_⟩
  refine PX3_blame (Nat.le_of_ble_eq_true rfl) ?_
  intro G hT hC hR
  refine mB hT 6 rfl ?_
  refine hC.1 _ [_, _, _] _ _ _ _ (m_in_t (by decide) ((le_pred (by omega)).mpr (ofNat_lt (i := 1) hv (by omega)))) rfl (Nat.le_of_ble_eq_true rfl) rfl ?_
  refine mB hT 2 rfl ?_
  refine hC.2.1 _ [_] _ _ _ _ (m_isBasket_t hb) rfl (Nat.le_of_ble_eq_true rfl) rfl ?_
  refine mB hT 2 rfl ?_
  refine hC.2.2.1 _ [_] _ _ _ _ (m_isStuff_t hk) rfl (Nat.le_of_ble_eq_true rfl) rfl ?_
  refine mB hT 3 rfl ?_
  refine hC.2.2.2.1 _ 0 [_] _ _ _ _ _ (m_isMaking_t (i := 3) hi hn) rfl rfl (Nat.le_of_ble_eq_true rfl) rfl ?_
  refine mB hT 8 rfl ?_
  refine hC.2.2.2.2.1 _ 0 [_, _, _, _] _ _ _ _ _ (hk1) rfl rfl (Nat.le_of_ble_eq_true rfl) rfl ?_
  refine mB hT 6 rfl ?_
  refine mIf (fun _ => ?_) (fun hn => absurd (lc_eq.mpr h1) hn)
  refine mB hT 1 rfl ?_
  exact hR _ (by decide) _ _ _ rfl rfl
set_option maxRecDepth 20000 in
theorem m_blame_B_1_3 {n vs : Nat} {wo un h : Int64} {bo : Nat → Int32} {ta tr ro ot : Nat → Int64} {Bm : Nat → Nat → Nat → Int32} {bk : Nat → Nat → Int32} (hv : 1 < vs) (hvs : vs ≤ 6) (hi : 3 < n) (hn : n ≤ 4) {b : Nat} (hb : b < 4) {k : Nat} (hk : k < 3) (h1 : ¬ dtM (TnM n Bm 4 0) = 0) (h2 : dtM (TnM n Bm 3 1) = 0) : ∃ (wo4 un4 : Int64) (bo4 : Nat → Int32) (ta4 tr4 ro4 : Nat → Int64), KX3_blame l D ca ad [.ref 0, .int 1, .int (Int32.ofNat b), .int (Int32.ofNat k), .int 3] (MW (Int32.ofNat n) (Int32.ofNat vs) wo un h bo ta tr ro ot Bm bk) (some (.long (-9000000000000000004))) (MW (Int32.ofNat n) (Int32.ofNat vs) wo4 un4 h bo4 ta4 tr4 ro4 ot Bm bk) := by
  obtain ⟨un1, bo1, ta1, tr1, ro1, hk1⟩ := m_mixed1_1_4 (l := l) (D := D) (ca := ca) (ad := ad) (vs := vs) (wo := wo) (un := un) (h := h) (bo := bo) (ta := ta) (tr := tr) (ro := ro) (ot := ot) hn hb hk h1
  obtain ⟨d1, ed1⟩ : ∃ z, z = dtM (TnM n Bm 4 0) := ⟨_, rfl⟩
  rw [← ed1] at hk1 h1
  generalize thM _ _ = a1 at hk1
  obtain ⟨un3, bo3, ta3, tr3, ro3, hk3⟩ := m_mixed0_1_3 (l := l) (D := D) (ca := ca) (ad := ad) (vs := vs) (wo := d1) (un := un1) (h := h) (bo := bo1) (ta := ta1) (tr := tr1) (ro := ro1) (ot := ot) hn hb hk h2
  obtain ⟨d2, ed2⟩ : ∃ z, z = dtM (TnM n Bm 3 1) := ⟨_, rfl⟩
  rw [← ed2] at hk3 h2
  refine ⟨d2, un3, bo3, ta3, tr3, ro3, ?_⟩
  refine PX3_blame (Nat.le_of_ble_eq_true rfl) ?_
  intro G hT hC hR
  refine mB hT 6 rfl ?_
  refine hC.1 _ [_, _, _] _ _ _ _ (m_in_t (by decide) ((le_pred (by omega)).mpr (ofNat_lt (i := 1) hv (by omega)))) rfl (Nat.le_of_ble_eq_true rfl) rfl ?_
  refine mB hT 2 rfl ?_
  refine hC.2.1 _ [_] _ _ _ _ (m_isBasket_t hb) rfl (Nat.le_of_ble_eq_true rfl) rfl ?_
  refine mB hT 2 rfl ?_
  refine hC.2.2.1 _ [_] _ _ _ _ (m_isStuff_t hk) rfl (Nat.le_of_ble_eq_true rfl) rfl ?_
  refine mB hT 3 rfl ?_
  refine hC.2.2.2.1 _ 0 [_] _ _ _ _ _ (m_isMaking_t (i := 3) hi hn) rfl rfl (Nat.le_of_ble_eq_true rfl) rfl ?_
  refine mB hT 8 rfl ?_
  refine hC.2.2.2.2.1 _ 0 [_, _, _, _] _ _ _ _ _ (hk1) rfl rfl (Nat.le_of_ble_eq_true rfl) rfl ?_
  refine mB hT 6 rfl ?_
  refine mIf (fun hp => absurd hp (fun q => h1 (lc_eq.mp q))) (fun _ => ?_)
  refine mB hT 5 rfl ?_
  refine hC.2.2.2.2.2 _ 0 [_, _, _, _] _ _ _ _ _ (hk3) rfl rfl (Nat.le_of_ble_eq_true rfl) rfl ?_
  refine mB hT 6 rfl ?_
  refine mIf (fun _ => ?_) (fun hn => absurd (lc_eq.mpr h2) hn)
  refine mNf (lv2 := [(7, .long 0), (5, .long a1), (0, .ref 0), (1, .int 1), (2, .int (Int32.ofNat b)), (3, .int (Int32.ofNat k)), (4, .int 3)]) (st2 := []) rfl rfl ?_
  refine mB hT 2 rfl ?_
  exact hR _ (by decide) _ _ _ rfl rfl
set_option maxRecDepth 20000 in
theorem m_blame_C_1_3 {n vs : Nat} {wo un h : Int64} {bo : Nat → Int32} {ta tr ro ot : Nat → Int64} {Bm : Nat → Nat → Nat → Int32} {bk : Nat → Nat → Int32} (hv : 1 < vs) (hvs : vs ≤ 6) (hi : 3 < n) (hn : n ≤ 4) {b : Nat} (hb : b < 4) {k : Nat} (hk : k < 3) (h1 : ¬ dtM (TnM n Bm 4 0) = 0) (h2 : ¬ dtM (TnM n Bm 3 1) = 0) : ∃ (wo4 un4 : Int64) (bo4 : Nat → Int32) (ta4 tr4 ro4 : Nat → Int64), KX3_blame l D ca ad [.ref 0, .int 1, .int (Int32.ofNat b), .int (Int32.ofNat k), .int 3] (MW (Int32.ofNat n) (Int32.ofNat vs) wo un h bo ta tr ro ot Bm bk) (some (.long ((thM (smG n (fun i s => emM (Bm (bkM 4 0 i) i) k s) (rdM n (TnM n Bm 4 0) (dtM (TnM n Bm 4 0)) (fun j => (bk b j).toInt64)) 1) (absX (dtM (TnM n Bm 4 0)))) - (thM (smG n (fun i s => emM (Bm (bkM 3 1 i) i) k s) (rdM n (TnM n Bm 3 1) (dtM (TnM n Bm 3 1)) (fun j => (bk b j).toInt64)) 1) (absX (dtM (TnM n Bm 3 1))))))) (MW (Int32.ofNat n) (Int32.ofNat vs) wo4 un4 h bo4 ta4 tr4 ro4 ot Bm bk) := by
  obtain ⟨a1, ea1⟩ : ∃ z, z = (thM (smG n (fun i s => emM (Bm (bkM 4 0 i) i) k s) (rdM n (TnM n Bm 4 0) (dtM (TnM n Bm 4 0)) (fun j => (bk b j).toInt64)) 1) (absX (dtM (TnM n Bm 4 0)))) := ⟨_, rfl⟩
  obtain ⟨a2, ea2⟩ : ∃ z, z = (thM (smG n (fun i s => emM (Bm (bkM 3 1 i) i) k s) (rdM n (TnM n Bm 3 1) (dtM (TnM n Bm 3 1)) (fun j => (bk b j).toInt64)) 1) (absX (dtM (TnM n Bm 3 1)))) := ⟨_, rfl⟩
  obtain ⟨un1, bo1, ta1, tr1, ro1, hk1⟩ := m_mixed1_1_4 (l := l) (D := D) (ca := ca) (ad := ad) (vs := vs) (wo := wo) (un := un) (h := h) (bo := bo) (ta := ta) (tr := tr) (ro := ro) (ot := ot) hn hb hk h1
  rw [← ea1] at hk1
  obtain ⟨d1, ed1⟩ : ∃ z, z = dtM (TnM n Bm 4 0) := ⟨_, rfl⟩
  rw [← ed1] at hk1 h1
  obtain ⟨un3, bo3, ta3, tr3, ro3, hk3⟩ := m_mixed1_1_3 (l := l) (D := D) (ca := ca) (ad := ad) (vs := vs) (wo := d1) (un := un1) (h := h) (bo := bo1) (ta := ta1) (tr := tr1) (ro := ro1) (ot := ot) hn hb hk h2
  rw [← ea2] at hk3
  obtain ⟨d2, ed2⟩ : ∃ z, z = dtM (TnM n Bm 3 1) := ⟨_, rfl⟩
  rw [← ed2] at hk3 h2
  rw [← ea1, ← ea2]
  refine ⟨d2, un3, bo3, ta3, tr3, ro3, ?_⟩
  refine PX3_blame (Nat.le_of_ble_eq_true rfl) ?_
  intro G hT hC hR
  refine mB hT 6 rfl ?_
  refine hC.1 _ [_, _, _] _ _ _ _ (m_in_t (by decide) ((le_pred (by omega)).mpr (ofNat_lt (i := 1) hv (by omega)))) rfl (Nat.le_of_ble_eq_true rfl) rfl ?_
  refine mB hT 2 rfl ?_
  refine hC.2.1 _ [_] _ _ _ _ (m_isBasket_t hb) rfl (Nat.le_of_ble_eq_true rfl) rfl ?_
  refine mB hT 2 rfl ?_
  refine hC.2.2.1 _ [_] _ _ _ _ (m_isStuff_t hk) rfl (Nat.le_of_ble_eq_true rfl) rfl ?_
  refine mB hT 3 rfl ?_
  refine hC.2.2.2.1 _ 0 [_] _ _ _ _ _ (m_isMaking_t (i := 3) hi hn) rfl rfl (Nat.le_of_ble_eq_true rfl) rfl ?_
  refine mB hT 8 rfl ?_
  refine hC.2.2.2.2.1 _ 0 [_, _, _, _] _ _ _ _ _ (hk1) rfl rfl (Nat.le_of_ble_eq_true rfl) rfl ?_
  refine mB hT 6 rfl ?_
  refine mIf (fun hp => absurd hp (fun q => h1 (lc_eq.mp q))) (fun _ => ?_)
  refine mB hT 5 rfl ?_
  refine hC.2.2.2.2.2 _ 0 [_, _, _, _] _ _ _ _ _ (hk3) rfl rfl (Nat.le_of_ble_eq_true rfl) rfl ?_
  refine mB hT 6 rfl ?_
  refine mIf (fun hp => absurd hp (fun q => h2 (lc_eq.mp q))) (fun _ => ?_)
  refine mNf (lv2 := [(7, .long a2), (5, .long a1), (0, .ref 0), (1, .int 1), (2, .int (Int32.ofNat b)), (3, .int (Int32.ofNat k)), (4, .int 3)]) (st2 := []) rfl rfl ?_
  refine mB hT 3 rfl ?_
  exact hR _ (by decide) _ _ _ rfl rfl
set_option maxRecDepth 20000 in
theorem m_blame_A_2_0 {n vs : Nat} {wo un h : Int64} {bo : Nat → Int32} {ta tr ro ot : Nat → Int64} {Bm : Nat → Nat → Nat → Int32} {bk : Nat → Nat → Int32} (hv : 2 < vs) (hvs : vs ≤ 6) (hi : 0 < n) (hn : n ≤ 4) {b : Nat} (hb : b < 4) {k : Nat} (hk : k < 3) (h1 : dtM (TnM n Bm 1 2) = 0) : ∃ (wo4 un4 : Int64) (bo4 : Nat → Int32) (ta4 tr4 ro4 : Nat → Int64), KX3_blame l D ca ad [.ref 0, .int 2, .int (Int32.ofNat b), .int (Int32.ofNat k), .int 0] (MW (Int32.ofNat n) (Int32.ofNat vs) wo un h bo ta tr ro ot Bm bk) (some (.long (-9000000000000000004))) (MW (Int32.ofNat n) (Int32.ofNat vs) wo4 un4 h bo4 ta4 tr4 ro4 ot Bm bk) := by
  obtain ⟨un1, bo1, ta1, tr1, ro1, hk1⟩ := m_mixed0_2_1 (l := l) (D := D) (ca := ca) (ad := ad) (vs := vs) (wo := wo) (un := un) (h := h) (bo := bo) (ta := ta) (tr := tr) (ro := ro) (ot := ot) hn hb hk h1
  obtain ⟨d1, ed1⟩ : ∃ z, z = dtM (TnM n Bm 1 2) := ⟨_, rfl⟩
  rw [← ed1] at hk1 h1
  refine ⟨d1, un1, bo1, ta1, tr1, ro1, ?_⟩
  refine PX3_blame (Nat.le_of_ble_eq_true rfl) ?_
  intro G hT hC hR
  refine mB hT 6 rfl ?_
  refine hC.1 _ [_, _, _] _ _ _ _ (m_in_t (by decide) ((le_pred (by omega)).mpr (ofNat_lt (i := 2) hv (by omega)))) rfl (Nat.le_of_ble_eq_true rfl) rfl ?_
  refine mB hT 2 rfl ?_
  refine hC.2.1 _ [_] _ _ _ _ (m_isBasket_t hb) rfl (Nat.le_of_ble_eq_true rfl) rfl ?_
  refine mB hT 2 rfl ?_
  refine hC.2.2.1 _ [_] _ _ _ _ (m_isStuff_t hk) rfl (Nat.le_of_ble_eq_true rfl) rfl ?_
  refine mB hT 3 rfl ?_
  refine hC.2.2.2.1 _ 0 [_] _ _ _ _ _ (m_isMaking_t (i := 0) hi hn) rfl rfl (Nat.le_of_ble_eq_true rfl) rfl ?_
  refine mB hT 8 rfl ?_
  refine hC.2.2.2.2.1 _ 0 [_, _, _, _] _ _ _ _ _ (hk1) rfl rfl (Nat.le_of_ble_eq_true rfl) rfl ?_
  refine mB hT 6 rfl ?_
  refine mIf (fun _ => ?_) (fun hn => absurd (lc_eq.mpr h1) hn)
  refine mB hT 1 rfl ?_
  exact hR _ (by decide) _ _ _ rfl rfl
set_option maxRecDepth 20000 in
theorem m_blame_B_2_0 {n vs : Nat} {wo un h : Int64} {bo : Nat → Int32} {ta tr ro ot : Nat → Int64} {Bm : Nat → Nat → Nat → Int32} {bk : Nat → Nat → Int32} (hv : 2 < vs) (hvs : vs ≤ 6) (hi : 0 < n) (hn : n ≤ 4) {b : Nat} (hb : b < 4) {k : Nat} (hk : k < 3) (h1 : ¬ dtM (TnM n Bm 1 2) = 0) (h2 : dtM (TnM n Bm 0 2) = 0) : ∃ (wo4 un4 : Int64) (bo4 : Nat → Int32) (ta4 tr4 ro4 : Nat → Int64), KX3_blame l D ca ad [.ref 0, .int 2, .int (Int32.ofNat b), .int (Int32.ofNat k), .int 0] (MW (Int32.ofNat n) (Int32.ofNat vs) wo un h bo ta tr ro ot Bm bk) (some (.long (-9000000000000000004))) (MW (Int32.ofNat n) (Int32.ofNat vs) wo4 un4 h bo4 ta4 tr4 ro4 ot Bm bk) := by
  obtain ⟨un1, bo1, ta1, tr1, ro1, hk1⟩ := m_mixed1_2_1 (l := l) (D := D) (ca := ca) (ad := ad) (vs := vs) (wo := wo) (un := un) (h := h) (bo := bo) (ta := ta) (tr := tr) (ro := ro) (ot := ot) hn hb hk h1
  obtain ⟨d1, ed1⟩ : ∃ z, z = dtM (TnM n Bm 1 2) := ⟨_, rfl⟩
  rw [← ed1] at hk1 h1
  generalize thM _ _ = a1 at hk1
  obtain ⟨un3, bo3, ta3, tr3, ro3, hk3⟩ := m_mixed0_2_0 (l := l) (D := D) (ca := ca) (ad := ad) (vs := vs) (wo := d1) (un := un1) (h := h) (bo := bo1) (ta := ta1) (tr := tr1) (ro := ro1) (ot := ot) hn hb hk h2
  obtain ⟨d2, ed2⟩ : ∃ z, z = dtM (TnM n Bm 0 2) := ⟨_, rfl⟩
  rw [← ed2] at hk3 h2
  refine ⟨d2, un3, bo3, ta3, tr3, ro3, ?_⟩
  refine PX3_blame (Nat.le_of_ble_eq_true rfl) ?_
  intro G hT hC hR
  refine mB hT 6 rfl ?_
  refine hC.1 _ [_, _, _] _ _ _ _ (m_in_t (by decide) ((le_pred (by omega)).mpr (ofNat_lt (i := 2) hv (by omega)))) rfl (Nat.le_of_ble_eq_true rfl) rfl ?_
  refine mB hT 2 rfl ?_
  refine hC.2.1 _ [_] _ _ _ _ (m_isBasket_t hb) rfl (Nat.le_of_ble_eq_true rfl) rfl ?_
  refine mB hT 2 rfl ?_
  refine hC.2.2.1 _ [_] _ _ _ _ (m_isStuff_t hk) rfl (Nat.le_of_ble_eq_true rfl) rfl ?_
  refine mB hT 3 rfl ?_
  refine hC.2.2.2.1 _ 0 [_] _ _ _ _ _ (m_isMaking_t (i := 0) hi hn) rfl rfl (Nat.le_of_ble_eq_true rfl) rfl ?_
  refine mB hT 8 rfl ?_
  refine hC.2.2.2.2.1 _ 0 [_, _, _, _] _ _ _ _ _ (hk1) rfl rfl (Nat.le_of_ble_eq_true rfl) rfl ?_
  refine mB hT 6 rfl ?_
  refine mIf (fun hp => absurd hp (fun q => h1 (lc_eq.mp q))) (fun _ => ?_)
  refine mB hT 5 rfl ?_
  refine hC.2.2.2.2.2 _ 0 [_, _, _, _] _ _ _ _ _ (hk3) rfl rfl (Nat.le_of_ble_eq_true rfl) rfl ?_
  refine mB hT 6 rfl ?_
  refine mIf (fun _ => ?_) (fun hn => absurd (lc_eq.mpr h2) hn)
  refine mNf (lv2 := [(7, .long 0), (5, .long a1), (0, .ref 0), (1, .int 2), (2, .int (Int32.ofNat b)), (3, .int (Int32.ofNat k)), (4, .int 0)]) (st2 := []) rfl rfl ?_
  refine mB hT 2 rfl ?_
  exact hR _ (by decide) _ _ _ rfl rfl
set_option maxRecDepth 20000 in
theorem m_blame_C_2_0 {n vs : Nat} {wo un h : Int64} {bo : Nat → Int32} {ta tr ro ot : Nat → Int64} {Bm : Nat → Nat → Nat → Int32} {bk : Nat → Nat → Int32} (hv : 2 < vs) (hvs : vs ≤ 6) (hi : 0 < n) (hn : n ≤ 4) {b : Nat} (hb : b < 4) {k : Nat} (hk : k < 3) (h1 : ¬ dtM (TnM n Bm 1 2) = 0) (h2 : ¬ dtM (TnM n Bm 0 2) = 0) : ∃ (wo4 un4 : Int64) (bo4 : Nat → Int32) (ta4 tr4 ro4 : Nat → Int64), KX3_blame l D ca ad [.ref 0, .int 2, .int (Int32.ofNat b), .int (Int32.ofNat k), .int 0] (MW (Int32.ofNat n) (Int32.ofNat vs) wo un h bo ta tr ro ot Bm bk) (some (.long ((thM (smG n (fun i s => emM (Bm (bkM 1 2 i) i) k s) (rdM n (TnM n Bm 1 2) (dtM (TnM n Bm 1 2)) (fun j => (bk b j).toInt64)) 1) (absX (dtM (TnM n Bm 1 2)))) - (thM (smG n (fun i s => emM (Bm (bkM 0 2 i) i) k s) (rdM n (TnM n Bm 0 2) (dtM (TnM n Bm 0 2)) (fun j => (bk b j).toInt64)) 1) (absX (dtM (TnM n Bm 0 2))))))) (MW (Int32.ofNat n) (Int32.ofNat vs) wo4 un4 h bo4 ta4 tr4 ro4 ot Bm bk) := by
  obtain ⟨a1, ea1⟩ : ∃ z, z = (thM (smG n (fun i s => emM (Bm (bkM 1 2 i) i) k s) (rdM n (TnM n Bm 1 2) (dtM (TnM n Bm 1 2)) (fun j => (bk b j).toInt64)) 1) (absX (dtM (TnM n Bm 1 2)))) := ⟨_, rfl⟩
  obtain ⟨a2, ea2⟩ : ∃ z, z = (thM (smG n (fun i s => emM (Bm (bkM 0 2 i) i) k s) (rdM n (TnM n Bm 0 2) (dtM (TnM n Bm 0 2)) (fun j => (bk b j).toInt64)) 1) (absX (dtM (TnM n Bm 0 2)))) := ⟨_, rfl⟩
  obtain ⟨un1, bo1, ta1, tr1, ro1, hk1⟩ := m_mixed1_2_1 (l := l) (D := D) (ca := ca) (ad := ad) (vs := vs) (wo := wo) (un := un) (h := h) (bo := bo) (ta := ta) (tr := tr) (ro := ro) (ot := ot) hn hb hk h1
  rw [← ea1] at hk1
  obtain ⟨d1, ed1⟩ : ∃ z, z = dtM (TnM n Bm 1 2) := ⟨_, rfl⟩
  rw [← ed1] at hk1 h1
  obtain ⟨un3, bo3, ta3, tr3, ro3, hk3⟩ := m_mixed1_2_0 (l := l) (D := D) (ca := ca) (ad := ad) (vs := vs) (wo := d1) (un := un1) (h := h) (bo := bo1) (ta := ta1) (tr := tr1) (ro := ro1) (ot := ot) hn hb hk h2
  rw [← ea2] at hk3
  obtain ⟨d2, ed2⟩ : ∃ z, z = dtM (TnM n Bm 0 2) := ⟨_, rfl⟩
  rw [← ed2] at hk3 h2
  rw [← ea1, ← ea2]
  refine ⟨d2, un3, bo3, ta3, tr3, ro3, ?_⟩
  refine PX3_blame (Nat.le_of_ble_eq_true rfl) ?_
  intro G hT hC hR
  refine mB hT 6 rfl ?_
  refine hC.1 _ [_, _, _] _ _ _ _ (m_in_t (by decide) ((le_pred (by omega)).mpr (ofNat_lt (i := 2) hv (by omega)))) rfl (Nat.le_of_ble_eq_true rfl) rfl ?_
  refine mB hT 2 rfl ?_
  refine hC.2.1 _ [_] _ _ _ _ (m_isBasket_t hb) rfl (Nat.le_of_ble_eq_true rfl) rfl ?_
  refine mB hT 2 rfl ?_
  refine hC.2.2.1 _ [_] _ _ _ _ (m_isStuff_t hk) rfl (Nat.le_of_ble_eq_true rfl) rfl ?_
  refine mB hT 3 rfl ?_
  refine hC.2.2.2.1 _ 0 [_] _ _ _ _ _ (m_isMaking_t (i := 0) hi hn) rfl rfl (Nat.le_of_ble_eq_true rfl) rfl ?_
  refine mB hT 8 rfl ?_
  refine hC.2.2.2.2.1 _ 0 [_, _, _, _] _ _ _ _ _ (hk1) rfl rfl (Nat.le_of_ble_eq_true rfl) rfl ?_
  refine mB hT 6 rfl ?_
  refine mIf (fun hp => absurd hp (fun q => h1 (lc_eq.mp q))) (fun _ => ?_)
  refine mB hT 5 rfl ?_
  refine hC.2.2.2.2.2 _ 0 [_, _, _, _] _ _ _ _ _ (hk3) rfl rfl (Nat.le_of_ble_eq_true rfl) rfl ?_
  refine mB hT 6 rfl ?_
  refine mIf (fun hp => absurd hp (fun q => h2 (lc_eq.mp q))) (fun _ => ?_)
  refine mNf (lv2 := [(7, .long a2), (5, .long a1), (0, .ref 0), (1, .int 2), (2, .int (Int32.ofNat b)), (3, .int (Int32.ofNat k)), (4, .int 0)]) (st2 := []) rfl rfl ?_
  refine mB hT 3 rfl ?_
  exact hR _ (by decide) _ _ _ rfl rfl
set_option maxRecDepth 20000 in
theorem m_blame_A_2_1 {n vs : Nat} {wo un h : Int64} {bo : Nat → Int32} {ta tr ro ot : Nat → Int64} {Bm : Nat → Nat → Nat → Int32} {bk : Nat → Nat → Int32} (hv : 2 < vs) (hvs : vs ≤ 6) (hi : 1 < n) (hn : n ≤ 4) {b : Nat} (hb : b < 4) {k : Nat} (hk : k < 3) (h1 : dtM (TnM n Bm 2 2) = 0) : ∃ (wo4 un4 : Int64) (bo4 : Nat → Int32) (ta4 tr4 ro4 : Nat → Int64), KX3_blame l D ca ad [.ref 0, .int 2, .int (Int32.ofNat b), .int (Int32.ofNat k), .int 1] (MW (Int32.ofNat n) (Int32.ofNat vs) wo un h bo ta tr ro ot Bm bk) (some (.long (-9000000000000000004))) (MW (Int32.ofNat n) (Int32.ofNat vs) wo4 un4 h bo4 ta4 tr4 ro4 ot Bm bk) := by
  obtain ⟨un1, bo1, ta1, tr1, ro1, hk1⟩ := m_mixed0_2_2 (l := l) (D := D) (ca := ca) (ad := ad) (vs := vs) (wo := wo) (un := un) (h := h) (bo := bo) (ta := ta) (tr := tr) (ro := ro) (ot := ot) hn hb hk h1
  obtain ⟨d1, ed1⟩ : ∃ z, z = dtM (TnM n Bm 2 2) := ⟨_, rfl⟩
  rw [← ed1] at hk1 h1
  refine ⟨d1, un1, bo1, ta1, tr1, ro1, ?_⟩
  refine PX3_blame (Nat.le_of_ble_eq_true rfl) ?_
  intro G hT hC hR
  refine mB hT 6 rfl ?_
  refine hC.1 _ [_, _, _] _ _ _ _ (m_in_t (by decide) ((le_pred (by omega)).mpr (ofNat_lt (i := 2) hv (by omega)))) rfl (Nat.le_of_ble_eq_true rfl) rfl ?_
  refine mB hT 2 rfl ?_
  refine hC.2.1 _ [_] _ _ _ _ (m_isBasket_t hb) rfl (Nat.le_of_ble_eq_true rfl) rfl ?_
  refine mB hT 2 rfl ?_
  refine hC.2.2.1 _ [_] _ _ _ _ (m_isStuff_t hk) rfl (Nat.le_of_ble_eq_true rfl) rfl ?_
  refine mB hT 3 rfl ?_
  refine hC.2.2.2.1 _ 0 [_] _ _ _ _ _ (m_isMaking_t (i := 1) hi hn) rfl rfl (Nat.le_of_ble_eq_true rfl) rfl ?_
  refine mB hT 8 rfl ?_
  refine hC.2.2.2.2.1 _ 0 [_, _, _, _] _ _ _ _ _ (hk1) rfl rfl (Nat.le_of_ble_eq_true rfl) rfl ?_
  refine mB hT 6 rfl ?_
  refine mIf (fun _ => ?_) (fun hn => absurd (lc_eq.mpr h1) hn)
  refine mB hT 1 rfl ?_
  exact hR _ (by decide) _ _ _ rfl rfl
set_option maxRecDepth 20000 in
theorem m_blame_B_2_1 {n vs : Nat} {wo un h : Int64} {bo : Nat → Int32} {ta tr ro ot : Nat → Int64} {Bm : Nat → Nat → Nat → Int32} {bk : Nat → Nat → Int32} (hv : 2 < vs) (hvs : vs ≤ 6) (hi : 1 < n) (hn : n ≤ 4) {b : Nat} (hb : b < 4) {k : Nat} (hk : k < 3) (h1 : ¬ dtM (TnM n Bm 2 2) = 0) (h2 : dtM (TnM n Bm 1 2) = 0) : ∃ (wo4 un4 : Int64) (bo4 : Nat → Int32) (ta4 tr4 ro4 : Nat → Int64), KX3_blame l D ca ad [.ref 0, .int 2, .int (Int32.ofNat b), .int (Int32.ofNat k), .int 1] (MW (Int32.ofNat n) (Int32.ofNat vs) wo un h bo ta tr ro ot Bm bk) (some (.long (-9000000000000000004))) (MW (Int32.ofNat n) (Int32.ofNat vs) wo4 un4 h bo4 ta4 tr4 ro4 ot Bm bk) := by
  obtain ⟨un1, bo1, ta1, tr1, ro1, hk1⟩ := m_mixed1_2_2 (l := l) (D := D) (ca := ca) (ad := ad) (vs := vs) (wo := wo) (un := un) (h := h) (bo := bo) (ta := ta) (tr := tr) (ro := ro) (ot := ot) hn hb hk h1
  obtain ⟨d1, ed1⟩ : ∃ z, z = dtM (TnM n Bm 2 2) := ⟨_, rfl⟩
  rw [← ed1] at hk1 h1
  generalize thM _ _ = a1 at hk1
  obtain ⟨un3, bo3, ta3, tr3, ro3, hk3⟩ := m_mixed0_2_1 (l := l) (D := D) (ca := ca) (ad := ad) (vs := vs) (wo := d1) (un := un1) (h := h) (bo := bo1) (ta := ta1) (tr := tr1) (ro := ro1) (ot := ot) hn hb hk h2
  obtain ⟨d2, ed2⟩ : ∃ z, z = dtM (TnM n Bm 1 2) := ⟨_, rfl⟩
  rw [← ed2] at hk3 h2
  refine ⟨d2, un3, bo3, ta3, tr3, ro3, ?_⟩
  refine PX3_blame (Nat.le_of_ble_eq_true rfl) ?_
  intro G hT hC hR
  refine mB hT 6 rfl ?_
  refine hC.1 _ [_, _, _] _ _ _ _ (m_in_t (by decide) ((le_pred (by omega)).mpr (ofNat_lt (i := 2) hv (by omega)))) rfl (Nat.le_of_ble_eq_true rfl) rfl ?_
  refine mB hT 2 rfl ?_
  refine hC.2.1 _ [_] _ _ _ _ (m_isBasket_t hb) rfl (Nat.le_of_ble_eq_true rfl) rfl ?_
  refine mB hT 2 rfl ?_
  refine hC.2.2.1 _ [_] _ _ _ _ (m_isStuff_t hk) rfl (Nat.le_of_ble_eq_true rfl) rfl ?_
  refine mB hT 3 rfl ?_
  refine hC.2.2.2.1 _ 0 [_] _ _ _ _ _ (m_isMaking_t (i := 1) hi hn) rfl rfl (Nat.le_of_ble_eq_true rfl) rfl ?_
  refine mB hT 8 rfl ?_
  refine hC.2.2.2.2.1 _ 0 [_, _, _, _] _ _ _ _ _ (hk1) rfl rfl (Nat.le_of_ble_eq_true rfl) rfl ?_
  refine mB hT 6 rfl ?_
  refine mIf (fun hp => absurd hp (fun q => h1 (lc_eq.mp q))) (fun _ => ?_)
  refine mB hT 5 rfl ?_
  refine hC.2.2.2.2.2 _ 0 [_, _, _, _] _ _ _ _ _ (hk3) rfl rfl (Nat.le_of_ble_eq_true rfl) rfl ?_
  refine mB hT 6 rfl ?_
  refine mIf (fun _ => ?_) (fun hn => absurd (lc_eq.mpr h2) hn)
  refine mNf (lv2 := [(7, .long 0), (5, .long a1), (0, .ref 0), (1, .int 2), (2, .int (Int32.ofNat b)), (3, .int (Int32.ofNat k)), (4, .int 1)]) (st2 := []) rfl rfl ?_
  refine mB hT 2 rfl ?_
  exact hR _ (by decide) _ _ _ rfl rfl
set_option maxRecDepth 20000 in
theorem m_blame_C_2_1 {n vs : Nat} {wo un h : Int64} {bo : Nat → Int32} {ta tr ro ot : Nat → Int64} {Bm : Nat → Nat → Nat → Int32} {bk : Nat → Nat → Int32} (hv : 2 < vs) (hvs : vs ≤ 6) (hi : 1 < n) (hn : n ≤ 4) {b : Nat} (hb : b < 4) {k : Nat} (hk : k < 3) (h1 : ¬ dtM (TnM n Bm 2 2) = 0) (h2 : ¬ dtM (TnM n Bm 1 2) = 0) : ∃ (wo4 un4 : Int64) (bo4 : Nat → Int32) (ta4 tr4 ro4 : Nat → Int64), KX3_blame l D ca ad [.ref 0, .int 2, .int (Int32.ofNat b), .int (Int32.ofNat k), .int 1] (MW (Int32.ofNat n) (Int32.ofNat vs) wo un h bo ta tr ro ot Bm bk) (some (.long ((thM (smG n (fun i s => emM (Bm (bkM 2 2 i) i) k s) (rdM n (TnM n Bm 2 2) (dtM (TnM n Bm 2 2)) (fun j => (bk b j).toInt64)) 1) (absX (dtM (TnM n Bm 2 2)))) - (thM (smG n (fun i s => emM (Bm (bkM 1 2 i) i) k s) (rdM n (TnM n Bm 1 2) (dtM (TnM n Bm 1 2)) (fun j => (bk b j).toInt64)) 1) (absX (dtM (TnM n Bm 1 2))))))) (MW (Int32.ofNat n) (Int32.ofNat vs) wo4 un4 h bo4 ta4 tr4 ro4 ot Bm bk) := by
  obtain ⟨a1, ea1⟩ : ∃ z, z = (thM (smG n (fun i s => emM (Bm (bkM 2 2 i) i) k s) (rdM n (TnM n Bm 2 2) (dtM (TnM n Bm 2 2)) (fun j => (bk b j).toInt64)) 1) (absX (dtM (TnM n Bm 2 2)))) := ⟨_, rfl⟩
  obtain ⟨a2, ea2⟩ : ∃ z, z = (thM (smG n (fun i s => emM (Bm (bkM 1 2 i) i) k s) (rdM n (TnM n Bm 1 2) (dtM (TnM n Bm 1 2)) (fun j => (bk b j).toInt64)) 1) (absX (dtM (TnM n Bm 1 2)))) := ⟨_, rfl⟩
  obtain ⟨un1, bo1, ta1, tr1, ro1, hk1⟩ := m_mixed1_2_2 (l := l) (D := D) (ca := ca) (ad := ad) (vs := vs) (wo := wo) (un := un) (h := h) (bo := bo) (ta := ta) (tr := tr) (ro := ro) (ot := ot) hn hb hk h1
  rw [← ea1] at hk1
  obtain ⟨d1, ed1⟩ : ∃ z, z = dtM (TnM n Bm 2 2) := ⟨_, rfl⟩
  rw [← ed1] at hk1 h1
  obtain ⟨un3, bo3, ta3, tr3, ro3, hk3⟩ := m_mixed1_2_1 (l := l) (D := D) (ca := ca) (ad := ad) (vs := vs) (wo := d1) (un := un1) (h := h) (bo := bo1) (ta := ta1) (tr := tr1) (ro := ro1) (ot := ot) hn hb hk h2
  rw [← ea2] at hk3
  obtain ⟨d2, ed2⟩ : ∃ z, z = dtM (TnM n Bm 1 2) := ⟨_, rfl⟩
  rw [← ed2] at hk3 h2
  rw [← ea1, ← ea2]
  refine ⟨d2, un3, bo3, ta3, tr3, ro3, ?_⟩
  refine PX3_blame (Nat.le_of_ble_eq_true rfl) ?_
  intro G hT hC hR
  refine mB hT 6 rfl ?_
  refine hC.1 _ [_, _, _] _ _ _ _ (m_in_t (by decide) ((le_pred (by omega)).mpr (ofNat_lt (i := 2) hv (by omega)))) rfl (Nat.le_of_ble_eq_true rfl) rfl ?_
  refine mB hT 2 rfl ?_
  refine hC.2.1 _ [_] _ _ _ _ (m_isBasket_t hb) rfl (Nat.le_of_ble_eq_true rfl) rfl ?_
  refine mB hT 2 rfl ?_
  refine hC.2.2.1 _ [_] _ _ _ _ (m_isStuff_t hk) rfl (Nat.le_of_ble_eq_true rfl) rfl ?_
  refine mB hT 3 rfl ?_
  refine hC.2.2.2.1 _ 0 [_] _ _ _ _ _ (m_isMaking_t (i := 1) hi hn) rfl rfl (Nat.le_of_ble_eq_true rfl) rfl ?_
  refine mB hT 8 rfl ?_
  refine hC.2.2.2.2.1 _ 0 [_, _, _, _] _ _ _ _ _ (hk1) rfl rfl (Nat.le_of_ble_eq_true rfl) rfl ?_
  refine mB hT 6 rfl ?_
  refine mIf (fun hp => absurd hp (fun q => h1 (lc_eq.mp q))) (fun _ => ?_)
  refine mB hT 5 rfl ?_
  refine hC.2.2.2.2.2 _ 0 [_, _, _, _] _ _ _ _ _ (hk3) rfl rfl (Nat.le_of_ble_eq_true rfl) rfl ?_
  refine mB hT 6 rfl ?_
  refine mIf (fun hp => absurd hp (fun q => h2 (lc_eq.mp q))) (fun _ => ?_)
  refine mNf (lv2 := [(7, .long a2), (5, .long a1), (0, .ref 0), (1, .int 2), (2, .int (Int32.ofNat b)), (3, .int (Int32.ofNat k)), (4, .int 1)]) (st2 := []) rfl rfl ?_
  refine mB hT 3 rfl ?_
  exact hR _ (by decide) _ _ _ rfl rfl
set_option maxRecDepth 20000 in
theorem m_blame_A_2_2 {n vs : Nat} {wo un h : Int64} {bo : Nat → Int32} {ta tr ro ot : Nat → Int64} {Bm : Nat → Nat → Nat → Int32} {bk : Nat → Nat → Int32} (hv : 2 < vs) (hvs : vs ≤ 6) (hi : 2 < n) (hn : n ≤ 4) {b : Nat} (hb : b < 4) {k : Nat} (hk : k < 3) (h1 : dtM (TnM n Bm 3 2) = 0) : ∃ (wo4 un4 : Int64) (bo4 : Nat → Int32) (ta4 tr4 ro4 : Nat → Int64), KX3_blame l D ca ad [.ref 0, .int 2, .int (Int32.ofNat b), .int (Int32.ofNat k), .int 2] (MW (Int32.ofNat n) (Int32.ofNat vs) wo un h bo ta tr ro ot Bm bk) (some (.long (-9000000000000000004))) (MW (Int32.ofNat n) (Int32.ofNat vs) wo4 un4 h bo4 ta4 tr4 ro4 ot Bm bk) := by
  obtain ⟨un1, bo1, ta1, tr1, ro1, hk1⟩ := m_mixed0_2_3 (l := l) (D := D) (ca := ca) (ad := ad) (vs := vs) (wo := wo) (un := un) (h := h) (bo := bo) (ta := ta) (tr := tr) (ro := ro) (ot := ot) hn hb hk h1
  obtain ⟨d1, ed1⟩ : ∃ z, z = dtM (TnM n Bm 3 2) := ⟨_, rfl⟩
  rw [← ed1] at hk1 h1
  refine ⟨d1, un1, bo1, ta1, tr1, ro1, ?_⟩
  refine PX3_blame (Nat.le_of_ble_eq_true rfl) ?_
  intro G hT hC hR
  refine mB hT 6 rfl ?_
  refine hC.1 _ [_, _, _] _ _ _ _ (m_in_t (by decide) ((le_pred (by omega)).mpr (ofNat_lt (i := 2) hv (by omega)))) rfl (Nat.le_of_ble_eq_true rfl) rfl ?_
  refine mB hT 2 rfl ?_
  refine hC.2.1 _ [_] _ _ _ _ (m_isBasket_t hb) rfl (Nat.le_of_ble_eq_true rfl) rfl ?_
  refine mB hT 2 rfl ?_
  refine hC.2.2.1 _ [_] _ _ _ _ (m_isStuff_t hk) rfl (Nat.le_of_ble_eq_true rfl) rfl ?_
  refine mB hT 3 rfl ?_
  refine hC.2.2.2.1 _ 0 [_] _ _ _ _ _ (m_isMaking_t (i := 2) hi hn) rfl rfl (Nat.le_of_ble_eq_true rfl) rfl ?_
  refine mB hT 8 rfl ?_
  refine hC.2.2.2.2.1 _ 0 [_, _, _, _] _ _ _ _ _ (hk1) rfl rfl (Nat.le_of_ble_eq_true rfl) rfl ?_
  refine mB hT 6 rfl ?_
  refine mIf (fun _ => ?_) (fun hn => absurd (lc_eq.mpr h1) hn)
  refine mB hT 1 rfl ?_
  exact hR _ (by decide) _ _ _ rfl rfl
set_option maxRecDepth 20000 in
theorem m_blame_B_2_2 {n vs : Nat} {wo un h : Int64} {bo : Nat → Int32} {ta tr ro ot : Nat → Int64} {Bm : Nat → Nat → Nat → Int32} {bk : Nat → Nat → Int32} (hv : 2 < vs) (hvs : vs ≤ 6) (hi : 2 < n) (hn : n ≤ 4) {b : Nat} (hb : b < 4) {k : Nat} (hk : k < 3) (h1 : ¬ dtM (TnM n Bm 3 2) = 0) (h2 : dtM (TnM n Bm 2 2) = 0) : ∃ (wo4 un4 : Int64) (bo4 : Nat → Int32) (ta4 tr4 ro4 : Nat → Int64), KX3_blame l D ca ad [.ref 0, .int 2, .int (Int32.ofNat b), .int (Int32.ofNat k), .int 2] (MW (Int32.ofNat n) (Int32.ofNat vs) wo un h bo ta tr ro ot Bm bk) (some (.long (-9000000000000000004))) (MW (Int32.ofNat n) (Int32.ofNat vs) wo4 un4 h bo4 ta4 tr4 ro4 ot Bm bk) := by
  obtain ⟨un1, bo1, ta1, tr1, ro1, hk1⟩ := m_mixed1_2_3 (l := l) (D := D) (ca := ca) (ad := ad) (vs := vs) (wo := wo) (un := un) (h := h) (bo := bo) (ta := ta) (tr := tr) (ro := ro) (ot := ot) hn hb hk h1
  obtain ⟨d1, ed1⟩ : ∃ z, z = dtM (TnM n Bm 3 2) := ⟨_, rfl⟩
  rw [← ed1] at hk1 h1
  generalize thM _ _ = a1 at hk1
  obtain ⟨un3, bo3, ta3, tr3, ro3, hk3⟩ := m_mixed0_2_2 (l := l) (D := D) (ca := ca) (ad := ad) (vs := vs) (wo := d1) (un := un1) (h := h) (bo := bo1) (ta := ta1) (tr := tr1) (ro := ro1) (ot := ot) hn hb hk h2
  obtain ⟨d2, ed2⟩ : ∃ z, z = dtM (TnM n Bm 2 2) := ⟨_, rfl⟩
  rw [← ed2] at hk3 h2
  refine ⟨d2, un3, bo3, ta3, tr3, ro3, ?_⟩
  refine PX3_blame (Nat.le_of_ble_eq_true rfl) ?_
  intro G hT hC hR
  refine mB hT 6 rfl ?_
  refine hC.1 _ [_, _, _] _ _ _ _ (m_in_t (by decide) ((le_pred (by omega)).mpr (ofNat_lt (i := 2) hv (by omega)))) rfl (Nat.le_of_ble_eq_true rfl) rfl ?_
  refine mB hT 2 rfl ?_
  refine hC.2.1 _ [_] _ _ _ _ (m_isBasket_t hb) rfl (Nat.le_of_ble_eq_true rfl) rfl ?_
  refine mB hT 2 rfl ?_
  refine hC.2.2.1 _ [_] _ _ _ _ (m_isStuff_t hk) rfl (Nat.le_of_ble_eq_true rfl) rfl ?_
  refine mB hT 3 rfl ?_
  refine hC.2.2.2.1 _ 0 [_] _ _ _ _ _ (m_isMaking_t (i := 2) hi hn) rfl rfl (Nat.le_of_ble_eq_true rfl) rfl ?_
  refine mB hT 8 rfl ?_
  refine hC.2.2.2.2.1 _ 0 [_, _, _, _] _ _ _ _ _ (hk1) rfl rfl (Nat.le_of_ble_eq_true rfl) rfl ?_
  refine mB hT 6 rfl ?_
  refine mIf (fun hp => absurd hp (fun q => h1 (lc_eq.mp q))) (fun _ => ?_)
  refine mB hT 5 rfl ?_
  refine hC.2.2.2.2.2 _ 0 [_, _, _, _] _ _ _ _ _ (hk3) rfl rfl (Nat.le_of_ble_eq_true rfl) rfl ?_
  refine mB hT 6 rfl ?_
  refine mIf (fun _ => ?_) (fun hn => absurd (lc_eq.mpr h2) hn)
  refine mNf (lv2 := [(7, .long 0), (5, .long a1), (0, .ref 0), (1, .int 2), (2, .int (Int32.ofNat b)), (3, .int (Int32.ofNat k)), (4, .int 2)]) (st2 := []) rfl rfl ?_
  refine mB hT 2 rfl ?_
  exact hR _ (by decide) _ _ _ rfl rfl
set_option maxRecDepth 20000 in
theorem m_blame_C_2_2 {n vs : Nat} {wo un h : Int64} {bo : Nat → Int32} {ta tr ro ot : Nat → Int64} {Bm : Nat → Nat → Nat → Int32} {bk : Nat → Nat → Int32} (hv : 2 < vs) (hvs : vs ≤ 6) (hi : 2 < n) (hn : n ≤ 4) {b : Nat} (hb : b < 4) {k : Nat} (hk : k < 3) (h1 : ¬ dtM (TnM n Bm 3 2) = 0) (h2 : ¬ dtM (TnM n Bm 2 2) = 0) : ∃ (wo4 un4 : Int64) (bo4 : Nat → Int32) (ta4 tr4 ro4 : Nat → Int64), KX3_blame l D ca ad [.ref 0, .int 2, .int (Int32.ofNat b), .int (Int32.ofNat k), .int 2] (MW (Int32.ofNat n) (Int32.ofNat vs) wo un h bo ta tr ro ot Bm bk) (some (.long ((thM (smG n (fun i s => emM (Bm (bkM 3 2 i) i) k s) (rdM n (TnM n Bm 3 2) (dtM (TnM n Bm 3 2)) (fun j => (bk b j).toInt64)) 1) (absX (dtM (TnM n Bm 3 2)))) - (thM (smG n (fun i s => emM (Bm (bkM 2 2 i) i) k s) (rdM n (TnM n Bm 2 2) (dtM (TnM n Bm 2 2)) (fun j => (bk b j).toInt64)) 1) (absX (dtM (TnM n Bm 2 2))))))) (MW (Int32.ofNat n) (Int32.ofNat vs) wo4 un4 h bo4 ta4 tr4 ro4 ot Bm bk) := by
  obtain ⟨a1, ea1⟩ : ∃ z, z = (thM (smG n (fun i s => emM (Bm (bkM 3 2 i) i) k s) (rdM n (TnM n Bm 3 2) (dtM (TnM n Bm 3 2)) (fun j => (bk b j).toInt64)) 1) (absX (dtM (TnM n Bm 3 2)))) := ⟨_, rfl⟩
  obtain ⟨a2, ea2⟩ : ∃ z, z = (thM (smG n (fun i s => emM (Bm (bkM 2 2 i) i) k s) (rdM n (TnM n Bm 2 2) (dtM (TnM n Bm 2 2)) (fun j => (bk b j).toInt64)) 1) (absX (dtM (TnM n Bm 2 2)))) := ⟨_, rfl⟩
  obtain ⟨un1, bo1, ta1, tr1, ro1, hk1⟩ := m_mixed1_2_3 (l := l) (D := D) (ca := ca) (ad := ad) (vs := vs) (wo := wo) (un := un) (h := h) (bo := bo) (ta := ta) (tr := tr) (ro := ro) (ot := ot) hn hb hk h1
  rw [← ea1] at hk1
  obtain ⟨d1, ed1⟩ : ∃ z, z = dtM (TnM n Bm 3 2) := ⟨_, rfl⟩
  rw [← ed1] at hk1 h1
  obtain ⟨un3, bo3, ta3, tr3, ro3, hk3⟩ := m_mixed1_2_2 (l := l) (D := D) (ca := ca) (ad := ad) (vs := vs) (wo := d1) (un := un1) (h := h) (bo := bo1) (ta := ta1) (tr := tr1) (ro := ro1) (ot := ot) hn hb hk h2
  rw [← ea2] at hk3
  obtain ⟨d2, ed2⟩ : ∃ z, z = dtM (TnM n Bm 2 2) := ⟨_, rfl⟩
  rw [← ed2] at hk3 h2
  rw [← ea1, ← ea2]
  refine ⟨d2, un3, bo3, ta3, tr3, ro3, ?_⟩
  refine PX3_blame (Nat.le_of_ble_eq_true rfl) ?_
  intro G hT hC hR
  refine mB hT 6 rfl ?_
  refine hC.1 _ [_, _, _] _ _ _ _ (m_in_t (by decide) ((le_pred (by omega)).mpr (ofNat_lt (i := 2) hv (by omega)))) rfl (Nat.le_of_ble_eq_true rfl) rfl ?_
  refine mB hT 2 rfl ?_
  refine hC.2.1 _ [_] _ _ _ _ (m_isBasket_t hb) rfl (Nat.le_of_ble_eq_true rfl) rfl ?_
  refine mB hT 2 rfl ?_
  refine hC.2.2.1 _ [_] _ _ _ _ (m_isStuff_t hk) rfl (Nat.le_of_ble_eq_true rfl) rfl ?_
  refine mB hT 3 rfl ?_
  refine hC.2.2.2.1 _ 0 [_] _ _ _ _ _ (m_isMaking_t (i := 2) hi hn) rfl rfl (Nat.le_of_ble_eq_true rfl) rfl ?_
  refine mB hT 8 rfl ?_
  refine hC.2.2.2.2.1 _ 0 [_, _, _, _] _ _ _ _ _ (hk1) rfl rfl (Nat.le_of_ble_eq_true rfl) rfl ?_
  refine mB hT 6 rfl ?_
  refine mIf (fun hp => absurd hp (fun q => h1 (lc_eq.mp q))) (fun _ => ?_)
  refine mB hT 5 rfl ?_
  refine hC.2.2.2.2.2 _ 0 [_, _, _, _] _ _ _ _ _ (hk3) rfl rfl (Nat.le_of_ble_eq_true rfl) rfl ?_
  refine mB hT 6 rfl ?_
  refine mIf (fun hp => absurd hp (fun q => h2 (lc_eq.mp q))) (fun _ => ?_)
  refine mNf (lv2 := [(7, .long a2), (5, .long a1), (0, .ref 0), (1, .int 2), (2, .int (Int32.ofNat b)), (3, .int (Int32.ofNat k)), (4, .int 2)]) (st2 := []) rfl rfl ?_
  refine mB hT 3 rfl ?_
  exact hR _ (by decide) _ _ _ rfl rfl
set_option maxRecDepth 20000 in
theorem m_blame_A_2_3 {n vs : Nat} {wo un h : Int64} {bo : Nat → Int32} {ta tr ro ot : Nat → Int64} {Bm : Nat → Nat → Nat → Int32} {bk : Nat → Nat → Int32} (hv : 2 < vs) (hvs : vs ≤ 6) (hi : 3 < n) (hn : n ≤ 4) {b : Nat} (hb : b < 4) {k : Nat} (hk : k < 3) (h1 : dtM (TnM n Bm 4 0) = 0) : ∃ (wo4 un4 : Int64) (bo4 : Nat → Int32) (ta4 tr4 ro4 : Nat → Int64), KX3_blame l D ca ad [.ref 0, .int 2, .int (Int32.ofNat b), .int (Int32.ofNat k), .int 3] (MW (Int32.ofNat n) (Int32.ofNat vs) wo un h bo ta tr ro ot Bm bk) (some (.long (-9000000000000000004))) (MW (Int32.ofNat n) (Int32.ofNat vs) wo4 un4 h bo4 ta4 tr4 ro4 ot Bm bk) := by
  obtain ⟨un1, bo1, ta1, tr1, ro1, hk1⟩ := m_mixed0_2_4 (l := l) (D := D) (ca := ca) (ad := ad) (vs := vs) (wo := wo) (un := un) (h := h) (bo := bo) (ta := ta) (tr := tr) (ro := ro) (ot := ot) hn hb hk h1
  obtain ⟨d1, ed1⟩ : ∃ z, z = dtM (TnM n Bm 4 0) := ⟨_, rfl⟩
  rw [← ed1] at hk1 h1
  refine ⟨d1, un1, bo1, ta1, tr1, ro1, ?_⟩
  refine PX3_blame (Nat.le_of_ble_eq_true rfl) ?_
  intro G hT hC hR
  refine mB hT 6 rfl ?_
  refine hC.1 _ [_, _, _] _ _ _ _ (m_in_t (by decide) ((le_pred (by omega)).mpr (ofNat_lt (i := 2) hv (by omega)))) rfl (Nat.le_of_ble_eq_true rfl) rfl ?_
  refine mB hT 2 rfl ?_
  refine hC.2.1 _ [_] _ _ _ _ (m_isBasket_t hb) rfl (Nat.le_of_ble_eq_true rfl) rfl ?_
  refine mB hT 2 rfl ?_
  refine hC.2.2.1 _ [_] _ _ _ _ (m_isStuff_t hk) rfl (Nat.le_of_ble_eq_true rfl) rfl ?_
  refine mB hT 3 rfl ?_
  refine hC.2.2.2.1 _ 0 [_] _ _ _ _ _ (m_isMaking_t (i := 3) hi hn) rfl rfl (Nat.le_of_ble_eq_true rfl) rfl ?_
  refine mB hT 8 rfl ?_
  refine hC.2.2.2.2.1 _ 0 [_, _, _, _] _ _ _ _ _ (hk1) rfl rfl (Nat.le_of_ble_eq_true rfl) rfl ?_
  refine mB hT 6 rfl ?_
  refine mIf (fun _ => ?_) (fun hn => absurd (lc_eq.mpr h1) hn)
  refine mB hT 1 rfl ?_
  exact hR _ (by decide) _ _ _ rfl rfl
set_option maxRecDepth 20000 in
theorem m_blame_B_2_3 {n vs : Nat} {wo un h : Int64} {bo : Nat → Int32} {ta tr ro ot : Nat → Int64} {Bm : Nat → Nat → Nat → Int32} {bk : Nat → Nat → Int32} (hv : 2 < vs) (hvs : vs ≤ 6) (hi : 3 < n) (hn : n ≤ 4) {b : Nat} (hb : b < 4) {k : Nat} (hk : k < 3) (h1 : ¬ dtM (TnM n Bm 4 0) = 0) (h2 : dtM (TnM n Bm 3 2) = 0) : ∃ (wo4 un4 : Int64) (bo4 : Nat → Int32) (ta4 tr4 ro4 : Nat → Int64), KX3_blame l D ca ad [.ref 0, .int 2, .int (Int32.ofNat b), .int (Int32.ofNat k), .int 3] (MW (Int32.ofNat n) (Int32.ofNat vs) wo un h bo ta tr ro ot Bm bk) (some (.long (-9000000000000000004))) (MW (Int32.ofNat n) (Int32.ofNat vs) wo4 un4 h bo4 ta4 tr4 ro4 ot Bm bk) := by
  obtain ⟨un1, bo1, ta1, tr1, ro1, hk1⟩ := m_mixed1_2_4 (l := l) (D := D) (ca := ca) (ad := ad) (vs := vs) (wo := wo) (un := un) (h := h) (bo := bo) (ta := ta) (tr := tr) (ro := ro) (ot := ot) hn hb hk h1
  obtain ⟨d1, ed1⟩ : ∃ z, z = dtM (TnM n Bm 4 0) := ⟨_, rfl⟩
  rw [← ed1] at hk1 h1
  generalize thM _ _ = a1 at hk1
  obtain ⟨un3, bo3, ta3, tr3, ro3, hk3⟩ := m_mixed0_2_3 (l := l) (D := D) (ca := ca) (ad := ad) (vs := vs) (wo := d1) (un := un1) (h := h) (bo := bo1) (ta := ta1) (tr := tr1) (ro := ro1) (ot := ot) hn hb hk h2
  obtain ⟨d2, ed2⟩ : ∃ z, z = dtM (TnM n Bm 3 2) := ⟨_, rfl⟩
  rw [← ed2] at hk3 h2
  refine ⟨d2, un3, bo3, ta3, tr3, ro3, ?_⟩
  refine PX3_blame (Nat.le_of_ble_eq_true rfl) ?_
  intro G hT hC hR
  refine mB hT 6 rfl ?_
  refine hC.1 _ [_, _, _] _ _ _ _ (m_in_t (by decide) ((le_pred (by omega)).mpr (ofNat_lt (i := 2) hv (by omega)))) rfl (Nat.le_of_ble_eq_true rfl) rfl ?_
  refine mB hT 2 rfl ?_
  refine hC.2.1 _ [_] _ _ _ _ (m_isBasket_t hb) rfl (Nat.le_of_ble_eq_true rfl) rfl ?_
  refine mB hT 2 rfl ?_
  refine hC.2.2.1 _ [_] _ _ _ _ (m_isStuff_t hk) rfl (Nat.le_of_ble_eq_true rfl) rfl ?_
  refine mB hT 3 rfl ?_
  refine hC.2.2.2.1 _ 0 [_] _ _ _ _ _ (m_isMaking_t (i := 3) hi hn) rfl rfl (Nat.le_of_ble_eq_true rfl) rfl ?_
  refine mB hT 8 rfl ?_
  refine hC.2.2.2.2.1 _ 0 [_, _, _, _] _ _ _ _ _ (hk1) rfl rfl (Nat.le_of_ble_eq_true rfl) rfl ?_
  refine mB hT 6 rfl ?_
  refine mIf (fun hp => absurd hp (fun q => h1 (lc_eq.mp q))) (fun _ => ?_)
  refine mB hT 5 rfl ?_
  refine hC.2.2.2.2.2 _ 0 [_, _, _, _] _ _ _ _ _ (hk3) rfl rfl (Nat.le_of_ble_eq_true rfl) rfl ?_
  refine mB hT 6 rfl ?_
  refine mIf (fun _ => ?_) (fun hn => absurd (lc_eq.mpr h2) hn)
  refine mNf (lv2 := [(7, .long 0), (5, .long a1), (0, .ref 0), (1, .int 2), (2, .int (Int32.ofNat b)), (3, .int (Int32.ofNat k)), (4, .int 3)]) (st2 := []) rfl rfl ?_
  refine mB hT 2 rfl ?_
  exact hR _ (by decide) _ _ _ rfl rfl
set_option maxRecDepth 20000 in
theorem m_blame_C_2_3 {n vs : Nat} {wo un h : Int64} {bo : Nat → Int32} {ta tr ro ot : Nat → Int64} {Bm : Nat → Nat → Nat → Int32} {bk : Nat → Nat → Int32} (hv : 2 < vs) (hvs : vs ≤ 6) (hi : 3 < n) (hn : n ≤ 4) {b : Nat} (hb : b < 4) {k : Nat} (hk : k < 3) (h1 : ¬ dtM (TnM n Bm 4 0) = 0) (h2 : ¬ dtM (TnM n Bm 3 2) = 0) : ∃ (wo4 un4 : Int64) (bo4 : Nat → Int32) (ta4 tr4 ro4 : Nat → Int64), KX3_blame l D ca ad [.ref 0, .int 2, .int (Int32.ofNat b), .int (Int32.ofNat k), .int 3] (MW (Int32.ofNat n) (Int32.ofNat vs) wo un h bo ta tr ro ot Bm bk) (some (.long ((thM (smG n (fun i s => emM (Bm (bkM 4 0 i) i) k s) (rdM n (TnM n Bm 4 0) (dtM (TnM n Bm 4 0)) (fun j => (bk b j).toInt64)) 1) (absX (dtM (TnM n Bm 4 0)))) - (thM (smG n (fun i s => emM (Bm (bkM 3 2 i) i) k s) (rdM n (TnM n Bm 3 2) (dtM (TnM n Bm 3 2)) (fun j => (bk b j).toInt64)) 1) (absX (dtM (TnM n Bm 3 2))))))) (MW (Int32.ofNat n) (Int32.ofNat vs) wo4 un4 h bo4 ta4 tr4 ro4 ot Bm bk) := by
  obtain ⟨a1, ea1⟩ : ∃ z, z = (thM (smG n (fun i s => emM (Bm (bkM 4 0 i) i) k s) (rdM n (TnM n Bm 4 0) (dtM (TnM n Bm 4 0)) (fun j => (bk b j).toInt64)) 1) (absX (dtM (TnM n Bm 4 0)))) := ⟨_, rfl⟩
  obtain ⟨a2, ea2⟩ : ∃ z, z = (thM (smG n (fun i s => emM (Bm (bkM 3 2 i) i) k s) (rdM n (TnM n Bm 3 2) (dtM (TnM n Bm 3 2)) (fun j => (bk b j).toInt64)) 1) (absX (dtM (TnM n Bm 3 2)))) := ⟨_, rfl⟩
  obtain ⟨un1, bo1, ta1, tr1, ro1, hk1⟩ := m_mixed1_2_4 (l := l) (D := D) (ca := ca) (ad := ad) (vs := vs) (wo := wo) (un := un) (h := h) (bo := bo) (ta := ta) (tr := tr) (ro := ro) (ot := ot) hn hb hk h1
  rw [← ea1] at hk1
  obtain ⟨d1, ed1⟩ : ∃ z, z = dtM (TnM n Bm 4 0) := ⟨_, rfl⟩
  rw [← ed1] at hk1 h1
  obtain ⟨un3, bo3, ta3, tr3, ro3, hk3⟩ := m_mixed1_2_3 (l := l) (D := D) (ca := ca) (ad := ad) (vs := vs) (wo := d1) (un := un1) (h := h) (bo := bo1) (ta := ta1) (tr := tr1) (ro := ro1) (ot := ot) hn hb hk h2
  rw [← ea2] at hk3
  obtain ⟨d2, ed2⟩ : ∃ z, z = dtM (TnM n Bm 3 2) := ⟨_, rfl⟩
  rw [← ed2] at hk3 h2
  rw [← ea1, ← ea2]
  refine ⟨d2, un3, bo3, ta3, tr3, ro3, ?_⟩
  refine PX3_blame (Nat.le_of_ble_eq_true rfl) ?_
  intro G hT hC hR
  refine mB hT 6 rfl ?_
  refine hC.1 _ [_, _, _] _ _ _ _ (m_in_t (by decide) ((le_pred (by omega)).mpr (ofNat_lt (i := 2) hv (by omega)))) rfl (Nat.le_of_ble_eq_true rfl) rfl ?_
  refine mB hT 2 rfl ?_
  refine hC.2.1 _ [_] _ _ _ _ (m_isBasket_t hb) rfl (Nat.le_of_ble_eq_true rfl) rfl ?_
  refine mB hT 2 rfl ?_
  refine hC.2.2.1 _ [_] _ _ _ _ (m_isStuff_t hk) rfl (Nat.le_of_ble_eq_true rfl) rfl ?_
  refine mB hT 3 rfl ?_
  refine hC.2.2.2.1 _ 0 [_] _ _ _ _ _ (m_isMaking_t (i := 3) hi hn) rfl rfl (Nat.le_of_ble_eq_true rfl) rfl ?_
  refine mB hT 8 rfl ?_
  refine hC.2.2.2.2.1 _ 0 [_, _, _, _] _ _ _ _ _ (hk1) rfl rfl (Nat.le_of_ble_eq_true rfl) rfl ?_
  refine mB hT 6 rfl ?_
  refine mIf (fun hp => absurd hp (fun q => h1 (lc_eq.mp q))) (fun _ => ?_)
  refine mB hT 5 rfl ?_
  refine hC.2.2.2.2.2 _ 0 [_, _, _, _] _ _ _ _ _ (hk3) rfl rfl (Nat.le_of_ble_eq_true rfl) rfl ?_
  refine mB hT 6 rfl ?_
  refine mIf (fun hp => absurd hp (fun q => h2 (lc_eq.mp q))) (fun _ => ?_)
  refine mNf (lv2 := [(7, .long a2), (5, .long a1), (0, .ref 0), (1, .int 2), (2, .int (Int32.ofNat b)), (3, .int (Int32.ofNat k)), (4, .int 3)]) (st2 := []) rfl rfl ?_
  refine mB hT 3 rfl ?_
  exact hR _ (by decide) _ _ _ rfl rfl
set_option maxRecDepth 20000 in
theorem m_blame_A_3_0 {n vs : Nat} {wo un h : Int64} {bo : Nat → Int32} {ta tr ro ot : Nat → Int64} {Bm : Nat → Nat → Nat → Int32} {bk : Nat → Nat → Int32} (hv : 3 < vs) (hvs : vs ≤ 6) (hi : 0 < n) (hn : n ≤ 4) {b : Nat} (hb : b < 4) {k : Nat} (hk : k < 3) (h1 : dtM (TnM n Bm 1 3) = 0) : ∃ (wo4 un4 : Int64) (bo4 : Nat → Int32) (ta4 tr4 ro4 : Nat → Int64), KX3_blame l D ca ad [.ref 0, .int 3, .int (Int32.ofNat b), .int (Int32.ofNat k), .int 0] (MW (Int32.ofNat n) (Int32.ofNat vs) wo un h bo ta tr ro ot Bm bk) (some (.long (-9000000000000000004))) (MW (Int32.ofNat n) (Int32.ofNat vs) wo4 un4 h bo4 ta4 tr4 ro4 ot Bm bk) := by
  obtain ⟨un1, bo1, ta1, tr1, ro1, hk1⟩ := m_mixed0_3_1 (l := l) (D := D) (ca := ca) (ad := ad) (vs := vs) (wo := wo) (un := un) (h := h) (bo := bo) (ta := ta) (tr := tr) (ro := ro) (ot := ot) hn hb hk h1
  obtain ⟨d1, ed1⟩ : ∃ z, z = dtM (TnM n Bm 1 3) := ⟨_, rfl⟩
  rw [← ed1] at hk1 h1
  refine ⟨d1, un1, bo1, ta1, tr1, ro1, ?_⟩
  refine PX3_blame (Nat.le_of_ble_eq_true rfl) ?_
  intro G hT hC hR
  refine mB hT 6 rfl ?_
  refine hC.1 _ [_, _, _] _ _ _ _ (m_in_t (by decide) ((le_pred (by omega)).mpr (ofNat_lt (i := 3) hv (by omega)))) rfl (Nat.le_of_ble_eq_true rfl) rfl ?_
  refine mB hT 2 rfl ?_
  refine hC.2.1 _ [_] _ _ _ _ (m_isBasket_t hb) rfl (Nat.le_of_ble_eq_true rfl) rfl ?_
  refine mB hT 2 rfl ?_
  refine hC.2.2.1 _ [_] _ _ _ _ (m_isStuff_t hk) rfl (Nat.le_of_ble_eq_true rfl) rfl ?_
  refine mB hT 3 rfl ?_
  refine hC.2.2.2.1 _ 0 [_] _ _ _ _ _ (m_isMaking_t (i := 0) hi hn) rfl rfl (Nat.le_of_ble_eq_true rfl) rfl ?_
  refine mB hT 8 rfl ?_
  refine hC.2.2.2.2.1 _ 0 [_, _, _, _] _ _ _ _ _ (hk1) rfl rfl (Nat.le_of_ble_eq_true rfl) rfl ?_
  refine mB hT 6 rfl ?_
  refine mIf (fun _ => ?_) (fun hn => absurd (lc_eq.mpr h1) hn)
  refine mB hT 1 rfl ?_
  exact hR _ (by decide) _ _ _ rfl rfl
set_option maxRecDepth 20000 in
theorem m_blame_B_3_0 {n vs : Nat} {wo un h : Int64} {bo : Nat → Int32} {ta tr ro ot : Nat → Int64} {Bm : Nat → Nat → Nat → Int32} {bk : Nat → Nat → Int32} (hv : 3 < vs) (hvs : vs ≤ 6) (hi : 0 < n) (hn : n ≤ 4) {b : Nat} (hb : b < 4) {k : Nat} (hk : k < 3) (h1 : ¬ dtM (TnM n Bm 1 3) = 0) (h2 : dtM (TnM n Bm 0 3) = 0) : ∃ (wo4 un4 : Int64) (bo4 : Nat → Int32) (ta4 tr4 ro4 : Nat → Int64), KX3_blame l D ca ad [.ref 0, .int 3, .int (Int32.ofNat b), .int (Int32.ofNat k), .int 0] (MW (Int32.ofNat n) (Int32.ofNat vs) wo un h bo ta tr ro ot Bm bk) (some (.long (-9000000000000000004))) (MW (Int32.ofNat n) (Int32.ofNat vs) wo4 un4 h bo4 ta4 tr4 ro4 ot Bm bk) := by
  obtain ⟨un1, bo1, ta1, tr1, ro1, hk1⟩ := m_mixed1_3_1 (l := l) (D := D) (ca := ca) (ad := ad) (vs := vs) (wo := wo) (un := un) (h := h) (bo := bo) (ta := ta) (tr := tr) (ro := ro) (ot := ot) hn hb hk h1
  obtain ⟨d1, ed1⟩ : ∃ z, z = dtM (TnM n Bm 1 3) := ⟨_, rfl⟩
  rw [← ed1] at hk1 h1
  generalize thM _ _ = a1 at hk1
  obtain ⟨un3, bo3, ta3, tr3, ro3, hk3⟩ := m_mixed0_3_0 (l := l) (D := D) (ca := ca) (ad := ad) (vs := vs) (wo := d1) (un := un1) (h := h) (bo := bo1) (ta := ta1) (tr := tr1) (ro := ro1) (ot := ot) hn hb hk h2
  obtain ⟨d2, ed2⟩ : ∃ z, z = dtM (TnM n Bm 0 3) := ⟨_, rfl⟩
  rw [← ed2] at hk3 h2
  refine ⟨d2, un3, bo3, ta3, tr3, ro3, ?_⟩
  refine PX3_blame (Nat.le_of_ble_eq_true rfl) ?_
  intro G hT hC hR
  refine mB hT 6 rfl ?_
  refine hC.1 _ [_, _, _] _ _ _ _ (m_in_t (by decide) ((le_pred (by omega)).mpr (ofNat_lt (i := 3) hv (by omega)))) rfl (Nat.le_of_ble_eq_true rfl) rfl ?_
  refine mB hT 2 rfl ?_
  refine hC.2.1 _ [_] _ _ _ _ (m_isBasket_t hb) rfl (Nat.le_of_ble_eq_true rfl) rfl ?_
  refine mB hT 2 rfl ?_
  refine hC.2.2.1 _ [_] _ _ _ _ (m_isStuff_t hk) rfl (Nat.le_of_ble_eq_true rfl) rfl ?_
  refine mB hT 3 rfl ?_
  refine hC.2.2.2.1 _ 0 [_] _ _ _ _ _ (m_isMaking_t (i := 0) hi hn) rfl rfl (Nat.le_of_ble_eq_true rfl) rfl ?_
  refine mB hT 8 rfl ?_
  refine hC.2.2.2.2.1 _ 0 [_, _, _, _] _ _ _ _ _ (hk1) rfl rfl (Nat.le_of_ble_eq_true rfl) rfl ?_
  refine mB hT 6 rfl ?_
  refine mIf (fun hp => absurd hp (fun q => h1 (lc_eq.mp q))) (fun _ => ?_)
  refine mB hT 5 rfl ?_
  refine hC.2.2.2.2.2 _ 0 [_, _, _, _] _ _ _ _ _ (hk3) rfl rfl (Nat.le_of_ble_eq_true rfl) rfl ?_
  refine mB hT 6 rfl ?_
  refine mIf (fun _ => ?_) (fun hn => absurd (lc_eq.mpr h2) hn)
  refine mNf (lv2 := [(7, .long 0), (5, .long a1), (0, .ref 0), (1, .int 3), (2, .int (Int32.ofNat b)), (3, .int (Int32.ofNat k)), (4, .int 0)]) (st2 := []) rfl rfl ?_
  refine mB hT 2 rfl ?_
  exact hR _ (by decide) _ _ _ rfl rfl
set_option maxRecDepth 20000 in
theorem m_blame_C_3_0 {n vs : Nat} {wo un h : Int64} {bo : Nat → Int32} {ta tr ro ot : Nat → Int64} {Bm : Nat → Nat → Nat → Int32} {bk : Nat → Nat → Int32} (hv : 3 < vs) (hvs : vs ≤ 6) (hi : 0 < n) (hn : n ≤ 4) {b : Nat} (hb : b < 4) {k : Nat} (hk : k < 3) (h1 : ¬ dtM (TnM n Bm 1 3) = 0) (h2 : ¬ dtM (TnM n Bm 0 3) = 0) : ∃ (wo4 un4 : Int64) (bo4 : Nat → Int32) (ta4 tr4 ro4 : Nat → Int64), KX3_blame l D ca ad [.ref 0, .int 3, .int (Int32.ofNat b), .int (Int32.ofNat k), .int 0] (MW (Int32.ofNat n) (Int32.ofNat vs) wo un h bo ta tr ro ot Bm bk) (some (.long ((thM (smG n (fun i s => emM (Bm (bkM 1 3 i) i) k s) (rdM n (TnM n Bm 1 3) (dtM (TnM n Bm 1 3)) (fun j => (bk b j).toInt64)) 1) (absX (dtM (TnM n Bm 1 3)))) - (thM (smG n (fun i s => emM (Bm (bkM 0 3 i) i) k s) (rdM n (TnM n Bm 0 3) (dtM (TnM n Bm 0 3)) (fun j => (bk b j).toInt64)) 1) (absX (dtM (TnM n Bm 0 3))))))) (MW (Int32.ofNat n) (Int32.ofNat vs) wo4 un4 h bo4 ta4 tr4 ro4 ot Bm bk) := by
  obtain ⟨a1, ea1⟩ : ∃ z, z = (thM (smG n (fun i s => emM (Bm (bkM 1 3 i) i) k s) (rdM n (TnM n Bm 1 3) (dtM (TnM n Bm 1 3)) (fun j => (bk b j).toInt64)) 1) (absX (dtM (TnM n Bm 1 3)))) := ⟨_, rfl⟩
  obtain ⟨a2, ea2⟩ : ∃ z, z = (thM (smG n (fun i s => emM (Bm (bkM 0 3 i) i) k s) (rdM n (TnM n Bm 0 3) (dtM (TnM n Bm 0 3)) (fun j => (bk b j).toInt64)) 1) (absX (dtM (TnM n Bm 0 3)))) := ⟨_, rfl⟩
  obtain ⟨un1, bo1, ta1, tr1, ro1, hk1⟩ := m_mixed1_3_1 (l := l) (D := D) (ca := ca) (ad := ad) (vs := vs) (wo := wo) (un := un) (h := h) (bo := bo) (ta := ta) (tr := tr) (ro := ro) (ot := ot) hn hb hk h1
  rw [← ea1] at hk1
  obtain ⟨d1, ed1⟩ : ∃ z, z = dtM (TnM n Bm 1 3) := ⟨_, rfl⟩
  rw [← ed1] at hk1 h1
  obtain ⟨un3, bo3, ta3, tr3, ro3, hk3⟩ := m_mixed1_3_0 (l := l) (D := D) (ca := ca) (ad := ad) (vs := vs) (wo := d1) (un := un1) (h := h) (bo := bo1) (ta := ta1) (tr := tr1) (ro := ro1) (ot := ot) hn hb hk h2
  rw [← ea2] at hk3
  obtain ⟨d2, ed2⟩ : ∃ z, z = dtM (TnM n Bm 0 3) := ⟨_, rfl⟩
  rw [← ed2] at hk3 h2
  rw [← ea1, ← ea2]
  refine ⟨d2, un3, bo3, ta3, tr3, ro3, ?_⟩
  refine PX3_blame (Nat.le_of_ble_eq_true rfl) ?_
  intro G hT hC hR
  refine mB hT 6 rfl ?_
  refine hC.1 _ [_, _, _] _ _ _ _ (m_in_t (by decide) ((le_pred (by omega)).mpr (ofNat_lt (i := 3) hv (by omega)))) rfl (Nat.le_of_ble_eq_true rfl) rfl ?_
  refine mB hT 2 rfl ?_
  refine hC.2.1 _ [_] _ _ _ _ (m_isBasket_t hb) rfl (Nat.le_of_ble_eq_true rfl) rfl ?_
  refine mB hT 2 rfl ?_
  refine hC.2.2.1 _ [_] _ _ _ _ (m_isStuff_t hk) rfl (Nat.le_of_ble_eq_true rfl) rfl ?_
  refine mB hT 3 rfl ?_
  refine hC.2.2.2.1 _ 0 [_] _ _ _ _ _ (m_isMaking_t (i := 0) hi hn) rfl rfl (Nat.le_of_ble_eq_true rfl) rfl ?_
  refine mB hT 8 rfl ?_
  refine hC.2.2.2.2.1 _ 0 [_, _, _, _] _ _ _ _ _ (hk1) rfl rfl (Nat.le_of_ble_eq_true rfl) rfl ?_
  refine mB hT 6 rfl ?_
  refine mIf (fun hp => absurd hp (fun q => h1 (lc_eq.mp q))) (fun _ => ?_)
  refine mB hT 5 rfl ?_
  refine hC.2.2.2.2.2 _ 0 [_, _, _, _] _ _ _ _ _ (hk3) rfl rfl (Nat.le_of_ble_eq_true rfl) rfl ?_
  refine mB hT 6 rfl ?_
  refine mIf (fun hp => absurd hp (fun q => h2 (lc_eq.mp q))) (fun _ => ?_)
  refine mNf (lv2 := [(7, .long a2), (5, .long a1), (0, .ref 0), (1, .int 3), (2, .int (Int32.ofNat b)), (3, .int (Int32.ofNat k)), (4, .int 0)]) (st2 := []) rfl rfl ?_
  refine mB hT 3 rfl ?_
  exact hR _ (by decide) _ _ _ rfl rfl
set_option maxRecDepth 20000 in
theorem m_blame_A_3_1 {n vs : Nat} {wo un h : Int64} {bo : Nat → Int32} {ta tr ro ot : Nat → Int64} {Bm : Nat → Nat → Nat → Int32} {bk : Nat → Nat → Int32} (hv : 3 < vs) (hvs : vs ≤ 6) (hi : 1 < n) (hn : n ≤ 4) {b : Nat} (hb : b < 4) {k : Nat} (hk : k < 3) (h1 : dtM (TnM n Bm 2 3) = 0) : ∃ (wo4 un4 : Int64) (bo4 : Nat → Int32) (ta4 tr4 ro4 : Nat → Int64), KX3_blame l D ca ad [.ref 0, .int 3, .int (Int32.ofNat b), .int (Int32.ofNat k), .int 1] (MW (Int32.ofNat n) (Int32.ofNat vs) wo un h bo ta tr ro ot Bm bk) (some (.long (-9000000000000000004))) (MW (Int32.ofNat n) (Int32.ofNat vs) wo4 un4 h bo4 ta4 tr4 ro4 ot Bm bk) := by
  obtain ⟨un1, bo1, ta1, tr1, ro1, hk1⟩ := m_mixed0_3_2 (l := l) (D := D) (ca := ca) (ad := ad) (vs := vs) (wo := wo) (un := un) (h := h) (bo := bo) (ta := ta) (tr := tr) (ro := ro) (ot := ot) hn hb hk h1
  obtain ⟨d1, ed1⟩ : ∃ z, z = dtM (TnM n Bm 2 3) := ⟨_, rfl⟩
  rw [← ed1] at hk1 h1
  refine ⟨d1, un1, bo1, ta1, tr1, ro1, ?_⟩
  refine PX3_blame (Nat.le_of_ble_eq_true rfl) ?_
  intro G hT hC hR
  refine mB hT 6 rfl ?_
  refine hC.1 _ [_, _, _] _ _ _ _ (m_in_t (by decide) ((le_pred (by omega)).mpr (ofNat_lt (i := 3) hv (by omega)))) rfl (Nat.le_of_ble_eq_true rfl) rfl ?_
  refine mB hT 2 rfl ?_
  refine hC.2.1 _ [_] _ _ _ _ (m_isBasket_t hb) rfl (Nat.le_of_ble_eq_true rfl) rfl ?_
  refine mB hT 2 rfl ?_
  refine hC.2.2.1 _ [_] _ _ _ _ (m_isStuff_t hk) rfl (Nat.le_of_ble_eq_true rfl) rfl ?_
  refine mB hT 3 rfl ?_
  refine hC.2.2.2.1 _ 0 [_] _ _ _ _ _ (m_isMaking_t (i := 1) hi hn) rfl rfl (Nat.le_of_ble_eq_true rfl) rfl ?_
  refine mB hT 8 rfl ?_
  refine hC.2.2.2.2.1 _ 0 [_, _, _, _] _ _ _ _ _ (hk1) rfl rfl (Nat.le_of_ble_eq_true rfl) rfl ?_
  refine mB hT 6 rfl ?_
  refine mIf (fun _ => ?_) (fun hn => absurd (lc_eq.mpr h1) hn)
  refine mB hT 1 rfl ?_
  exact hR _ (by decide) _ _ _ rfl rfl
set_option maxRecDepth 20000 in
theorem m_blame_B_3_1 {n vs : Nat} {wo un h : Int64} {bo : Nat → Int32} {ta tr ro ot : Nat → Int64} {Bm : Nat → Nat → Nat → Int32} {bk : Nat → Nat → Int32} (hv : 3 < vs) (hvs : vs ≤ 6) (hi : 1 < n) (hn : n ≤ 4) {b : Nat} (hb : b < 4) {k : Nat} (hk : k < 3) (h1 : ¬ dtM (TnM n Bm 2 3) = 0) (h2 : dtM (TnM n Bm 1 3) = 0) : ∃ (wo4 un4 : Int64) (bo4 : Nat → Int32) (ta4 tr4 ro4 : Nat → Int64), KX3_blame l D ca ad [.ref 0, .int 3, .int (Int32.ofNat b), .int (Int32.ofNat k), .int 1] (MW (Int32.ofNat n) (Int32.ofNat vs) wo un h bo ta tr ro ot Bm bk) (some (.long (-9000000000000000004))) (MW (Int32.ofNat n) (Int32.ofNat vs) wo4 un4 h bo4 ta4 tr4 ro4 ot Bm bk) := by
  obtain ⟨un1, bo1, ta1, tr1, ro1, hk1⟩ := m_mixed1_3_2 (l := l) (D := D) (ca := ca) (ad := ad) (vs := vs) (wo := wo) (un := un) (h := h) (bo := bo) (ta := ta) (tr := tr) (ro := ro) (ot := ot) hn hb hk h1
  obtain ⟨d1, ed1⟩ : ∃ z, z = dtM (TnM n Bm 2 3) := ⟨_, rfl⟩
  rw [← ed1] at hk1 h1
  generalize thM _ _ = a1 at hk1
  obtain ⟨un3, bo3, ta3, tr3, ro3, hk3⟩ := m_mixed0_3_1 (l := l) (D := D) (ca := ca) (ad := ad) (vs := vs) (wo := d1) (un := un1) (h := h) (bo := bo1) (ta := ta1) (tr := tr1) (ro := ro1) (ot := ot) hn hb hk h2
  obtain ⟨d2, ed2⟩ : ∃ z, z = dtM (TnM n Bm 1 3) := ⟨_, rfl⟩
  rw [← ed2] at hk3 h2
  refine ⟨d2, un3, bo3, ta3, tr3, ro3, ?_⟩
  refine PX3_blame (Nat.le_of_ble_eq_true rfl) ?_
  intro G hT hC hR
  refine mB hT 6 rfl ?_
  refine hC.1 _ [_, _, _] _ _ _ _ (m_in_t (by decide) ((le_pred (by omega)).mpr (ofNat_lt (i := 3) hv (by omega)))) rfl (Nat.le_of_ble_eq_true rfl) rfl ?_
  refine mB hT 2 rfl ?_
  refine hC.2.1 _ [_] _ _ _ _ (m_isBasket_t hb) rfl (Nat.le_of_ble_eq_true rfl) rfl ?_
  refine mB hT 2 rfl ?_
  refine hC.2.2.1 _ [_] _ _ _ _ (m_isStuff_t hk) rfl (Nat.le_of_ble_eq_true rfl) rfl ?_
  refine mB hT 3 rfl ?_
  refine hC.2.2.2.1 _ 0 [_] _ _ _ _ _ (m_isMaking_t (i := 1) hi hn) rfl rfl (Nat.le_of_ble_eq_true rfl) rfl ?_
  refine mB hT 8 rfl ?_
  refine hC.2.2.2.2.1 _ 0 [_, _, _, _] _ _ _ _ _ (hk1) rfl rfl (Nat.le_of_ble_eq_true rfl) rfl ?_
  refine mB hT 6 rfl ?_
  refine mIf (fun hp => absurd hp (fun q => h1 (lc_eq.mp q))) (fun _ => ?_)
  refine mB hT 5 rfl ?_
  refine hC.2.2.2.2.2 _ 0 [_, _, _, _] _ _ _ _ _ (hk3) rfl rfl (Nat.le_of_ble_eq_true rfl) rfl ?_
  refine mB hT 6 rfl ?_
  refine mIf (fun _ => ?_) (fun hn => absurd (lc_eq.mpr h2) hn)
  refine mNf (lv2 := [(7, .long 0), (5, .long a1), (0, .ref 0), (1, .int 3), (2, .int (Int32.ofNat b)), (3, .int (Int32.ofNat k)), (4, .int 1)]) (st2 := []) rfl rfl ?_
  refine mB hT 2 rfl ?_
  exact hR _ (by decide) _ _ _ rfl rfl
set_option maxRecDepth 20000 in
theorem m_blame_C_3_1 {n vs : Nat} {wo un h : Int64} {bo : Nat → Int32} {ta tr ro ot : Nat → Int64} {Bm : Nat → Nat → Nat → Int32} {bk : Nat → Nat → Int32} (hv : 3 < vs) (hvs : vs ≤ 6) (hi : 1 < n) (hn : n ≤ 4) {b : Nat} (hb : b < 4) {k : Nat} (hk : k < 3) (h1 : ¬ dtM (TnM n Bm 2 3) = 0) (h2 : ¬ dtM (TnM n Bm 1 3) = 0) : ∃ (wo4 un4 : Int64) (bo4 : Nat → Int32) (ta4 tr4 ro4 : Nat → Int64), KX3_blame l D ca ad [.ref 0, .int 3, .int (Int32.ofNat b), .int (Int32.ofNat k), .int 1] (MW (Int32.ofNat n) (Int32.ofNat vs) wo un h bo ta tr ro ot Bm bk) (some (.long ((thM (smG n (fun i s => emM (Bm (bkM 2 3 i) i) k s) (rdM n (TnM n Bm 2 3) (dtM (TnM n Bm 2 3)) (fun j => (bk b j).toInt64)) 1) (absX (dtM (TnM n Bm 2 3)))) - (thM (smG n (fun i s => emM (Bm (bkM 1 3 i) i) k s) (rdM n (TnM n Bm 1 3) (dtM (TnM n Bm 1 3)) (fun j => (bk b j).toInt64)) 1) (absX (dtM (TnM n Bm 1 3))))))) (MW (Int32.ofNat n) (Int32.ofNat vs) wo4 un4 h bo4 ta4 tr4 ro4 ot Bm bk) := by
  obtain ⟨a1, ea1⟩ : ∃ z, z = (thM (smG n (fun i s => emM (Bm (bkM 2 3 i) i) k s) (rdM n (TnM n Bm 2 3) (dtM (TnM n Bm 2 3)) (fun j => (bk b j).toInt64)) 1) (absX (dtM (TnM n Bm 2 3)))) := ⟨_, rfl⟩
  obtain ⟨a2, ea2⟩ : ∃ z, z = (thM (smG n (fun i s => emM (Bm (bkM 1 3 i) i) k s) (rdM n (TnM n Bm 1 3) (dtM (TnM n Bm 1 3)) (fun j => (bk b j).toInt64)) 1) (absX (dtM (TnM n Bm 1 3)))) := ⟨_, rfl⟩
  obtain ⟨un1, bo1, ta1, tr1, ro1, hk1⟩ := m_mixed1_3_2 (l := l) (D := D) (ca := ca) (ad := ad) (vs := vs) (wo := wo) (un := un) (h := h) (bo := bo) (ta := ta) (tr := tr) (ro := ro) (ot := ot) hn hb hk h1
  rw [← ea1] at hk1
  obtain ⟨d1, ed1⟩ : ∃ z, z = dtM (TnM n Bm 2 3) := ⟨_, rfl⟩
  rw [← ed1] at hk1 h1
  obtain ⟨un3, bo3, ta3, tr3, ro3, hk3⟩ := m_mixed1_3_1 (l := l) (D := D) (ca := ca) (ad := ad) (vs := vs) (wo := d1) (un := un1) (h := h) (bo := bo1) (ta := ta1) (tr := tr1) (ro := ro1) (ot := ot) hn hb hk h2
  rw [← ea2] at hk3
  obtain ⟨d2, ed2⟩ : ∃ z, z = dtM (TnM n Bm 1 3) := ⟨_, rfl⟩
  rw [← ed2] at hk3 h2
  rw [← ea1, ← ea2]
  refine ⟨d2, un3, bo3, ta3, tr3, ro3, ?_⟩
  refine PX3_blame (Nat.le_of_ble_eq_true rfl) ?_
  intro G hT hC hR
  refine mB hT 6 rfl ?_
  refine hC.1 _ [_, _, _] _ _ _ _ (m_in_t (by decide) ((le_pred (by omega)).mpr (ofNat_lt (i := 3) hv (by omega)))) rfl (Nat.le_of_ble_eq_true rfl) rfl ?_
  refine mB hT 2 rfl ?_
  refine hC.2.1 _ [_] _ _ _ _ (m_isBasket_t hb) rfl (Nat.le_of_ble_eq_true rfl) rfl ?_
  refine mB hT 2 rfl ?_
  refine hC.2.2.1 _ [_] _ _ _ _ (m_isStuff_t hk) rfl (Nat.le_of_ble_eq_true rfl) rfl ?_
  refine mB hT 3 rfl ?_
  refine hC.2.2.2.1 _ 0 [_] _ _ _ _ _ (m_isMaking_t (i := 1) hi hn) rfl rfl (Nat.le_of_ble_eq_true rfl) rfl ?_
  refine mB hT 8 rfl ?_
  refine hC.2.2.2.2.1 _ 0 [_, _, _, _] _ _ _ _ _ (hk1) rfl rfl (Nat.le_of_ble_eq_true rfl) rfl ?_
  refine mB hT 6 rfl ?_
  refine mIf (fun hp => absurd hp (fun q => h1 (lc_eq.mp q))) (fun _ => ?_)
  refine mB hT 5 rfl ?_
  refine hC.2.2.2.2.2 _ 0 [_, _, _, _] _ _ _ _ _ (hk3) rfl rfl (Nat.le_of_ble_eq_true rfl) rfl ?_
  refine mB hT 6 rfl ?_
  refine mIf (fun hp => absurd hp (fun q => h2 (lc_eq.mp q))) (fun _ => ?_)
  refine mNf (lv2 := [(7, .long a2), (5, .long a1), (0, .ref 0), (1, .int 3), (2, .int (Int32.ofNat b)), (3, .int (Int32.ofNat k)), (4, .int 1)]) (st2 := []) rfl rfl ?_
  refine mB hT 3 rfl ?_
  exact hR _ (by decide) _ _ _ rfl rfl
set_option maxRecDepth 20000 in
theorem m_blame_A_3_2 {n vs : Nat} {wo un h : Int64} {bo : Nat → Int32} {ta tr ro ot : Nat → Int64} {Bm : Nat → Nat → Nat → Int32} {bk : Nat → Nat → Int32} (hv : 3 < vs) (hvs : vs ≤ 6) (hi : 2 < n) (hn : n ≤ 4) {b : Nat} (hb : b < 4) {k : Nat} (hk : k < 3) (h1 : dtM (TnM n Bm 3 3) = 0) : ∃ (wo4 un4 : Int64) (bo4 : Nat → Int32) (ta4 tr4 ro4 : Nat → Int64), KX3_blame l D ca ad [.ref 0, .int 3, .int (Int32.ofNat b), .int (Int32.ofNat k), .int 2] (MW (Int32.ofNat n) (Int32.ofNat vs) wo un h bo ta tr ro ot Bm bk) (some (.long (-9000000000000000004))) (MW (Int32.ofNat n) (Int32.ofNat vs) wo4 un4 h bo4 ta4 tr4 ro4 ot Bm bk) := by
  obtain ⟨un1, bo1, ta1, tr1, ro1, hk1⟩ := m_mixed0_3_3 (l := l) (D := D) (ca := ca) (ad := ad) (vs := vs) (wo := wo) (un := un) (h := h) (bo := bo) (ta := ta) (tr := tr) (ro := ro) (ot := ot) hn hb hk h1
  obtain ⟨d1, ed1⟩ : ∃ z, z = dtM (TnM n Bm 3 3) := ⟨_, rfl⟩
  rw [← ed1] at hk1 h1
  refine ⟨d1, un1, bo1, ta1, tr1, ro1, ?_⟩
  refine PX3_blame (Nat.le_of_ble_eq_true rfl) ?_
  intro G hT hC hR
  refine mB hT 6 rfl ?_
  refine hC.1 _ [_, _, _] _ _ _ _ (m_in_t (by decide) ((le_pred (by omega)).mpr (ofNat_lt (i := 3) hv (by omega)))) rfl (Nat.le_of_ble_eq_true rfl) rfl ?_
  refine mB hT 2 rfl ?_
  refine hC.2.1 _ [_] _ _ _ _ (m_isBasket_t hb) rfl (Nat.le_of_ble_eq_true rfl) rfl ?_
  refine mB hT 2 rfl ?_
  refine hC.2.2.1 _ [_] _ _ _ _ (m_isStuff_t hk) rfl (Nat.le_of_ble_eq_true rfl) rfl ?_
  refine mB hT 3 rfl ?_
  refine hC.2.2.2.1 _ 0 [_] _ _ _ _ _ (m_isMaking_t (i := 2) hi hn) rfl rfl (Nat.le_of_ble_eq_true rfl) rfl ?_
  refine mB hT 8 rfl ?_
  refine hC.2.2.2.2.1 _ 0 [_, _, _, _] _ _ _ _ _ (hk1) rfl rfl (Nat.le_of_ble_eq_true rfl) rfl ?_
  refine mB hT 6 rfl ?_
  refine mIf (fun _ => ?_) (fun hn => absurd (lc_eq.mpr h1) hn)
  refine mB hT 1 rfl ?_
  exact hR _ (by decide) _ _ _ rfl rfl
set_option maxRecDepth 20000 in
theorem m_blame_B_3_2 {n vs : Nat} {wo un h : Int64} {bo : Nat → Int32} {ta tr ro ot : Nat → Int64} {Bm : Nat → Nat → Nat → Int32} {bk : Nat → Nat → Int32} (hv : 3 < vs) (hvs : vs ≤ 6) (hi : 2 < n) (hn : n ≤ 4) {b : Nat} (hb : b < 4) {k : Nat} (hk : k < 3) (h1 : ¬ dtM (TnM n Bm 3 3) = 0) (h2 : dtM (TnM n Bm 2 3) = 0) : ∃ (wo4 un4 : Int64) (bo4 : Nat → Int32) (ta4 tr4 ro4 : Nat → Int64), KX3_blame l D ca ad [.ref 0, .int 3, .int (Int32.ofNat b), .int (Int32.ofNat k), .int 2] (MW (Int32.ofNat n) (Int32.ofNat vs) wo un h bo ta tr ro ot Bm bk) (some (.long (-9000000000000000004))) (MW (Int32.ofNat n) (Int32.ofNat vs) wo4 un4 h bo4 ta4 tr4 ro4 ot Bm bk) := by
  obtain ⟨un1, bo1, ta1, tr1, ro1, hk1⟩ := m_mixed1_3_3 (l := l) (D := D) (ca := ca) (ad := ad) (vs := vs) (wo := wo) (un := un) (h := h) (bo := bo) (ta := ta) (tr := tr) (ro := ro) (ot := ot) hn hb hk h1
  obtain ⟨d1, ed1⟩ : ∃ z, z = dtM (TnM n Bm 3 3) := ⟨_, rfl⟩
  rw [← ed1] at hk1 h1
  generalize thM _ _ = a1 at hk1
  obtain ⟨un3, bo3, ta3, tr3, ro3, hk3⟩ := m_mixed0_3_2 (l := l) (D := D) (ca := ca) (ad := ad) (vs := vs) (wo := d1) (un := un1) (h := h) (bo := bo1) (ta := ta1) (tr := tr1) (ro := ro1) (ot := ot) hn hb hk h2
  obtain ⟨d2, ed2⟩ : ∃ z, z = dtM (TnM n Bm 2 3) := ⟨_, rfl⟩
  rw [← ed2] at hk3 h2
  refine ⟨d2, un3, bo3, ta3, tr3, ro3, ?_⟩
  refine PX3_blame (Nat.le_of_ble_eq_true rfl) ?_
  intro G hT hC hR
  refine mB hT 6 rfl ?_
  refine hC.1 _ [_, _, _] _ _ _ _ (m_in_t (by decide) ((le_pred (by omega)).mpr (ofNat_lt (i := 3) hv (by omega)))) rfl (Nat.le_of_ble_eq_true rfl) rfl ?_
  refine mB hT 2 rfl ?_
  refine hC.2.1 _ [_] _ _ _ _ (m_isBasket_t hb) rfl (Nat.le_of_ble_eq_true rfl) rfl ?_
  refine mB hT 2 rfl ?_
  refine hC.2.2.1 _ [_] _ _ _ _ (m_isStuff_t hk) rfl (Nat.le_of_ble_eq_true rfl) rfl ?_
  refine mB hT 3 rfl ?_
  refine hC.2.2.2.1 _ 0 [_] _ _ _ _ _ (m_isMaking_t (i := 2) hi hn) rfl rfl (Nat.le_of_ble_eq_true rfl) rfl ?_
  refine mB hT 8 rfl ?_
  refine hC.2.2.2.2.1 _ 0 [_, _, _, _] _ _ _ _ _ (hk1) rfl rfl (Nat.le_of_ble_eq_true rfl) rfl ?_
  refine mB hT 6 rfl ?_
  refine mIf (fun hp => absurd hp (fun q => h1 (lc_eq.mp q))) (fun _ => ?_)
  refine mB hT 5 rfl ?_
  refine hC.2.2.2.2.2 _ 0 [_, _, _, _] _ _ _ _ _ (hk3) rfl rfl (Nat.le_of_ble_eq_true rfl) rfl ?_
  refine mB hT 6 rfl ?_
  refine mIf (fun _ => ?_) (fun hn => absurd (lc_eq.mpr h2) hn)
  refine mNf (lv2 := [(7, .long 0), (5, .long a1), (0, .ref 0), (1, .int 3), (2, .int (Int32.ofNat b)), (3, .int (Int32.ofNat k)), (4, .int 2)]) (st2 := []) rfl rfl ?_
  refine mB hT 2 rfl ?_
  exact hR _ (by decide) _ _ _ rfl rfl
set_option maxRecDepth 20000 in
theorem m_blame_C_3_2 {n vs : Nat} {wo un h : Int64} {bo : Nat → Int32} {ta tr ro ot : Nat → Int64} {Bm : Nat → Nat → Nat → Int32} {bk : Nat → Nat → Int32} (hv : 3 < vs) (hvs : vs ≤ 6) (hi : 2 < n) (hn : n ≤ 4) {b : Nat} (hb : b < 4) {k : Nat} (hk : k < 3) (h1 : ¬ dtM (TnM n Bm 3 3) = 0) (h2 : ¬ dtM (TnM n Bm 2 3) = 0) : ∃ (wo4 un4 : Int64) (bo4 : Nat → Int32) (ta4 tr4 ro4 : Nat → Int64), KX3_blame l D ca ad [.ref 0, .int 3, .int (Int32.ofNat b), .int (Int32.ofNat k), .int 2] (MW (Int32.ofNat n) (Int32.ofNat vs) wo un h bo ta tr ro ot Bm bk) (some (.long ((thM (smG n (fun i s => emM (Bm (bkM 3 3 i) i) k s) (rdM n (TnM n Bm 3 3) (dtM (TnM n Bm 3 3)) (fun j => (bk b j).toInt64)) 1) (absX (dtM (TnM n Bm 3 3)))) - (thM (smG n (fun i s => emM (Bm (bkM 2 3 i) i) k s) (rdM n (TnM n Bm 2 3) (dtM (TnM n Bm 2 3)) (fun j => (bk b j).toInt64)) 1) (absX (dtM (TnM n Bm 2 3))))))) (MW (Int32.ofNat n) (Int32.ofNat vs) wo4 un4 h bo4 ta4 tr4 ro4 ot Bm bk) := by
  obtain ⟨a1, ea1⟩ : ∃ z, z = (thM (smG n (fun i s => emM (Bm (bkM 3 3 i) i) k s) (rdM n (TnM n Bm 3 3) (dtM (TnM n Bm 3 3)) (fun j => (bk b j).toInt64)) 1) (absX (dtM (TnM n Bm 3 3)))) := ⟨_, rfl⟩
  obtain ⟨a2, ea2⟩ : ∃ z, z = (thM (smG n (fun i s => emM (Bm (bkM 2 3 i) i) k s) (rdM n (TnM n Bm 2 3) (dtM (TnM n Bm 2 3)) (fun j => (bk b j).toInt64)) 1) (absX (dtM (TnM n Bm 2 3)))) := ⟨_, rfl⟩
  obtain ⟨un1, bo1, ta1, tr1, ro1, hk1⟩ := m_mixed1_3_3 (l := l) (D := D) (ca := ca) (ad := ad) (vs := vs) (wo := wo) (un := un) (h := h) (bo := bo) (ta := ta) (tr := tr) (ro := ro) (ot := ot) hn hb hk h1
  rw [← ea1] at hk1
  obtain ⟨d1, ed1⟩ : ∃ z, z = dtM (TnM n Bm 3 3) := ⟨_, rfl⟩
  rw [← ed1] at hk1 h1
  obtain ⟨un3, bo3, ta3, tr3, ro3, hk3⟩ := m_mixed1_3_2 (l := l) (D := D) (ca := ca) (ad := ad) (vs := vs) (wo := d1) (un := un1) (h := h) (bo := bo1) (ta := ta1) (tr := tr1) (ro := ro1) (ot := ot) hn hb hk h2
  rw [← ea2] at hk3
  obtain ⟨d2, ed2⟩ : ∃ z, z = dtM (TnM n Bm 2 3) := ⟨_, rfl⟩
  rw [← ed2] at hk3 h2
  rw [← ea1, ← ea2]
  refine ⟨d2, un3, bo3, ta3, tr3, ro3, ?_⟩
  refine PX3_blame (Nat.le_of_ble_eq_true rfl) ?_
  intro G hT hC hR
  refine mB hT 6 rfl ?_
  refine hC.1 _ [_, _, _] _ _ _ _ (m_in_t (by decide) ((le_pred (by omega)).mpr (ofNat_lt (i := 3) hv (by omega)))) rfl (Nat.le_of_ble_eq_true rfl) rfl ?_
  refine mB hT 2 rfl ?_
  refine hC.2.1 _ [_] _ _ _ _ (m_isBasket_t hb) rfl (Nat.le_of_ble_eq_true rfl) rfl ?_
  refine mB hT 2 rfl ?_
  refine hC.2.2.1 _ [_] _ _ _ _ (m_isStuff_t hk) rfl (Nat.le_of_ble_eq_true rfl) rfl ?_
  refine mB hT 3 rfl ?_
  refine hC.2.2.2.1 _ 0 [_] _ _ _ _ _ (m_isMaking_t (i := 2) hi hn) rfl rfl (Nat.le_of_ble_eq_true rfl) rfl ?_
  refine mB hT 8 rfl ?_
  refine hC.2.2.2.2.1 _ 0 [_, _, _, _] _ _ _ _ _ (hk1) rfl rfl (Nat.le_of_ble_eq_true rfl) rfl ?_
  refine mB hT 6 rfl ?_
  refine mIf (fun hp => absurd hp (fun q => h1 (lc_eq.mp q))) (fun _ => ?_)
  refine mB hT 5 rfl ?_
  refine hC.2.2.2.2.2 _ 0 [_, _, _, _] _ _ _ _ _ (hk3) rfl rfl (Nat.le_of_ble_eq_true rfl) rfl ?_
  refine mB hT 6 rfl ?_
  refine mIf (fun hp => absurd hp (fun q => h2 (lc_eq.mp q))) (fun _ => ?_)
  refine mNf (lv2 := [(7, .long a2), (5, .long a1), (0, .ref 0), (1, .int 3), (2, .int (Int32.ofNat b)), (3, .int (Int32.ofNat k)), (4, .int 2)]) (st2 := []) rfl rfl ?_
  refine mB hT 3 rfl ?_
  exact hR _ (by decide) _ _ _ rfl rfl
set_option maxRecDepth 20000 in
theorem m_blame_A_3_3 {n vs : Nat} {wo un h : Int64} {bo : Nat → Int32} {ta tr ro ot : Nat → Int64} {Bm : Nat → Nat → Nat → Int32} {bk : Nat → Nat → Int32} (hv : 3 < vs) (hvs : vs ≤ 6) (hi : 3 < n) (hn : n ≤ 4) {b : Nat} (hb : b < 4) {k : Nat} (hk : k < 3) (h1 : dtM (TnM n Bm 4 0) = 0) : ∃ (wo4 un4 : Int64) (bo4 : Nat → Int32) (ta4 tr4 ro4 : Nat → Int64), KX3_blame l D ca ad [.ref 0, .int 3, .int (Int32.ofNat b), .int (Int32.ofNat k), .int 3] (MW (Int32.ofNat n) (Int32.ofNat vs) wo un h bo ta tr ro ot Bm bk) (some (.long (-9000000000000000004))) (MW (Int32.ofNat n) (Int32.ofNat vs) wo4 un4 h bo4 ta4 tr4 ro4 ot Bm bk) := by
  obtain ⟨un1, bo1, ta1, tr1, ro1, hk1⟩ := m_mixed0_3_4 (l := l) (D := D) (ca := ca) (ad := ad) (vs := vs) (wo := wo) (un := un) (h := h) (bo := bo) (ta := ta) (tr := tr) (ro := ro) (ot := ot) hn hb hk h1
  obtain ⟨d1, ed1⟩ : ∃ z, z = dtM (TnM n Bm 4 0) := ⟨_, rfl⟩
  rw [← ed1] at hk1 h1
  refine ⟨d1, un1, bo1, ta1, tr1, ro1, ?_⟩
  refine PX3_blame (Nat.le_of_ble_eq_true rfl) ?_
  intro G hT hC hR
  refine mB hT 6 rfl ?_
  refine hC.1 _ [_, _, _] _ _ _ _ (m_in_t (by decide) ((le_pred (by omega)).mpr (ofNat_lt (i := 3) hv (by omega)))) rfl (Nat.le_of_ble_eq_true rfl) rfl ?_
  refine mB hT 2 rfl ?_
  refine hC.2.1 _ [_] _ _ _ _ (m_isBasket_t hb) rfl (Nat.le_of_ble_eq_true rfl) rfl ?_
  refine mB hT 2 rfl ?_
  refine hC.2.2.1 _ [_] _ _ _ _ (m_isStuff_t hk) rfl (Nat.le_of_ble_eq_true rfl) rfl ?_
  refine mB hT 3 rfl ?_
  refine hC.2.2.2.1 _ 0 [_] _ _ _ _ _ (m_isMaking_t (i := 3) hi hn) rfl rfl (Nat.le_of_ble_eq_true rfl) rfl ?_
  refine mB hT 8 rfl ?_
  refine hC.2.2.2.2.1 _ 0 [_, _, _, _] _ _ _ _ _ (hk1) rfl rfl (Nat.le_of_ble_eq_true rfl) rfl ?_
  refine mB hT 6 rfl ?_
  refine mIf (fun _ => ?_) (fun hn => absurd (lc_eq.mpr h1) hn)
  refine mB hT 1 rfl ?_
  exact hR _ (by decide) _ _ _ rfl rfl
set_option maxRecDepth 20000 in
theorem m_blame_B_3_3 {n vs : Nat} {wo un h : Int64} {bo : Nat → Int32} {ta tr ro ot : Nat → Int64} {Bm : Nat → Nat → Nat → Int32} {bk : Nat → Nat → Int32} (hv : 3 < vs) (hvs : vs ≤ 6) (hi : 3 < n) (hn : n ≤ 4) {b : Nat} (hb : b < 4) {k : Nat} (hk : k < 3) (h1 : ¬ dtM (TnM n Bm 4 0) = 0) (h2 : dtM (TnM n Bm 3 3) = 0) : ∃ (wo4 un4 : Int64) (bo4 : Nat → Int32) (ta4 tr4 ro4 : Nat → Int64), KX3_blame l D ca ad [.ref 0, .int 3, .int (Int32.ofNat b), .int (Int32.ofNat k), .int 3] (MW (Int32.ofNat n) (Int32.ofNat vs) wo un h bo ta tr ro ot Bm bk) (some (.long (-9000000000000000004))) (MW (Int32.ofNat n) (Int32.ofNat vs) wo4 un4 h bo4 ta4 tr4 ro4 ot Bm bk) := by
  obtain ⟨un1, bo1, ta1, tr1, ro1, hk1⟩ := m_mixed1_3_4 (l := l) (D := D) (ca := ca) (ad := ad) (vs := vs) (wo := wo) (un := un) (h := h) (bo := bo) (ta := ta) (tr := tr) (ro := ro) (ot := ot) hn hb hk h1
  obtain ⟨d1, ed1⟩ : ∃ z, z = dtM (TnM n Bm 4 0) := ⟨_, rfl⟩
  rw [← ed1] at hk1 h1
  generalize thM _ _ = a1 at hk1
  obtain ⟨un3, bo3, ta3, tr3, ro3, hk3⟩ := m_mixed0_3_3 (l := l) (D := D) (ca := ca) (ad := ad) (vs := vs) (wo := d1) (un := un1) (h := h) (bo := bo1) (ta := ta1) (tr := tr1) (ro := ro1) (ot := ot) hn hb hk h2
  obtain ⟨d2, ed2⟩ : ∃ z, z = dtM (TnM n Bm 3 3) := ⟨_, rfl⟩
  rw [← ed2] at hk3 h2
  refine ⟨d2, un3, bo3, ta3, tr3, ro3, ?_⟩
  refine PX3_blame (Nat.le_of_ble_eq_true rfl) ?_
  intro G hT hC hR
  refine mB hT 6 rfl ?_
  refine hC.1 _ [_, _, _] _ _ _ _ (m_in_t (by decide) ((le_pred (by omega)).mpr (ofNat_lt (i := 3) hv (by omega)))) rfl (Nat.le_of_ble_eq_true rfl) rfl ?_
  refine mB hT 2 rfl ?_
  refine hC.2.1 _ [_] _ _ _ _ (m_isBasket_t hb) rfl (Nat.le_of_ble_eq_true rfl) rfl ?_
  refine mB hT 2 rfl ?_
  refine hC.2.2.1 _ [_] _ _ _ _ (m_isStuff_t hk) rfl (Nat.le_of_ble_eq_true rfl) rfl ?_
  refine mB hT 3 rfl ?_
  refine hC.2.2.2.1 _ 0 [_] _ _ _ _ _ (m_isMaking_t (i := 3) hi hn) rfl rfl (Nat.le_of_ble_eq_true rfl) rfl ?_
  refine mB hT 8 rfl ?_
  refine hC.2.2.2.2.1 _ 0 [_, _, _, _] _ _ _ _ _ (hk1) rfl rfl (Nat.le_of_ble_eq_true rfl) rfl ?_
  refine mB hT 6 rfl ?_
  refine mIf (fun hp => absurd hp (fun q => h1 (lc_eq.mp q))) (fun _ => ?_)
  refine mB hT 5 rfl ?_
  refine hC.2.2.2.2.2 _ 0 [_, _, _, _] _ _ _ _ _ (hk3) rfl rfl (Nat.le_of_ble_eq_true rfl) rfl ?_
  refine mB hT 6 rfl ?_
  refine mIf (fun _ => ?_) (fun hn => absurd (lc_eq.mpr h2) hn)
  refine mNf (lv2 := [(7, .long 0), (5, .long a1), (0, .ref 0), (1, .int 3), (2, .int (Int32.ofNat b)), (3, .int (Int32.ofNat k)), (4, .int 3)]) (st2 := []) rfl rfl ?_
  refine mB hT 2 rfl ?_
  exact hR _ (by decide) _ _ _ rfl rfl
set_option maxRecDepth 20000 in
theorem m_blame_C_3_3 {n vs : Nat} {wo un h : Int64} {bo : Nat → Int32} {ta tr ro ot : Nat → Int64} {Bm : Nat → Nat → Nat → Int32} {bk : Nat → Nat → Int32} (hv : 3 < vs) (hvs : vs ≤ 6) (hi : 3 < n) (hn : n ≤ 4) {b : Nat} (hb : b < 4) {k : Nat} (hk : k < 3) (h1 : ¬ dtM (TnM n Bm 4 0) = 0) (h2 : ¬ dtM (TnM n Bm 3 3) = 0) : ∃ (wo4 un4 : Int64) (bo4 : Nat → Int32) (ta4 tr4 ro4 : Nat → Int64), KX3_blame l D ca ad [.ref 0, .int 3, .int (Int32.ofNat b), .int (Int32.ofNat k), .int 3] (MW (Int32.ofNat n) (Int32.ofNat vs) wo un h bo ta tr ro ot Bm bk) (some (.long ((thM (smG n (fun i s => emM (Bm (bkM 4 0 i) i) k s) (rdM n (TnM n Bm 4 0) (dtM (TnM n Bm 4 0)) (fun j => (bk b j).toInt64)) 1) (absX (dtM (TnM n Bm 4 0)))) - (thM (smG n (fun i s => emM (Bm (bkM 3 3 i) i) k s) (rdM n (TnM n Bm 3 3) (dtM (TnM n Bm 3 3)) (fun j => (bk b j).toInt64)) 1) (absX (dtM (TnM n Bm 3 3))))))) (MW (Int32.ofNat n) (Int32.ofNat vs) wo4 un4 h bo4 ta4 tr4 ro4 ot Bm bk) := by
  obtain ⟨a1, ea1⟩ : ∃ z, z = (thM (smG n (fun i s => emM (Bm (bkM 4 0 i) i) k s) (rdM n (TnM n Bm 4 0) (dtM (TnM n Bm 4 0)) (fun j => (bk b j).toInt64)) 1) (absX (dtM (TnM n Bm 4 0)))) := ⟨_, rfl⟩
  obtain ⟨a2, ea2⟩ : ∃ z, z = (thM (smG n (fun i s => emM (Bm (bkM 3 3 i) i) k s) (rdM n (TnM n Bm 3 3) (dtM (TnM n Bm 3 3)) (fun j => (bk b j).toInt64)) 1) (absX (dtM (TnM n Bm 3 3)))) := ⟨_, rfl⟩
  obtain ⟨un1, bo1, ta1, tr1, ro1, hk1⟩ := m_mixed1_3_4 (l := l) (D := D) (ca := ca) (ad := ad) (vs := vs) (wo := wo) (un := un) (h := h) (bo := bo) (ta := ta) (tr := tr) (ro := ro) (ot := ot) hn hb hk h1
  rw [← ea1] at hk1
  obtain ⟨d1, ed1⟩ : ∃ z, z = dtM (TnM n Bm 4 0) := ⟨_, rfl⟩
  rw [← ed1] at hk1 h1
  obtain ⟨un3, bo3, ta3, tr3, ro3, hk3⟩ := m_mixed1_3_3 (l := l) (D := D) (ca := ca) (ad := ad) (vs := vs) (wo := d1) (un := un1) (h := h) (bo := bo1) (ta := ta1) (tr := tr1) (ro := ro1) (ot := ot) hn hb hk h2
  rw [← ea2] at hk3
  obtain ⟨d2, ed2⟩ : ∃ z, z = dtM (TnM n Bm 3 3) := ⟨_, rfl⟩
  rw [← ed2] at hk3 h2
  rw [← ea1, ← ea2]
  refine ⟨d2, un3, bo3, ta3, tr3, ro3, ?_⟩
  refine PX3_blame (Nat.le_of_ble_eq_true rfl) ?_
  intro G hT hC hR
  refine mB hT 6 rfl ?_
  refine hC.1 _ [_, _, _] _ _ _ _ (m_in_t (by decide) ((le_pred (by omega)).mpr (ofNat_lt (i := 3) hv (by omega)))) rfl (Nat.le_of_ble_eq_true rfl) rfl ?_
  refine mB hT 2 rfl ?_
  refine hC.2.1 _ [_] _ _ _ _ (m_isBasket_t hb) rfl (Nat.le_of_ble_eq_true rfl) rfl ?_
  refine mB hT 2 rfl ?_
  refine hC.2.2.1 _ [_] _ _ _ _ (m_isStuff_t hk) rfl (Nat.le_of_ble_eq_true rfl) rfl ?_
  refine mB hT 3 rfl ?_
  refine hC.2.2.2.1 _ 0 [_] _ _ _ _ _ (m_isMaking_t (i := 3) hi hn) rfl rfl (Nat.le_of_ble_eq_true rfl) rfl ?_
  refine mB hT 8 rfl ?_
  refine hC.2.2.2.2.1 _ 0 [_, _, _, _] _ _ _ _ _ (hk1) rfl rfl (Nat.le_of_ble_eq_true rfl) rfl ?_
  refine mB hT 6 rfl ?_
  refine mIf (fun hp => absurd hp (fun q => h1 (lc_eq.mp q))) (fun _ => ?_)
  refine mB hT 5 rfl ?_
  refine hC.2.2.2.2.2 _ 0 [_, _, _, _] _ _ _ _ _ (hk3) rfl rfl (Nat.le_of_ble_eq_true rfl) rfl ?_
  refine mB hT 6 rfl ?_
  refine mIf (fun hp => absurd hp (fun q => h2 (lc_eq.mp q))) (fun _ => ?_)
  refine mNf (lv2 := [(7, .long a2), (5, .long a1), (0, .ref 0), (1, .int 3), (2, .int (Int32.ofNat b)), (3, .int (Int32.ofNat k)), (4, .int 3)]) (st2 := []) rfl rfl ?_
  refine mB hT 3 rfl ?_
  exact hR _ (by decide) _ _ _ rfl rfl
set_option maxRecDepth 20000 in
theorem m_blame_A_4_0 {n vs : Nat} {wo un h : Int64} {bo : Nat → Int32} {ta tr ro ot : Nat → Int64} {Bm : Nat → Nat → Nat → Int32} {bk : Nat → Nat → Int32} (hv : 4 < vs) (hvs : vs ≤ 6) (hi : 0 < n) (hn : n ≤ 4) {b : Nat} (hb : b < 4) {k : Nat} (hk : k < 3) (h1 : dtM (TnM n Bm 1 4) = 0) : ∃ (wo4 un4 : Int64) (bo4 : Nat → Int32) (ta4 tr4 ro4 : Nat → Int64), KX3_blame l D ca ad [.ref 0, .int 4, .int (Int32.ofNat b), .int (Int32.ofNat k), .int 0] (MW (Int32.ofNat n) (Int32.ofNat vs) wo un h bo ta tr ro ot Bm bk) (some (.long (-9000000000000000004))) (MW (Int32.ofNat n) (Int32.ofNat vs) wo4 un4 h bo4 ta4 tr4 ro4 ot Bm bk) := by
  obtain ⟨un1, bo1, ta1, tr1, ro1, hk1⟩ := m_mixed0_4_1 (l := l) (D := D) (ca := ca) (ad := ad) (vs := vs) (wo := wo) (un := un) (h := h) (bo := bo) (ta := ta) (tr := tr) (ro := ro) (ot := ot) hn hb hk h1
  obtain ⟨d1, ed1⟩ : ∃ z, z = dtM (TnM n Bm 1 4) := ⟨_, rfl⟩
  rw [← ed1] at hk1 h1
  refine ⟨d1, un1, bo1, ta1, tr1, ro1, ?_⟩
  refine PX3_blame (Nat.le_of_ble_eq_true rfl) ?_
  intro G hT hC hR
  refine mB hT 6 rfl ?_
  refine hC.1 _ [_, _, _] _ _ _ _ (m_in_t (by decide) ((le_pred (by omega)).mpr (ofNat_lt (i := 4) hv (by omega)))) rfl (Nat.le_of_ble_eq_true rfl) rfl ?_
  refine mB hT 2 rfl ?_
  refine hC.2.1 _ [_] _ _ _ _ (m_isBasket_t hb) rfl (Nat.le_of_ble_eq_true rfl) rfl ?_
  refine mB hT 2 rfl ?_
  refine hC.2.2.1 _ [_] _ _ _ _ (m_isStuff_t hk) rfl (Nat.le_of_ble_eq_true rfl) rfl ?_
  refine mB hT 3 rfl ?_
  refine hC.2.2.2.1 _ 0 [_] _ _ _ _ _ (m_isMaking_t (i := 0) hi hn) rfl rfl (Nat.le_of_ble_eq_true rfl) rfl ?_
  refine mB hT 8 rfl ?_
  refine hC.2.2.2.2.1 _ 0 [_, _, _, _] _ _ _ _ _ (hk1) rfl rfl (Nat.le_of_ble_eq_true rfl) rfl ?_
  refine mB hT 6 rfl ?_
  refine mIf (fun _ => ?_) (fun hn => absurd (lc_eq.mpr h1) hn)
  refine mB hT 1 rfl ?_
  exact hR _ (by decide) _ _ _ rfl rfl
set_option maxRecDepth 20000 in
theorem m_blame_B_4_0 {n vs : Nat} {wo un h : Int64} {bo : Nat → Int32} {ta tr ro ot : Nat → Int64} {Bm : Nat → Nat → Nat → Int32} {bk : Nat → Nat → Int32} (hv : 4 < vs) (hvs : vs ≤ 6) (hi : 0 < n) (hn : n ≤ 4) {b : Nat} (hb : b < 4) {k : Nat} (hk : k < 3) (h1 : ¬ dtM (TnM n Bm 1 4) = 0) (h2 : dtM (TnM n Bm 0 4) = 0) : ∃ (wo4 un4 : Int64) (bo4 : Nat → Int32) (ta4 tr4 ro4 : Nat → Int64), KX3_blame l D ca ad [.ref 0, .int 4, .int (Int32.ofNat b), .int (Int32.ofNat k), .int 0] (MW (Int32.ofNat n) (Int32.ofNat vs) wo un h bo ta tr ro ot Bm bk) (some (.long (-9000000000000000004))) (MW (Int32.ofNat n) (Int32.ofNat vs) wo4 un4 h bo4 ta4 tr4 ro4 ot Bm bk) := by
  obtain ⟨un1, bo1, ta1, tr1, ro1, hk1⟩ := m_mixed1_4_1 (l := l) (D := D) (ca := ca) (ad := ad) (vs := vs) (wo := wo) (un := un) (h := h) (bo := bo) (ta := ta) (tr := tr) (ro := ro) (ot := ot) hn hb hk h1
  obtain ⟨d1, ed1⟩ : ∃ z, z = dtM (TnM n Bm 1 4) := ⟨_, rfl⟩
  rw [← ed1] at hk1 h1
  generalize thM _ _ = a1 at hk1
  obtain ⟨un3, bo3, ta3, tr3, ro3, hk3⟩ := m_mixed0_4_0 (l := l) (D := D) (ca := ca) (ad := ad) (vs := vs) (wo := d1) (un := un1) (h := h) (bo := bo1) (ta := ta1) (tr := tr1) (ro := ro1) (ot := ot) hn hb hk h2
  obtain ⟨d2, ed2⟩ : ∃ z, z = dtM (TnM n Bm 0 4) := ⟨_, rfl⟩
  rw [← ed2] at hk3 h2
  refine ⟨d2, un3, bo3, ta3, tr3, ro3, ?_⟩
  refine PX3_blame (Nat.le_of_ble_eq_true rfl) ?_
  intro G hT hC hR
  refine mB hT 6 rfl ?_
  refine hC.1 _ [_, _, _] _ _ _ _ (m_in_t (by decide) ((le_pred (by omega)).mpr (ofNat_lt (i := 4) hv (by omega)))) rfl (Nat.le_of_ble_eq_true rfl) rfl ?_
  refine mB hT 2 rfl ?_
  refine hC.2.1 _ [_] _ _ _ _ (m_isBasket_t hb) rfl (Nat.le_of_ble_eq_true rfl) rfl ?_
  refine mB hT 2 rfl ?_
  refine hC.2.2.1 _ [_] _ _ _ _ (m_isStuff_t hk) rfl (Nat.le_of_ble_eq_true rfl) rfl ?_
  refine mB hT 3 rfl ?_
  refine hC.2.2.2.1 _ 0 [_] _ _ _ _ _ (m_isMaking_t (i := 0) hi hn) rfl rfl (Nat.le_of_ble_eq_true rfl) rfl ?_
  refine mB hT 8 rfl ?_
  refine hC.2.2.2.2.1 _ 0 [_, _, _, _] _ _ _ _ _ (hk1) rfl rfl (Nat.le_of_ble_eq_true rfl) rfl ?_
  refine mB hT 6 rfl ?_
  refine mIf (fun hp => absurd hp (fun q => h1 (lc_eq.mp q))) (fun _ => ?_)
  refine mB hT 5 rfl ?_
  refine hC.2.2.2.2.2 _ 0 [_, _, _, _] _ _ _ _ _ (hk3) rfl rfl (Nat.le_of_ble_eq_true rfl) rfl ?_
  refine mB hT 6 rfl ?_
  refine mIf (fun _ => ?_) (fun hn => absurd (lc_eq.mpr h2) hn)
  refine mNf (lv2 := [(7, .long 0), (5, .long a1), (0, .ref 0), (1, .int 4), (2, .int (Int32.ofNat b)), (3, .int (Int32.ofNat k)), (4, .int 0)]) (st2 := []) rfl rfl ?_
  refine mB hT 2 rfl ?_
  exact hR _ (by decide) _ _ _ rfl rfl
set_option maxRecDepth 20000 in
theorem m_blame_C_4_0 {n vs : Nat} {wo un h : Int64} {bo : Nat → Int32} {ta tr ro ot : Nat → Int64} {Bm : Nat → Nat → Nat → Int32} {bk : Nat → Nat → Int32} (hv : 4 < vs) (hvs : vs ≤ 6) (hi : 0 < n) (hn : n ≤ 4) {b : Nat} (hb : b < 4) {k : Nat} (hk : k < 3) (h1 : ¬ dtM (TnM n Bm 1 4) = 0) (h2 : ¬ dtM (TnM n Bm 0 4) = 0) : ∃ (wo4 un4 : Int64) (bo4 : Nat → Int32) (ta4 tr4 ro4 : Nat → Int64), KX3_blame l D ca ad [.ref 0, .int 4, .int (Int32.ofNat b), .int (Int32.ofNat k), .int 0] (MW (Int32.ofNat n) (Int32.ofNat vs) wo un h bo ta tr ro ot Bm bk) (some (.long ((thM (smG n (fun i s => emM (Bm (bkM 1 4 i) i) k s) (rdM n (TnM n Bm 1 4) (dtM (TnM n Bm 1 4)) (fun j => (bk b j).toInt64)) 1) (absX (dtM (TnM n Bm 1 4)))) - (thM (smG n (fun i s => emM (Bm (bkM 0 4 i) i) k s) (rdM n (TnM n Bm 0 4) (dtM (TnM n Bm 0 4)) (fun j => (bk b j).toInt64)) 1) (absX (dtM (TnM n Bm 0 4))))))) (MW (Int32.ofNat n) (Int32.ofNat vs) wo4 un4 h bo4 ta4 tr4 ro4 ot Bm bk) := by
  obtain ⟨a1, ea1⟩ : ∃ z, z = (thM (smG n (fun i s => emM (Bm (bkM 1 4 i) i) k s) (rdM n (TnM n Bm 1 4) (dtM (TnM n Bm 1 4)) (fun j => (bk b j).toInt64)) 1) (absX (dtM (TnM n Bm 1 4)))) := ⟨_, rfl⟩
  obtain ⟨a2, ea2⟩ : ∃ z, z = (thM (smG n (fun i s => emM (Bm (bkM 0 4 i) i) k s) (rdM n (TnM n Bm 0 4) (dtM (TnM n Bm 0 4)) (fun j => (bk b j).toInt64)) 1) (absX (dtM (TnM n Bm 0 4)))) := ⟨_, rfl⟩
  obtain ⟨un1, bo1, ta1, tr1, ro1, hk1⟩ := m_mixed1_4_1 (l := l) (D := D) (ca := ca) (ad := ad) (vs := vs) (wo := wo) (un := un) (h := h) (bo := bo) (ta := ta) (tr := tr) (ro := ro) (ot := ot) hn hb hk h1
  rw [← ea1] at hk1
  obtain ⟨d1, ed1⟩ : ∃ z, z = dtM (TnM n Bm 1 4) := ⟨_, rfl⟩
  rw [← ed1] at hk1 h1
  obtain ⟨un3, bo3, ta3, tr3, ro3, hk3⟩ := m_mixed1_4_0 (l := l) (D := D) (ca := ca) (ad := ad) (vs := vs) (wo := d1) (un := un1) (h := h) (bo := bo1) (ta := ta1) (tr := tr1) (ro := ro1) (ot := ot) hn hb hk h2
  rw [← ea2] at hk3
  obtain ⟨d2, ed2⟩ : ∃ z, z = dtM (TnM n Bm 0 4) := ⟨_, rfl⟩
  rw [← ed2] at hk3 h2
  rw [← ea1, ← ea2]
  refine ⟨d2, un3, bo3, ta3, tr3, ro3, ?_⟩
  refine PX3_blame (Nat.le_of_ble_eq_true rfl) ?_
  intro G hT hC hR
  refine mB hT 6 rfl ?_
  refine hC.1 _ [_, _, _] _ _ _ _ (m_in_t (by decide) ((le_pred (by omega)).mpr (ofNat_lt (i := 4) hv (by omega)))) rfl (Nat.le_of_ble_eq_true rfl) rfl ?_
  refine mB hT 2 rfl ?_
  refine hC.2.1 _ [_] _ _ _ _ (m_isBasket_t hb) rfl (Nat.le_of_ble_eq_true rfl) rfl ?_
  refine mB hT 2 rfl ?_
  refine hC.2.2.1 _ [_] _ _ _ _ (m_isStuff_t hk) rfl (Nat.le_of_ble_eq_true rfl) rfl ?_
  refine mB hT 3 rfl ?_
  refine hC.2.2.2.1 _ 0 [_] _ _ _ _ _ (m_isMaking_t (i := 0) hi hn) rfl rfl (Nat.le_of_ble_eq_true rfl) rfl ?_
  refine mB hT 8 rfl ?_
  refine hC.2.2.2.2.1 _ 0 [_, _, _, _] _ _ _ _ _ (hk1) rfl rfl (Nat.le_of_ble_eq_true rfl) rfl ?_
  refine mB hT 6 rfl ?_
  refine mIf (fun hp => absurd hp (fun q => h1 (lc_eq.mp q))) (fun _ => ?_)
  refine mB hT 5 rfl ?_
  refine hC.2.2.2.2.2 _ 0 [_, _, _, _] _ _ _ _ _ (hk3) rfl rfl (Nat.le_of_ble_eq_true rfl) rfl ?_
  refine mB hT 6 rfl ?_
  refine mIf (fun hp => absurd hp (fun q => h2 (lc_eq.mp q))) (fun _ => ?_)
  refine mNf (lv2 := [(7, .long a2), (5, .long a1), (0, .ref 0), (1, .int 4), (2, .int (Int32.ofNat b)), (3, .int (Int32.ofNat k)), (4, .int 0)]) (st2 := []) rfl rfl ?_
  refine mB hT 3 rfl ?_
  exact hR _ (by decide) _ _ _ rfl rfl
set_option maxRecDepth 20000 in
theorem m_blame_A_4_1 {n vs : Nat} {wo un h : Int64} {bo : Nat → Int32} {ta tr ro ot : Nat → Int64} {Bm : Nat → Nat → Nat → Int32} {bk : Nat → Nat → Int32} (hv : 4 < vs) (hvs : vs ≤ 6) (hi : 1 < n) (hn : n ≤ 4) {b : Nat} (hb : b < 4) {k : Nat} (hk : k < 3) (h1 : dtM (TnM n Bm 2 4) = 0) : ∃ (wo4 un4 : Int64) (bo4 : Nat → Int32) (ta4 tr4 ro4 : Nat → Int64), KX3_blame l D ca ad [.ref 0, .int 4, .int (Int32.ofNat b), .int (Int32.ofNat k), .int 1] (MW (Int32.ofNat n) (Int32.ofNat vs) wo un h bo ta tr ro ot Bm bk) (some (.long (-9000000000000000004))) (MW (Int32.ofNat n) (Int32.ofNat vs) wo4 un4 h bo4 ta4 tr4 ro4 ot Bm bk) := by
  obtain ⟨un1, bo1, ta1, tr1, ro1, hk1⟩ := m_mixed0_4_2 (l := l) (D := D) (ca := ca) (ad := ad) (vs := vs) (wo := wo) (un := un) (h := h) (bo := bo) (ta := ta) (tr := tr) (ro := ro) (ot := ot) hn hb hk h1
  obtain ⟨d1, ed1⟩ : ∃ z, z = dtM (TnM n Bm 2 4) := ⟨_, rfl⟩
  rw [← ed1] at hk1 h1
  refine ⟨d1, un1, bo1, ta1, tr1, ro1, ?_⟩
  refine PX3_blame (Nat.le_of_ble_eq_true rfl) ?_
  intro G hT hC hR
  refine mB hT 6 rfl ?_
  refine hC.1 _ [_, _, _] _ _ _ _ (m_in_t (by decide) ((le_pred (by omega)).mpr (ofNat_lt (i := 4) hv (by omega)))) rfl (Nat.le_of_ble_eq_true rfl) rfl ?_
  refine mB hT 2 rfl ?_
  refine hC.2.1 _ [_] _ _ _ _ (m_isBasket_t hb) rfl (Nat.le_of_ble_eq_true rfl) rfl ?_
  refine mB hT 2 rfl ?_
  refine hC.2.2.1 _ [_] _ _ _ _ (m_isStuff_t hk) rfl (Nat.le_of_ble_eq_true rfl) rfl ?_
  refine mB hT 3 rfl ?_
  refine hC.2.2.2.1 _ 0 [_] _ _ _ _ _ (m_isMaking_t (i := 1) hi hn) rfl rfl (Nat.le_of_ble_eq_true rfl) rfl ?_
  refine mB hT 8 rfl ?_
  refine hC.2.2.2.2.1 _ 0 [_, _, _, _] _ _ _ _ _ (hk1) rfl rfl (Nat.le_of_ble_eq_true rfl) rfl ?_
  refine mB hT 6 rfl ?_
  refine mIf (fun _ => ?_) (fun hn => absurd (lc_eq.mpr h1) hn)
  refine mB hT 1 rfl ?_
  exact hR _ (by decide) _ _ _ rfl rfl
set_option maxRecDepth 20000 in
theorem m_blame_B_4_1 {n vs : Nat} {wo un h : Int64} {bo : Nat → Int32} {ta tr ro ot : Nat → Int64} {Bm : Nat → Nat → Nat → Int32} {bk : Nat → Nat → Int32} (hv : 4 < vs) (hvs : vs ≤ 6) (hi : 1 < n) (hn : n ≤ 4) {b : Nat} (hb : b < 4) {k : Nat} (hk : k < 3) (h1 : ¬ dtM (TnM n Bm 2 4) = 0) (h2 : dtM (TnM n Bm 1 4) = 0) : ∃ (wo4 un4 : Int64) (bo4 : Nat → Int32) (ta4 tr4 ro4 : Nat → Int64), KX3_blame l D ca ad [.ref 0, .int 4, .int (Int32.ofNat b), .int (Int32.ofNat k), .int 1] (MW (Int32.ofNat n) (Int32.ofNat vs) wo un h bo ta tr ro ot Bm bk) (some (.long (-9000000000000000004))) (MW (Int32.ofNat n) (Int32.ofNat vs) wo4 un4 h bo4 ta4 tr4 ro4 ot Bm bk) := by
  obtain ⟨un1, bo1, ta1, tr1, ro1, hk1⟩ := m_mixed1_4_2 (l := l) (D := D) (ca := ca) (ad := ad) (vs := vs) (wo := wo) (un := un) (h := h) (bo := bo) (ta := ta) (tr := tr) (ro := ro) (ot := ot) hn hb hk h1
  obtain ⟨d1, ed1⟩ : ∃ z, z = dtM (TnM n Bm 2 4) := ⟨_, rfl⟩
  rw [← ed1] at hk1 h1
  generalize thM _ _ = a1 at hk1
  obtain ⟨un3, bo3, ta3, tr3, ro3, hk3⟩ := m_mixed0_4_1 (l := l) (D := D) (ca := ca) (ad := ad) (vs := vs) (wo := d1) (un := un1) (h := h) (bo := bo1) (ta := ta1) (tr := tr1) (ro := ro1) (ot := ot) hn hb hk h2
  obtain ⟨d2, ed2⟩ : ∃ z, z = dtM (TnM n Bm 1 4) := ⟨_, rfl⟩
  rw [← ed2] at hk3 h2
  refine ⟨d2, un3, bo3, ta3, tr3, ro3, ?_⟩
  refine PX3_blame (Nat.le_of_ble_eq_true rfl) ?_
  intro G hT hC hR
  refine mB hT 6 rfl ?_
  refine hC.1 _ [_, _, _] _ _ _ _ (m_in_t (by decide) ((le_pred (by omega)).mpr (ofNat_lt (i := 4) hv (by omega)))) rfl (Nat.le_of_ble_eq_true rfl) rfl ?_
  refine mB hT 2 rfl ?_
  refine hC.2.1 _ [_] _ _ _ _ (m_isBasket_t hb) rfl (Nat.le_of_ble_eq_true rfl) rfl ?_
  refine mB hT 2 rfl ?_
  refine hC.2.2.1 _ [_] _ _ _ _ (m_isStuff_t hk) rfl (Nat.le_of_ble_eq_true rfl) rfl ?_
  refine mB hT 3 rfl ?_
  refine hC.2.2.2.1 _ 0 [_] _ _ _ _ _ (m_isMaking_t (i := 1) hi hn) rfl rfl (Nat.le_of_ble_eq_true rfl) rfl ?_
  refine mB hT 8 rfl ?_
  refine hC.2.2.2.2.1 _ 0 [_, _, _, _] _ _ _ _ _ (hk1) rfl rfl (Nat.le_of_ble_eq_true rfl) rfl ?_
  refine mB hT 6 rfl ?_
  refine mIf (fun hp => absurd hp (fun q => h1 (lc_eq.mp q))) (fun _ => ?_)
  refine mB hT 5 rfl ?_
  refine hC.2.2.2.2.2 _ 0 [_, _, _, _] _ _ _ _ _ (hk3) rfl rfl (Nat.le_of_ble_eq_true rfl) rfl ?_
  refine mB hT 6 rfl ?_
  refine mIf (fun _ => ?_) (fun hn => absurd (lc_eq.mpr h2) hn)
  refine mNf (lv2 := [(7, .long 0), (5, .long a1), (0, .ref 0), (1, .int 4), (2, .int (Int32.ofNat b)), (3, .int (Int32.ofNat k)), (4, .int 1)]) (st2 := []) rfl rfl ?_
  refine mB hT 2 rfl ?_
  exact hR _ (by decide) _ _ _ rfl rfl
set_option maxRecDepth 20000 in
theorem m_blame_C_4_1 {n vs : Nat} {wo un h : Int64} {bo : Nat → Int32} {ta tr ro ot : Nat → Int64} {Bm : Nat → Nat → Nat → Int32} {bk : Nat → Nat → Int32} (hv : 4 < vs) (hvs : vs ≤ 6) (hi : 1 < n) (hn : n ≤ 4) {b : Nat} (hb : b < 4) {k : Nat} (hk : k < 3) (h1 : ¬ dtM (TnM n Bm 2 4) = 0) (h2 : ¬ dtM (TnM n Bm 1 4) = 0) : ∃ (wo4 un4 : Int64) (bo4 : Nat → Int32) (ta4 tr4 ro4 : Nat → Int64), KX3_blame l D ca ad [.ref 0, .int 4, .int (Int32.ofNat b), .int (Int32.ofNat k), .int 1] (MW (Int32.ofNat n) (Int32.ofNat vs) wo un h bo ta tr ro ot Bm bk) (some (.long ((thM (smG n (fun i s => emM (Bm (bkM 2 4 i) i) k s) (rdM n (TnM n Bm 2 4) (dtM (TnM n Bm 2 4)) (fun j => (bk b j).toInt64)) 1) (absX (dtM (TnM n Bm 2 4)))) - (thM (smG n (fun i s => emM (Bm (bkM 1 4 i) i) k s) (rdM n (TnM n Bm 1 4) (dtM (TnM n Bm 1 4)) (fun j => (bk b j).toInt64)) 1) (absX (dtM (TnM n Bm 1 4))))))) (MW (Int32.ofNat n) (Int32.ofNat vs) wo4 un4 h bo4 ta4 tr4 ro4 ot Bm bk) := by
  obtain ⟨a1, ea1⟩ : ∃ z, z = (thM (smG n (fun i s => emM (Bm (bkM 2 4 i) i) k s) (rdM n (TnM n Bm 2 4) (dtM (TnM n Bm 2 4)) (fun j => (bk b j).toInt64)) 1) (absX (dtM (TnM n Bm 2 4)))) := ⟨_, rfl⟩
  obtain ⟨a2, ea2⟩ : ∃ z, z = (thM (smG n (fun i s => emM (Bm (bkM 1 4 i) i) k s) (rdM n (TnM n Bm 1 4) (dtM (TnM n Bm 1 4)) (fun j => (bk b j).toInt64)) 1) (absX (dtM (TnM n Bm 1 4)))) := ⟨_, rfl⟩
  obtain ⟨un1, bo1, ta1, tr1, ro1, hk1⟩ := m_mixed1_4_2 (l := l) (D := D) (ca := ca) (ad := ad) (vs := vs) (wo := wo) (un := un) (h := h) (bo := bo) (ta := ta) (tr := tr) (ro := ro) (ot := ot) hn hb hk h1
  rw [← ea1] at hk1
  obtain ⟨d1, ed1⟩ : ∃ z, z = dtM (TnM n Bm 2 4) := ⟨_, rfl⟩
  rw [← ed1] at hk1 h1
  obtain ⟨un3, bo3, ta3, tr3, ro3, hk3⟩ := m_mixed1_4_1 (l := l) (D := D) (ca := ca) (ad := ad) (vs := vs) (wo := d1) (un := un1) (h := h) (bo := bo1) (ta := ta1) (tr := tr1) (ro := ro1) (ot := ot) hn hb hk h2
  rw [← ea2] at hk3
  obtain ⟨d2, ed2⟩ : ∃ z, z = dtM (TnM n Bm 1 4) := ⟨_, rfl⟩
  rw [← ed2] at hk3 h2
  rw [← ea1, ← ea2]
  refine ⟨d2, un3, bo3, ta3, tr3, ro3, ?_⟩
  refine PX3_blame (Nat.le_of_ble_eq_true rfl) ?_
  intro G hT hC hR
  refine mB hT 6 rfl ?_
  refine hC.1 _ [_, _, _] _ _ _ _ (m_in_t (by decide) ((le_pred (by omega)).mpr (ofNat_lt (i := 4) hv (by omega)))) rfl (Nat.le_of_ble_eq_true rfl) rfl ?_
  refine mB hT 2 rfl ?_
  refine hC.2.1 _ [_] _ _ _ _ (m_isBasket_t hb) rfl (Nat.le_of_ble_eq_true rfl) rfl ?_
  refine mB hT 2 rfl ?_
  refine hC.2.2.1 _ [_] _ _ _ _ (m_isStuff_t hk) rfl (Nat.le_of_ble_eq_true rfl) rfl ?_
  refine mB hT 3 rfl ?_
  refine hC.2.2.2.1 _ 0 [_] _ _ _ _ _ (m_isMaking_t (i := 1) hi hn) rfl rfl (Nat.le_of_ble_eq_true rfl) rfl ?_
  refine mB hT 8 rfl ?_
  refine hC.2.2.2.2.1 _ 0 [_, _, _, _] _ _ _ _ _ (hk1) rfl rfl (Nat.le_of_ble_eq_true rfl) rfl ?_
  refine mB hT 6 rfl ?_
  refine mIf (fun hp => absurd hp (fun q => h1 (lc_eq.mp q))) (fun _ => ?_)
  refine mB hT 5 rfl ?_
  refine hC.2.2.2.2.2 _ 0 [_, _, _, _] _ _ _ _ _ (hk3) rfl rfl (Nat.le_of_ble_eq_true rfl) rfl ?_
  refine mB hT 6 rfl ?_
  refine mIf (fun hp => absurd hp (fun q => h2 (lc_eq.mp q))) (fun _ => ?_)
  refine mNf (lv2 := [(7, .long a2), (5, .long a1), (0, .ref 0), (1, .int 4), (2, .int (Int32.ofNat b)), (3, .int (Int32.ofNat k)), (4, .int 1)]) (st2 := []) rfl rfl ?_
  refine mB hT 3 rfl ?_
  exact hR _ (by decide) _ _ _ rfl rfl
set_option maxRecDepth 20000 in
theorem m_blame_A_4_2 {n vs : Nat} {wo un h : Int64} {bo : Nat → Int32} {ta tr ro ot : Nat → Int64} {Bm : Nat → Nat → Nat → Int32} {bk : Nat → Nat → Int32} (hv : 4 < vs) (hvs : vs ≤ 6) (hi : 2 < n) (hn : n ≤ 4) {b : Nat} (hb : b < 4) {k : Nat} (hk : k < 3) (h1 : dtM (TnM n Bm 3 4) = 0) : ∃ (wo4 un4 : Int64) (bo4 : Nat → Int32) (ta4 tr4 ro4 : Nat → Int64), KX3_blame l D ca ad [.ref 0, .int 4, .int (Int32.ofNat b), .int (Int32.ofNat k), .int 2] (MW (Int32.ofNat n) (Int32.ofNat vs) wo un h bo ta tr ro ot Bm bk) (some (.long (-9000000000000000004))) (MW (Int32.ofNat n) (Int32.ofNat vs) wo4 un4 h bo4 ta4 tr4 ro4 ot Bm bk) := by
  obtain ⟨un1, bo1, ta1, tr1, ro1, hk1⟩ := m_mixed0_4_3 (l := l) (D := D) (ca := ca) (ad := ad) (vs := vs) (wo := wo) (un := un) (h := h) (bo := bo) (ta := ta) (tr := tr) (ro := ro) (ot := ot) hn hb hk h1
  obtain ⟨d1, ed1⟩ : ∃ z, z = dtM (TnM n Bm 3 4) := ⟨_, rfl⟩
  rw [← ed1] at hk1 h1
  refine ⟨d1, un1, bo1, ta1, tr1, ro1, ?_⟩
  refine PX3_blame (Nat.le_of_ble_eq_true rfl) ?_
  intro G hT hC hR
  refine mB hT 6 rfl ?_
  refine hC.1 _ [_, _, _] _ _ _ _ (m_in_t (by decide) ((le_pred (by omega)).mpr (ofNat_lt (i := 4) hv (by omega)))) rfl (Nat.le_of_ble_eq_true rfl) rfl ?_
  refine mB hT 2 rfl ?_
  refine hC.2.1 _ [_] _ _ _ _ (m_isBasket_t hb) rfl (Nat.le_of_ble_eq_true rfl) rfl ?_
  refine mB hT 2 rfl ?_
  refine hC.2.2.1 _ [_] _ _ _ _ (m_isStuff_t hk) rfl (Nat.le_of_ble_eq_true rfl) rfl ?_
  refine mB hT 3 rfl ?_
  refine hC.2.2.2.1 _ 0 [_] _ _ _ _ _ (m_isMaking_t (i := 2) hi hn) rfl rfl (Nat.le_of_ble_eq_true rfl) rfl ?_
  refine mB hT 8 rfl ?_
  refine hC.2.2.2.2.1 _ 0 [_, _, _, _] _ _ _ _ _ (hk1) rfl rfl (Nat.le_of_ble_eq_true rfl) rfl ?_
  refine mB hT 6 rfl ?_
  refine mIf (fun _ => ?_) (fun hn => absurd (lc_eq.mpr h1) hn)
  refine mB hT 1 rfl ?_
  exact hR _ (by decide) _ _ _ rfl rfl
set_option maxRecDepth 20000 in
theorem m_blame_B_4_2 {n vs : Nat} {wo un h : Int64} {bo : Nat → Int32} {ta tr ro ot : Nat → Int64} {Bm : Nat → Nat → Nat → Int32} {bk : Nat → Nat → Int32} (hv : 4 < vs) (hvs : vs ≤ 6) (hi : 2 < n) (hn : n ≤ 4) {b : Nat} (hb : b < 4) {k : Nat} (hk : k < 3) (h1 : ¬ dtM (TnM n Bm 3 4) = 0) (h2 : dtM (TnM n Bm 2 4) = 0) : ∃ (wo4 un4 : Int64) (bo4 : Nat → Int32) (ta4 tr4 ro4 : Nat → Int64), KX3_blame l D ca ad [.ref 0, .int 4, .int (Int32.ofNat b), .int (Int32.ofNat k), .int 2] (MW (Int32.ofNat n) (Int32.ofNat vs) wo un h bo ta tr ro ot Bm bk) (some (.long (-9000000000000000004))) (MW (Int32.ofNat n) (Int32.ofNat vs) wo4 un4 h bo4 ta4 tr4 ro4 ot Bm bk) := by
  obtain ⟨un1, bo1, ta1, tr1, ro1, hk1⟩ := m_mixed1_4_3 (l := l) (D := D) (ca := ca) (ad := ad) (vs := vs) (wo := wo) (un := un) (h := h) (bo := bo) (ta := ta) (tr := tr) (ro := ro) (ot := ot) hn hb hk h1
  obtain ⟨d1, ed1⟩ : ∃ z, z = dtM (TnM n Bm 3 4) := ⟨_, rfl⟩
  rw [← ed1] at hk1 h1
  generalize thM _ _ = a1 at hk1
  obtain ⟨un3, bo3, ta3, tr3, ro3, hk3⟩ := m_mixed0_4_2 (l := l) (D := D) (ca := ca) (ad := ad) (vs := vs) (wo := d1) (un := un1) (h := h) (bo := bo1) (ta := ta1) (tr := tr1) (ro := ro1) (ot := ot) hn hb hk h2
  obtain ⟨d2, ed2⟩ : ∃ z, z = dtM (TnM n Bm 2 4) := ⟨_, rfl⟩
  rw [← ed2] at hk3 h2
  refine ⟨d2, un3, bo3, ta3, tr3, ro3, ?_⟩
  refine PX3_blame (Nat.le_of_ble_eq_true rfl) ?_
  intro G hT hC hR
  refine mB hT 6 rfl ?_
  refine hC.1 _ [_, _, _] _ _ _ _ (m_in_t (by decide) ((le_pred (by omega)).mpr (ofNat_lt (i := 4) hv (by omega)))) rfl (Nat.le_of_ble_eq_true rfl) rfl ?_
  refine mB hT 2 rfl ?_
  refine hC.2.1 _ [_] _ _ _ _ (m_isBasket_t hb) rfl (Nat.le_of_ble_eq_true rfl) rfl ?_
  refine mB hT 2 rfl ?_
  refine hC.2.2.1 _ [_] _ _ _ _ (m_isStuff_t hk) rfl (Nat.le_of_ble_eq_true rfl) rfl ?_
  refine mB hT 3 rfl ?_
  refine hC.2.2.2.1 _ 0 [_] _ _ _ _ _ (m_isMaking_t (i := 2) hi hn) rfl rfl (Nat.le_of_ble_eq_true rfl) rfl ?_
  refine mB hT 8 rfl ?_
  refine hC.2.2.2.2.1 _ 0 [_, _, _, _] _ _ _ _ _ (hk1) rfl rfl (Nat.le_of_ble_eq_true rfl) rfl ?_
  refine mB hT 6 rfl ?_
  refine mIf (fun hp => absurd hp (fun q => h1 (lc_eq.mp q))) (fun _ => ?_)
  refine mB hT 5 rfl ?_
  refine hC.2.2.2.2.2 _ 0 [_, _, _, _] _ _ _ _ _ (hk3) rfl rfl (Nat.le_of_ble_eq_true rfl) rfl ?_
  refine mB hT 6 rfl ?_
  refine mIf (fun _ => ?_) (fun hn => absurd (lc_eq.mpr h2) hn)
  refine mNf (lv2 := [(7, .long 0), (5, .long a1), (0, .ref 0), (1, .int 4), (2, .int (Int32.ofNat b)), (3, .int (Int32.ofNat k)), (4, .int 2)]) (st2 := []) rfl rfl ?_
  refine mB hT 2 rfl ?_
  exact hR _ (by decide) _ _ _ rfl rfl
set_option maxRecDepth 20000 in
theorem m_blame_C_4_2 {n vs : Nat} {wo un h : Int64} {bo : Nat → Int32} {ta tr ro ot : Nat → Int64} {Bm : Nat → Nat → Nat → Int32} {bk : Nat → Nat → Int32} (hv : 4 < vs) (hvs : vs ≤ 6) (hi : 2 < n) (hn : n ≤ 4) {b : Nat} (hb : b < 4) {k : Nat} (hk : k < 3) (h1 : ¬ dtM (TnM n Bm 3 4) = 0) (h2 : ¬ dtM (TnM n Bm 2 4) = 0) : ∃ (wo4 un4 : Int64) (bo4 : Nat → Int32) (ta4 tr4 ro4 : Nat → Int64), KX3_blame l D ca ad [.ref 0, .int 4, .int (Int32.ofNat b), .int (Int32.ofNat k), .int 2] (MW (Int32.ofNat n) (Int32.ofNat vs) wo un h bo ta tr ro ot Bm bk) (some (.long ((thM (smG n (fun i s => emM (Bm (bkM 3 4 i) i) k s) (rdM n (TnM n Bm 3 4) (dtM (TnM n Bm 3 4)) (fun j => (bk b j).toInt64)) 1) (absX (dtM (TnM n Bm 3 4)))) - (thM (smG n (fun i s => emM (Bm (bkM 2 4 i) i) k s) (rdM n (TnM n Bm 2 4) (dtM (TnM n Bm 2 4)) (fun j => (bk b j).toInt64)) 1) (absX (dtM (TnM n Bm 2 4))))))) (MW (Int32.ofNat n) (Int32.ofNat vs) wo4 un4 h bo4 ta4 tr4 ro4 ot Bm bk) := by
  obtain ⟨a1, ea1⟩ : ∃ z, z = (thM (smG n (fun i s => emM (Bm (bkM 3 4 i) i) k s) (rdM n (TnM n Bm 3 4) (dtM (TnM n Bm 3 4)) (fun j => (bk b j).toInt64)) 1) (absX (dtM (TnM n Bm 3 4)))) := ⟨_, rfl⟩
  obtain ⟨a2, ea2⟩ : ∃ z, z = (thM (smG n (fun i s => emM (Bm (bkM 2 4 i) i) k s) (rdM n (TnM n Bm 2 4) (dtM (TnM n Bm 2 4)) (fun j => (bk b j).toInt64)) 1) (absX (dtM (TnM n Bm 2 4)))) := ⟨_, rfl⟩
  obtain ⟨un1, bo1, ta1, tr1, ro1, hk1⟩ := m_mixed1_4_3 (l := l) (D := D) (ca := ca) (ad := ad) (vs := vs) (wo := wo) (un := un) (h := h) (bo := bo) (ta := ta) (tr := tr) (ro := ro) (ot := ot) hn hb hk h1
  rw [← ea1] at hk1
  obtain ⟨d1, ed1⟩ : ∃ z, z = dtM (TnM n Bm 3 4) := ⟨_, rfl⟩
  rw [← ed1] at hk1 h1
  obtain ⟨un3, bo3, ta3, tr3, ro3, hk3⟩ := m_mixed1_4_2 (l := l) (D := D) (ca := ca) (ad := ad) (vs := vs) (wo := d1) (un := un1) (h := h) (bo := bo1) (ta := ta1) (tr := tr1) (ro := ro1) (ot := ot) hn hb hk h2
  rw [← ea2] at hk3
  obtain ⟨d2, ed2⟩ : ∃ z, z = dtM (TnM n Bm 2 4) := ⟨_, rfl⟩
  rw [← ed2] at hk3 h2
  rw [← ea1, ← ea2]
  refine ⟨d2, un3, bo3, ta3, tr3, ro3, ?_⟩
  refine PX3_blame (Nat.le_of_ble_eq_true rfl) ?_
  intro G hT hC hR
  refine mB hT 6 rfl ?_
  refine hC.1 _ [_, _, _] _ _ _ _ (m_in_t (by decide) ((le_pred (by omega)).mpr (ofNat_lt (i := 4) hv (by omega)))) rfl (Nat.le_of_ble_eq_true rfl) rfl ?_
  refine mB hT 2 rfl ?_
  refine hC.2.1 _ [_] _ _ _ _ (m_isBasket_t hb) rfl (Nat.le_of_ble_eq_true rfl) rfl ?_
  refine mB hT 2 rfl ?_
  refine hC.2.2.1 _ [_] _ _ _ _ (m_isStuff_t hk) rfl (Nat.le_of_ble_eq_true rfl) rfl ?_
  refine mB hT 3 rfl ?_
  refine hC.2.2.2.1 _ 0 [_] _ _ _ _ _ (m_isMaking_t (i := 2) hi hn) rfl rfl (Nat.le_of_ble_eq_true rfl) rfl ?_
  refine mB hT 8 rfl ?_
  refine hC.2.2.2.2.1 _ 0 [_, _, _, _] _ _ _ _ _ (hk1) rfl rfl (Nat.le_of_ble_eq_true rfl) rfl ?_
  refine mB hT 6 rfl ?_
  refine mIf (fun hp => absurd hp (fun q => h1 (lc_eq.mp q))) (fun _ => ?_)
  refine mB hT 5 rfl ?_
  refine hC.2.2.2.2.2 _ 0 [_, _, _, _] _ _ _ _ _ (hk3) rfl rfl (Nat.le_of_ble_eq_true rfl) rfl ?_
  refine mB hT 6 rfl ?_
  refine mIf (fun hp => absurd hp (fun q => h2 (lc_eq.mp q))) (fun _ => ?_)
  refine mNf (lv2 := [(7, .long a2), (5, .long a1), (0, .ref 0), (1, .int 4), (2, .int (Int32.ofNat b)), (3, .int (Int32.ofNat k)), (4, .int 2)]) (st2 := []) rfl rfl ?_
  refine mB hT 3 rfl ?_
  exact hR _ (by decide) _ _ _ rfl rfl
set_option maxRecDepth 20000 in
theorem m_blame_A_4_3 {n vs : Nat} {wo un h : Int64} {bo : Nat → Int32} {ta tr ro ot : Nat → Int64} {Bm : Nat → Nat → Nat → Int32} {bk : Nat → Nat → Int32} (hv : 4 < vs) (hvs : vs ≤ 6) (hi : 3 < n) (hn : n ≤ 4) {b : Nat} (hb : b < 4) {k : Nat} (hk : k < 3) (h1 : dtM (TnM n Bm 4 0) = 0) : ∃ (wo4 un4 : Int64) (bo4 : Nat → Int32) (ta4 tr4 ro4 : Nat → Int64), KX3_blame l D ca ad [.ref 0, .int 4, .int (Int32.ofNat b), .int (Int32.ofNat k), .int 3] (MW (Int32.ofNat n) (Int32.ofNat vs) wo un h bo ta tr ro ot Bm bk) (some (.long (-9000000000000000004))) (MW (Int32.ofNat n) (Int32.ofNat vs) wo4 un4 h bo4 ta4 tr4 ro4 ot Bm bk) := by
  obtain ⟨un1, bo1, ta1, tr1, ro1, hk1⟩ := m_mixed0_4_4 (l := l) (D := D) (ca := ca) (ad := ad) (vs := vs) (wo := wo) (un := un) (h := h) (bo := bo) (ta := ta) (tr := tr) (ro := ro) (ot := ot) hn hb hk h1
  obtain ⟨d1, ed1⟩ : ∃ z, z = dtM (TnM n Bm 4 0) := ⟨_, rfl⟩
  rw [← ed1] at hk1 h1
  refine ⟨d1, un1, bo1, ta1, tr1, ro1, ?_⟩
  refine PX3_blame (Nat.le_of_ble_eq_true rfl) ?_
  intro G hT hC hR
  refine mB hT 6 rfl ?_
  refine hC.1 _ [_, _, _] _ _ _ _ (m_in_t (by decide) ((le_pred (by omega)).mpr (ofNat_lt (i := 4) hv (by omega)))) rfl (Nat.le_of_ble_eq_true rfl) rfl ?_
  refine mB hT 2 rfl ?_
  refine hC.2.1 _ [_] _ _ _ _ (m_isBasket_t hb) rfl (Nat.le_of_ble_eq_true rfl) rfl ?_
  refine mB hT 2 rfl ?_
  refine hC.2.2.1 _ [_] _ _ _ _ (m_isStuff_t hk) rfl (Nat.le_of_ble_eq_true rfl) rfl ?_
  refine mB hT 3 rfl ?_
  refine hC.2.2.2.1 _ 0 [_] _ _ _ _ _ (m_isMaking_t (i := 3) hi hn) rfl rfl (Nat.le_of_ble_eq_true rfl) rfl ?_
  refine mB hT 8 rfl ?_
  refine hC.2.2.2.2.1 _ 0 [_, _, _, _] _ _ _ _ _ (hk1) rfl rfl (Nat.le_of_ble_eq_true rfl) rfl ?_
  refine mB hT 6 rfl ?_
  refine mIf (fun _ => ?_) (fun hn => absurd (lc_eq.mpr h1) hn)
  refine mB hT 1 rfl ?_
  exact hR _ (by decide) _ _ _ rfl rfl
set_option maxRecDepth 20000 in
theorem m_blame_B_4_3 {n vs : Nat} {wo un h : Int64} {bo : Nat → Int32} {ta tr ro ot : Nat → Int64} {Bm : Nat → Nat → Nat → Int32} {bk : Nat → Nat → Int32} (hv : 4 < vs) (hvs : vs ≤ 6) (hi : 3 < n) (hn : n ≤ 4) {b : Nat} (hb : b < 4) {k : Nat} (hk : k < 3) (h1 : ¬ dtM (TnM n Bm 4 0) = 0) (h2 : dtM (TnM n Bm 3 4) = 0) : ∃ (wo4 un4 : Int64) (bo4 : Nat → Int32) (ta4 tr4 ro4 : Nat → Int64), KX3_blame l D ca ad [.ref 0, .int 4, .int (Int32.ofNat b), .int (Int32.ofNat k), .int 3] (MW (Int32.ofNat n) (Int32.ofNat vs) wo un h bo ta tr ro ot Bm bk) (some (.long (-9000000000000000004))) (MW (Int32.ofNat n) (Int32.ofNat vs) wo4 un4 h bo4 ta4 tr4 ro4 ot Bm bk) := by
  obtain ⟨un1, bo1, ta1, tr1, ro1, hk1⟩ := m_mixed1_4_4 (l := l) (D := D) (ca := ca) (ad := ad) (vs := vs) (wo := wo) (un := un) (h := h) (bo := bo) (ta := ta) (tr := tr) (ro := ro) (ot := ot) hn hb hk h1
  obtain ⟨d1, ed1⟩ : ∃ z, z = dtM (TnM n Bm 4 0) := ⟨_, rfl⟩
  rw [← ed1] at hk1 h1
  generalize thM _ _ = a1 at hk1
  obtain ⟨un3, bo3, ta3, tr3, ro3, hk3⟩ := m_mixed0_4_3 (l := l) (D := D) (ca := ca) (ad := ad) (vs := vs) (wo := d1) (un := un1) (h := h) (bo := bo1) (ta := ta1) (tr := tr1) (ro := ro1) (ot := ot) hn hb hk h2
  obtain ⟨d2, ed2⟩ : ∃ z, z = dtM (TnM n Bm 3 4) := ⟨_, rfl⟩
  rw [← ed2] at hk3 h2
  refine ⟨d2, un3, bo3, ta3, tr3, ro3, ?_⟩
  refine PX3_blame (Nat.le_of_ble_eq_true rfl) ?_
  intro G hT hC hR
  refine mB hT 6 rfl ?_
  refine hC.1 _ [_, _, _] _ _ _ _ (m_in_t (by decide) ((le_pred (by omega)).mpr (ofNat_lt (i := 4) hv (by omega)))) rfl (Nat.le_of_ble_eq_true rfl) rfl ?_
  refine mB hT 2 rfl ?_
  refine hC.2.1 _ [_] _ _ _ _ (m_isBasket_t hb) rfl (Nat.le_of_ble_eq_true rfl) rfl ?_
  refine mB hT 2 rfl ?_
  refine hC.2.2.1 _ [_] _ _ _ _ (m_isStuff_t hk) rfl (Nat.le_of_ble_eq_true rfl) rfl ?_
  refine mB hT 3 rfl ?_
  refine hC.2.2.2.1 _ 0 [_] _ _ _ _ _ (m_isMaking_t (i := 3) hi hn) rfl rfl (Nat.le_of_ble_eq_true rfl) rfl ?_
  refine mB hT 8 rfl ?_
  refine hC.2.2.2.2.1 _ 0 [_, _, _, _] _ _ _ _ _ (hk1) rfl rfl (Nat.le_of_ble_eq_true rfl) rfl ?_
  refine mB hT 6 rfl ?_
  refine mIf (fun hp => absurd hp (fun q => h1 (lc_eq.mp q))) (fun _ => ?_)
  refine mB hT 5 rfl ?_
  refine hC.2.2.2.2.2 _ 0 [_, _, _, _] _ _ _ _ _ (hk3) rfl rfl (Nat.le_of_ble_eq_true rfl) rfl ?_
  refine mB hT 6 rfl ?_
  refine mIf (fun _ => ?_) (fun hn => absurd (lc_eq.mpr h2) hn)
  refine mNf (lv2 := [(7, .long 0), (5, .long a1), (0, .ref 0), (1, .int 4), (2, .int (Int32.ofNat b)), (3, .int (Int32.ofNat k)), (4, .int 3)]) (st2 := []) rfl rfl ?_
  refine mB hT 2 rfl ?_
  exact hR _ (by decide) _ _ _ rfl rfl
set_option maxRecDepth 20000 in
theorem m_blame_C_4_3 {n vs : Nat} {wo un h : Int64} {bo : Nat → Int32} {ta tr ro ot : Nat → Int64} {Bm : Nat → Nat → Nat → Int32} {bk : Nat → Nat → Int32} (hv : 4 < vs) (hvs : vs ≤ 6) (hi : 3 < n) (hn : n ≤ 4) {b : Nat} (hb : b < 4) {k : Nat} (hk : k < 3) (h1 : ¬ dtM (TnM n Bm 4 0) = 0) (h2 : ¬ dtM (TnM n Bm 3 4) = 0) : ∃ (wo4 un4 : Int64) (bo4 : Nat → Int32) (ta4 tr4 ro4 : Nat → Int64), KX3_blame l D ca ad [.ref 0, .int 4, .int (Int32.ofNat b), .int (Int32.ofNat k), .int 3] (MW (Int32.ofNat n) (Int32.ofNat vs) wo un h bo ta tr ro ot Bm bk) (some (.long ((thM (smG n (fun i s => emM (Bm (bkM 4 0 i) i) k s) (rdM n (TnM n Bm 4 0) (dtM (TnM n Bm 4 0)) (fun j => (bk b j).toInt64)) 1) (absX (dtM (TnM n Bm 4 0)))) - (thM (smG n (fun i s => emM (Bm (bkM 3 4 i) i) k s) (rdM n (TnM n Bm 3 4) (dtM (TnM n Bm 3 4)) (fun j => (bk b j).toInt64)) 1) (absX (dtM (TnM n Bm 3 4))))))) (MW (Int32.ofNat n) (Int32.ofNat vs) wo4 un4 h bo4 ta4 tr4 ro4 ot Bm bk) := by
  obtain ⟨a1, ea1⟩ : ∃ z, z = (thM (smG n (fun i s => emM (Bm (bkM 4 0 i) i) k s) (rdM n (TnM n Bm 4 0) (dtM (TnM n Bm 4 0)) (fun j => (bk b j).toInt64)) 1) (absX (dtM (TnM n Bm 4 0)))) := ⟨_, rfl⟩
  obtain ⟨a2, ea2⟩ : ∃ z, z = (thM (smG n (fun i s => emM (Bm (bkM 3 4 i) i) k s) (rdM n (TnM n Bm 3 4) (dtM (TnM n Bm 3 4)) (fun j => (bk b j).toInt64)) 1) (absX (dtM (TnM n Bm 3 4)))) := ⟨_, rfl⟩
  obtain ⟨un1, bo1, ta1, tr1, ro1, hk1⟩ := m_mixed1_4_4 (l := l) (D := D) (ca := ca) (ad := ad) (vs := vs) (wo := wo) (un := un) (h := h) (bo := bo) (ta := ta) (tr := tr) (ro := ro) (ot := ot) hn hb hk h1
  rw [← ea1] at hk1
  obtain ⟨d1, ed1⟩ : ∃ z, z = dtM (TnM n Bm 4 0) := ⟨_, rfl⟩
  rw [← ed1] at hk1 h1
  obtain ⟨un3, bo3, ta3, tr3, ro3, hk3⟩ := m_mixed1_4_3 (l := l) (D := D) (ca := ca) (ad := ad) (vs := vs) (wo := d1) (un := un1) (h := h) (bo := bo1) (ta := ta1) (tr := tr1) (ro := ro1) (ot := ot) hn hb hk h2
  rw [← ea2] at hk3
  obtain ⟨d2, ed2⟩ : ∃ z, z = dtM (TnM n Bm 3 4) := ⟨_, rfl⟩
  rw [← ed2] at hk3 h2
  rw [← ea1, ← ea2]
  refine ⟨d2, un3, bo3, ta3, tr3, ro3, ?_⟩
  refine PX3_blame (Nat.le_of_ble_eq_true rfl) ?_
  intro G hT hC hR
  refine mB hT 6 rfl ?_
  refine hC.1 _ [_, _, _] _ _ _ _ (m_in_t (by decide) ((le_pred (by omega)).mpr (ofNat_lt (i := 4) hv (by omega)))) rfl (Nat.le_of_ble_eq_true rfl) rfl ?_
  refine mB hT 2 rfl ?_
  refine hC.2.1 _ [_] _ _ _ _ (m_isBasket_t hb) rfl (Nat.le_of_ble_eq_true rfl) rfl ?_
  refine mB hT 2 rfl ?_
  refine hC.2.2.1 _ [_] _ _ _ _ (m_isStuff_t hk) rfl (Nat.le_of_ble_eq_true rfl) rfl ?_
  refine mB hT 3 rfl ?_
  refine hC.2.2.2.1 _ 0 [_] _ _ _ _ _ (m_isMaking_t (i := 3) hi hn) rfl rfl (Nat.le_of_ble_eq_true rfl) rfl ?_
  refine mB hT 8 rfl ?_
  refine hC.2.2.2.2.1 _ 0 [_, _, _, _] _ _ _ _ _ (hk1) rfl rfl (Nat.le_of_ble_eq_true rfl) rfl ?_
  refine mB hT 6 rfl ?_
  refine mIf (fun hp => absurd hp (fun q => h1 (lc_eq.mp q))) (fun _ => ?_)
  refine mB hT 5 rfl ?_
  refine hC.2.2.2.2.2 _ 0 [_, _, _, _] _ _ _ _ _ (hk3) rfl rfl (Nat.le_of_ble_eq_true rfl) rfl ?_
  refine mB hT 6 rfl ?_
  refine mIf (fun hp => absurd hp (fun q => h2 (lc_eq.mp q))) (fun _ => ?_)
  refine mNf (lv2 := [(7, .long a2), (5, .long a1), (0, .ref 0), (1, .int 4), (2, .int (Int32.ofNat b)), (3, .int (Int32.ofNat k)), (4, .int 3)]) (st2 := []) rfl rfl ?_
  refine mB hT 3 rfl ?_
  exact hR _ (by decide) _ _ _ rfl rfl
set_option maxRecDepth 20000 in
theorem m_blame_A_5_0 {n vs : Nat} {wo un h : Int64} {bo : Nat → Int32} {ta tr ro ot : Nat → Int64} {Bm : Nat → Nat → Nat → Int32} {bk : Nat → Nat → Int32} (hv : 5 < vs) (hvs : vs ≤ 6) (hi : 0 < n) (hn : n ≤ 4) {b : Nat} (hb : b < 4) {k : Nat} (hk : k < 3) (h1 : dtM (TnM n Bm 1 5) = 0) : ∃ (wo4 un4 : Int64) (bo4 : Nat → Int32) (ta4 tr4 ro4 : Nat → Int64), KX3_blame l D ca ad [.ref 0, .int 5, .int (Int32.ofNat b), .int (Int32.ofNat k), .int 0] (MW (Int32.ofNat n) (Int32.ofNat vs) wo un h bo ta tr ro ot Bm bk) (some (.long (-9000000000000000004))) (MW (Int32.ofNat n) (Int32.ofNat vs) wo4 un4 h bo4 ta4 tr4 ro4 ot Bm bk) := by
  obtain ⟨un1, bo1, ta1, tr1, ro1, hk1⟩ := m_mixed0_5_1 (l := l) (D := D) (ca := ca) (ad := ad) (vs := vs) (wo := wo) (un := un) (h := h) (bo := bo) (ta := ta) (tr := tr) (ro := ro) (ot := ot) hn hb hk h1
  obtain ⟨d1, ed1⟩ : ∃ z, z = dtM (TnM n Bm 1 5) := ⟨_, rfl⟩
  rw [← ed1] at hk1 h1
  refine ⟨d1, un1, bo1, ta1, tr1, ro1, ?_⟩
  refine PX3_blame (Nat.le_of_ble_eq_true rfl) ?_
  intro G hT hC hR
  refine mB hT 6 rfl ?_
  refine hC.1 _ [_, _, _] _ _ _ _ (m_in_t (by decide) ((le_pred (by omega)).mpr (ofNat_lt (i := 5) hv (by omega)))) rfl (Nat.le_of_ble_eq_true rfl) rfl ?_
  refine mB hT 2 rfl ?_
  refine hC.2.1 _ [_] _ _ _ _ (m_isBasket_t hb) rfl (Nat.le_of_ble_eq_true rfl) rfl ?_
  refine mB hT 2 rfl ?_
  refine hC.2.2.1 _ [_] _ _ _ _ (m_isStuff_t hk) rfl (Nat.le_of_ble_eq_true rfl) rfl ?_
  refine mB hT 3 rfl ?_
  refine hC.2.2.2.1 _ 0 [_] _ _ _ _ _ (m_isMaking_t (i := 0) hi hn) rfl rfl (Nat.le_of_ble_eq_true rfl) rfl ?_
  refine mB hT 8 rfl ?_
  refine hC.2.2.2.2.1 _ 0 [_, _, _, _] _ _ _ _ _ (hk1) rfl rfl (Nat.le_of_ble_eq_true rfl) rfl ?_
  refine mB hT 6 rfl ?_
  refine mIf (fun _ => ?_) (fun hn => absurd (lc_eq.mpr h1) hn)
  refine mB hT 1 rfl ?_
  exact hR _ (by decide) _ _ _ rfl rfl
set_option maxRecDepth 20000 in
theorem m_blame_B_5_0 {n vs : Nat} {wo un h : Int64} {bo : Nat → Int32} {ta tr ro ot : Nat → Int64} {Bm : Nat → Nat → Nat → Int32} {bk : Nat → Nat → Int32} (hv : 5 < vs) (hvs : vs ≤ 6) (hi : 0 < n) (hn : n ≤ 4) {b : Nat} (hb : b < 4) {k : Nat} (hk : k < 3) (h1 : ¬ dtM (TnM n Bm 1 5) = 0) (h2 : dtM (TnM n Bm 0 5) = 0) : ∃ (wo4 un4 : Int64) (bo4 : Nat → Int32) (ta4 tr4 ro4 : Nat → Int64), KX3_blame l D ca ad [.ref 0, .int 5, .int (Int32.ofNat b), .int (Int32.ofNat k), .int 0] (MW (Int32.ofNat n) (Int32.ofNat vs) wo un h bo ta tr ro ot Bm bk) (some (.long (-9000000000000000004))) (MW (Int32.ofNat n) (Int32.ofNat vs) wo4 un4 h bo4 ta4 tr4 ro4 ot Bm bk) := by
  obtain ⟨un1, bo1, ta1, tr1, ro1, hk1⟩ := m_mixed1_5_1 (l := l) (D := D) (ca := ca) (ad := ad) (vs := vs) (wo := wo) (un := un) (h := h) (bo := bo) (ta := ta) (tr := tr) (ro := ro) (ot := ot) hn hb hk h1
  obtain ⟨d1, ed1⟩ : ∃ z, z = dtM (TnM n Bm 1 5) := ⟨_, rfl⟩
  rw [← ed1] at hk1 h1
  generalize thM _ _ = a1 at hk1
  obtain ⟨un3, bo3, ta3, tr3, ro3, hk3⟩ := m_mixed0_5_0 (l := l) (D := D) (ca := ca) (ad := ad) (vs := vs) (wo := d1) (un := un1) (h := h) (bo := bo1) (ta := ta1) (tr := tr1) (ro := ro1) (ot := ot) hn hb hk h2
  obtain ⟨d2, ed2⟩ : ∃ z, z = dtM (TnM n Bm 0 5) := ⟨_, rfl⟩
  rw [← ed2] at hk3 h2
  refine ⟨d2, un3, bo3, ta3, tr3, ro3, ?_⟩
  refine PX3_blame (Nat.le_of_ble_eq_true rfl) ?_
  intro G hT hC hR
  refine mB hT 6 rfl ?_
  refine hC.1 _ [_, _, _] _ _ _ _ (m_in_t (by decide) ((le_pred (by omega)).mpr (ofNat_lt (i := 5) hv (by omega)))) rfl (Nat.le_of_ble_eq_true rfl) rfl ?_
  refine mB hT 2 rfl ?_
  refine hC.2.1 _ [_] _ _ _ _ (m_isBasket_t hb) rfl (Nat.le_of_ble_eq_true rfl) rfl ?_
  refine mB hT 2 rfl ?_
  refine hC.2.2.1 _ [_] _ _ _ _ (m_isStuff_t hk) rfl (Nat.le_of_ble_eq_true rfl) rfl ?_
  refine mB hT 3 rfl ?_
  refine hC.2.2.2.1 _ 0 [_] _ _ _ _ _ (m_isMaking_t (i := 0) hi hn) rfl rfl (Nat.le_of_ble_eq_true rfl) rfl ?_
  refine mB hT 8 rfl ?_
  refine hC.2.2.2.2.1 _ 0 [_, _, _, _] _ _ _ _ _ (hk1) rfl rfl (Nat.le_of_ble_eq_true rfl) rfl ?_
  refine mB hT 6 rfl ?_
  refine mIf (fun hp => absurd hp (fun q => h1 (lc_eq.mp q))) (fun _ => ?_)
  refine mB hT 5 rfl ?_
  refine hC.2.2.2.2.2 _ 0 [_, _, _, _] _ _ _ _ _ (hk3) rfl rfl (Nat.le_of_ble_eq_true rfl) rfl ?_
  refine mB hT 6 rfl ?_
  refine mIf (fun _ => ?_) (fun hn => absurd (lc_eq.mpr h2) hn)
  refine mNf (lv2 := [(7, .long 0), (5, .long a1), (0, .ref 0), (1, .int 5), (2, .int (Int32.ofNat b)), (3, .int (Int32.ofNat k)), (4, .int 0)]) (st2 := []) rfl rfl ?_
  refine mB hT 2 rfl ?_
  exact hR _ (by decide) _ _ _ rfl rfl
set_option maxRecDepth 20000 in
theorem m_blame_C_5_0 {n vs : Nat} {wo un h : Int64} {bo : Nat → Int32} {ta tr ro ot : Nat → Int64} {Bm : Nat → Nat → Nat → Int32} {bk : Nat → Nat → Int32} (hv : 5 < vs) (hvs : vs ≤ 6) (hi : 0 < n) (hn : n ≤ 4) {b : Nat} (hb : b < 4) {k : Nat} (hk : k < 3) (h1 : ¬ dtM (TnM n Bm 1 5) = 0) (h2 : ¬ dtM (TnM n Bm 0 5) = 0) : ∃ (wo4 un4 : Int64) (bo4 : Nat → Int32) (ta4 tr4 ro4 : Nat → Int64), KX3_blame l D ca ad [.ref 0, .int 5, .int (Int32.ofNat b), .int (Int32.ofNat k), .int 0] (MW (Int32.ofNat n) (Int32.ofNat vs) wo un h bo ta tr ro ot Bm bk) (some (.long ((thM (smG n (fun i s => emM (Bm (bkM 1 5 i) i) k s) (rdM n (TnM n Bm 1 5) (dtM (TnM n Bm 1 5)) (fun j => (bk b j).toInt64)) 1) (absX (dtM (TnM n Bm 1 5)))) - (thM (smG n (fun i s => emM (Bm (bkM 0 5 i) i) k s) (rdM n (TnM n Bm 0 5) (dtM (TnM n Bm 0 5)) (fun j => (bk b j).toInt64)) 1) (absX (dtM (TnM n Bm 0 5))))))) (MW (Int32.ofNat n) (Int32.ofNat vs) wo4 un4 h bo4 ta4 tr4 ro4 ot Bm bk) := by
  obtain ⟨a1, ea1⟩ : ∃ z, z = (thM (smG n (fun i s => emM (Bm (bkM 1 5 i) i) k s) (rdM n (TnM n Bm 1 5) (dtM (TnM n Bm 1 5)) (fun j => (bk b j).toInt64)) 1) (absX (dtM (TnM n Bm 1 5)))) := ⟨_, rfl⟩
  obtain ⟨a2, ea2⟩ : ∃ z, z = (thM (smG n (fun i s => emM (Bm (bkM 0 5 i) i) k s) (rdM n (TnM n Bm 0 5) (dtM (TnM n Bm 0 5)) (fun j => (bk b j).toInt64)) 1) (absX (dtM (TnM n Bm 0 5)))) := ⟨_, rfl⟩
  obtain ⟨un1, bo1, ta1, tr1, ro1, hk1⟩ := m_mixed1_5_1 (l := l) (D := D) (ca := ca) (ad := ad) (vs := vs) (wo := wo) (un := un) (h := h) (bo := bo) (ta := ta) (tr := tr) (ro := ro) (ot := ot) hn hb hk h1
  rw [← ea1] at hk1
  obtain ⟨d1, ed1⟩ : ∃ z, z = dtM (TnM n Bm 1 5) := ⟨_, rfl⟩
  rw [← ed1] at hk1 h1
  obtain ⟨un3, bo3, ta3, tr3, ro3, hk3⟩ := m_mixed1_5_0 (l := l) (D := D) (ca := ca) (ad := ad) (vs := vs) (wo := d1) (un := un1) (h := h) (bo := bo1) (ta := ta1) (tr := tr1) (ro := ro1) (ot := ot) hn hb hk h2
  rw [← ea2] at hk3
  obtain ⟨d2, ed2⟩ : ∃ z, z = dtM (TnM n Bm 0 5) := ⟨_, rfl⟩
  rw [← ed2] at hk3 h2
  rw [← ea1, ← ea2]
  refine ⟨d2, un3, bo3, ta3, tr3, ro3, ?_⟩
  refine PX3_blame (Nat.le_of_ble_eq_true rfl) ?_
  intro G hT hC hR
  refine mB hT 6 rfl ?_
  refine hC.1 _ [_, _, _] _ _ _ _ (m_in_t (by decide) ((le_pred (by omega)).mpr (ofNat_lt (i := 5) hv (by omega)))) rfl (Nat.le_of_ble_eq_true rfl) rfl ?_
  refine mB hT 2 rfl ?_
  refine hC.2.1 _ [_] _ _ _ _ (m_isBasket_t hb) rfl (Nat.le_of_ble_eq_true rfl) rfl ?_
  refine mB hT 2 rfl ?_
  refine hC.2.2.1 _ [_] _ _ _ _ (m_isStuff_t hk) rfl (Nat.le_of_ble_eq_true rfl) rfl ?_
  refine mB hT 3 rfl ?_
  refine hC.2.2.2.1 _ 0 [_] _ _ _ _ _ (m_isMaking_t (i := 0) hi hn) rfl rfl (Nat.le_of_ble_eq_true rfl) rfl ?_
  refine mB hT 8 rfl ?_
  refine hC.2.2.2.2.1 _ 0 [_, _, _, _] _ _ _ _ _ (hk1) rfl rfl (Nat.le_of_ble_eq_true rfl) rfl ?_
  refine mB hT 6 rfl ?_
  refine mIf (fun hp => absurd hp (fun q => h1 (lc_eq.mp q))) (fun _ => ?_)
  refine mB hT 5 rfl ?_
  refine hC.2.2.2.2.2 _ 0 [_, _, _, _] _ _ _ _ _ (hk3) rfl rfl (Nat.le_of_ble_eq_true rfl) rfl ?_
  refine mB hT 6 rfl ?_
  refine mIf (fun hp => absurd hp (fun q => h2 (lc_eq.mp q))) (fun _ => ?_)
  refine mNf (lv2 := [(7, .long a2), (5, .long a1), (0, .ref 0), (1, .int 5), (2, .int (Int32.ofNat b)), (3, .int (Int32.ofNat k)), (4, .int 0)]) (st2 := []) rfl rfl ?_
  refine mB hT 3 rfl ?_
  exact hR _ (by decide) _ _ _ rfl rfl
set_option maxRecDepth 20000 in
theorem m_blame_A_5_1 {n vs : Nat} {wo un h : Int64} {bo : Nat → Int32} {ta tr ro ot : Nat → Int64} {Bm : Nat → Nat → Nat → Int32} {bk : Nat → Nat → Int32} (hv : 5 < vs) (hvs : vs ≤ 6) (hi : 1 < n) (hn : n ≤ 4) {b : Nat} (hb : b < 4) {k : Nat} (hk : k < 3) (h1 : dtM (TnM n Bm 2 5) = 0) : ∃ (wo4 un4 : Int64) (bo4 : Nat → Int32) (ta4 tr4 ro4 : Nat → Int64), KX3_blame l D ca ad [.ref 0, .int 5, .int (Int32.ofNat b), .int (Int32.ofNat k), .int 1] (MW (Int32.ofNat n) (Int32.ofNat vs) wo un h bo ta tr ro ot Bm bk) (some (.long (-9000000000000000004))) (MW (Int32.ofNat n) (Int32.ofNat vs) wo4 un4 h bo4 ta4 tr4 ro4 ot Bm bk) := by
  obtain ⟨un1, bo1, ta1, tr1, ro1, hk1⟩ := m_mixed0_5_2 (l := l) (D := D) (ca := ca) (ad := ad) (vs := vs) (wo := wo) (un := un) (h := h) (bo := bo) (ta := ta) (tr := tr) (ro := ro) (ot := ot) hn hb hk h1
  obtain ⟨d1, ed1⟩ : ∃ z, z = dtM (TnM n Bm 2 5) := ⟨_, rfl⟩
  rw [← ed1] at hk1 h1
  refine ⟨d1, un1, bo1, ta1, tr1, ro1, ?_⟩
  refine PX3_blame (Nat.le_of_ble_eq_true rfl) ?_
  intro G hT hC hR
  refine mB hT 6 rfl ?_
  refine hC.1 _ [_, _, _] _ _ _ _ (m_in_t (by decide) ((le_pred (by omega)).mpr (ofNat_lt (i := 5) hv (by omega)))) rfl (Nat.le_of_ble_eq_true rfl) rfl ?_
  refine mB hT 2 rfl ?_
  refine hC.2.1 _ [_] _ _ _ _ (m_isBasket_t hb) rfl (Nat.le_of_ble_eq_true rfl) rfl ?_
  refine mB hT 2 rfl ?_
  refine hC.2.2.1 _ [_] _ _ _ _ (m_isStuff_t hk) rfl (Nat.le_of_ble_eq_true rfl) rfl ?_
  refine mB hT 3 rfl ?_
  refine hC.2.2.2.1 _ 0 [_] _ _ _ _ _ (m_isMaking_t (i := 1) hi hn) rfl rfl (Nat.le_of_ble_eq_true rfl) rfl ?_
  refine mB hT 8 rfl ?_
  refine hC.2.2.2.2.1 _ 0 [_, _, _, _] _ _ _ _ _ (hk1) rfl rfl (Nat.le_of_ble_eq_true rfl) rfl ?_
  refine mB hT 6 rfl ?_
  refine mIf (fun _ => ?_) (fun hn => absurd (lc_eq.mpr h1) hn)
  refine mB hT 1 rfl ?_
  exact hR _ (by decide) _ _ _ rfl rfl
set_option maxRecDepth 20000 in
theorem m_blame_B_5_1 {n vs : Nat} {wo un h : Int64} {bo : Nat → Int32} {ta tr ro ot : Nat → Int64} {Bm : Nat → Nat → Nat → Int32} {bk : Nat → Nat → Int32} (hv : 5 < vs) (hvs : vs ≤ 6) (hi : 1 < n) (hn : n ≤ 4) {b : Nat} (hb : b < 4) {k : Nat} (hk : k < 3) (h1 : ¬ dtM (TnM n Bm 2 5) = 0) (h2 : dtM (TnM n Bm 1 5) = 0) : ∃ (wo4 un4 : Int64) (bo4 : Nat → Int32) (ta4 tr4 ro4 : Nat → Int64), KX3_blame l D ca ad [.ref 0, .int 5, .int (Int32.ofNat b), .int (Int32.ofNat k), .int 1] (MW (Int32.ofNat n) (Int32.ofNat vs) wo un h bo ta tr ro ot Bm bk) (some (.long (-9000000000000000004))) (MW (Int32.ofNat n) (Int32.ofNat vs) wo4 un4 h bo4 ta4 tr4 ro4 ot Bm bk) := by
  obtain ⟨un1, bo1, ta1, tr1, ro1, hk1⟩ := m_mixed1_5_2 (l := l) (D := D) (ca := ca) (ad := ad) (vs := vs) (wo := wo) (un := un) (h := h) (bo := bo) (ta := ta) (tr := tr) (ro := ro) (ot := ot) hn hb hk h1
  obtain ⟨d1, ed1⟩ : ∃ z, z = dtM (TnM n Bm 2 5) := ⟨_, rfl⟩
  rw [← ed1] at hk1 h1
  generalize thM _ _ = a1 at hk1
  obtain ⟨un3, bo3, ta3, tr3, ro3, hk3⟩ := m_mixed0_5_1 (l := l) (D := D) (ca := ca) (ad := ad) (vs := vs) (wo := d1) (un := un1) (h := h) (bo := bo1) (ta := ta1) (tr := tr1) (ro := ro1) (ot := ot) hn hb hk h2
  obtain ⟨d2, ed2⟩ : ∃ z, z = dtM (TnM n Bm 1 5) := ⟨_, rfl⟩
  rw [← ed2] at hk3 h2
  refine ⟨d2, un3, bo3, ta3, tr3, ro3, ?_⟩
  refine PX3_blame (Nat.le_of_ble_eq_true rfl) ?_
  intro G hT hC hR
  refine mB hT 6 rfl ?_
  refine hC.1 _ [_, _, _] _ _ _ _ (m_in_t (by decide) ((le_pred (by omega)).mpr (ofNat_lt (i := 5) hv (by omega)))) rfl (Nat.le_of_ble_eq_true rfl) rfl ?_
  refine mB hT 2 rfl ?_
  refine hC.2.1 _ [_] _ _ _ _ (m_isBasket_t hb) rfl (Nat.le_of_ble_eq_true rfl) rfl ?_
  refine mB hT 2 rfl ?_
  refine hC.2.2.1 _ [_] _ _ _ _ (m_isStuff_t hk) rfl (Nat.le_of_ble_eq_true rfl) rfl ?_
  refine mB hT 3 rfl ?_
  refine hC.2.2.2.1 _ 0 [_] _ _ _ _ _ (m_isMaking_t (i := 1) hi hn) rfl rfl (Nat.le_of_ble_eq_true rfl) rfl ?_
  refine mB hT 8 rfl ?_
  refine hC.2.2.2.2.1 _ 0 [_, _, _, _] _ _ _ _ _ (hk1) rfl rfl (Nat.le_of_ble_eq_true rfl) rfl ?_
  refine mB hT 6 rfl ?_
  refine mIf (fun hp => absurd hp (fun q => h1 (lc_eq.mp q))) (fun _ => ?_)
  refine mB hT 5 rfl ?_
  refine hC.2.2.2.2.2 _ 0 [_, _, _, _] _ _ _ _ _ (hk3) rfl rfl (Nat.le_of_ble_eq_true rfl) rfl ?_
  refine mB hT 6 rfl ?_
  refine mIf (fun _ => ?_) (fun hn => absurd (lc_eq.mpr h2) hn)
  refine mNf (lv2 := [(7, .long 0), (5, .long a1), (0, .ref 0), (1, .int 5), (2, .int (Int32.ofNat b)), (3, .int (Int32.ofNat k)), (4, .int 1)]) (st2 := []) rfl rfl ?_
  refine mB hT 2 rfl ?_
  exact hR _ (by decide) _ _ _ rfl rfl
set_option maxRecDepth 20000 in
theorem m_blame_C_5_1 {n vs : Nat} {wo un h : Int64} {bo : Nat → Int32} {ta tr ro ot : Nat → Int64} {Bm : Nat → Nat → Nat → Int32} {bk : Nat → Nat → Int32} (hv : 5 < vs) (hvs : vs ≤ 6) (hi : 1 < n) (hn : n ≤ 4) {b : Nat} (hb : b < 4) {k : Nat} (hk : k < 3) (h1 : ¬ dtM (TnM n Bm 2 5) = 0) (h2 : ¬ dtM (TnM n Bm 1 5) = 0) : ∃ (wo4 un4 : Int64) (bo4 : Nat → Int32) (ta4 tr4 ro4 : Nat → Int64), KX3_blame l D ca ad [.ref 0, .int 5, .int (Int32.ofNat b), .int (Int32.ofNat k), .int 1] (MW (Int32.ofNat n) (Int32.ofNat vs) wo un h bo ta tr ro ot Bm bk) (some (.long ((thM (smG n (fun i s => emM (Bm (bkM 2 5 i) i) k s) (rdM n (TnM n Bm 2 5) (dtM (TnM n Bm 2 5)) (fun j => (bk b j).toInt64)) 1) (absX (dtM (TnM n Bm 2 5)))) - (thM (smG n (fun i s => emM (Bm (bkM 1 5 i) i) k s) (rdM n (TnM n Bm 1 5) (dtM (TnM n Bm 1 5)) (fun j => (bk b j).toInt64)) 1) (absX (dtM (TnM n Bm 1 5))))))) (MW (Int32.ofNat n) (Int32.ofNat vs) wo4 un4 h bo4 ta4 tr4 ro4 ot Bm bk) := by
  obtain ⟨a1, ea1⟩ : ∃ z, z = (thM (smG n (fun i s => emM (Bm (bkM 2 5 i) i) k s) (rdM n (TnM n Bm 2 5) (dtM (TnM n Bm 2 5)) (fun j => (bk b j).toInt64)) 1) (absX (dtM (TnM n Bm 2 5)))) := ⟨_, rfl⟩
  obtain ⟨a2, ea2⟩ : ∃ z, z = (thM (smG n (fun i s => emM (Bm (bkM 1 5 i) i) k s) (rdM n (TnM n Bm 1 5) (dtM (TnM n Bm 1 5)) (fun j => (bk b j).toInt64)) 1) (absX (dtM (TnM n Bm 1 5)))) := ⟨_, rfl⟩
  obtain ⟨un1, bo1, ta1, tr1, ro1, hk1⟩ := m_mixed1_5_2 (l := l) (D := D) (ca := ca) (ad := ad) (vs := vs) (wo := wo) (un := un) (h := h) (bo := bo) (ta := ta) (tr := tr) (ro := ro) (ot := ot) hn hb hk h1
  rw [← ea1] at hk1
  obtain ⟨d1, ed1⟩ : ∃ z, z = dtM (TnM n Bm 2 5) := ⟨_, rfl⟩
  rw [← ed1] at hk1 h1
  obtain ⟨un3, bo3, ta3, tr3, ro3, hk3⟩ := m_mixed1_5_1 (l := l) (D := D) (ca := ca) (ad := ad) (vs := vs) (wo := d1) (un := un1) (h := h) (bo := bo1) (ta := ta1) (tr := tr1) (ro := ro1) (ot := ot) hn hb hk h2
  rw [← ea2] at hk3
  obtain ⟨d2, ed2⟩ : ∃ z, z = dtM (TnM n Bm 1 5) := ⟨_, rfl⟩
  rw [← ed2] at hk3 h2
  rw [← ea1, ← ea2]
  refine ⟨d2, un3, bo3, ta3, tr3, ro3, ?_⟩
  refine PX3_blame (Nat.le_of_ble_eq_true rfl) ?_
  intro G hT hC hR
  refine mB hT 6 rfl ?_
  refine hC.1 _ [_, _, _] _ _ _ _ (m_in_t (by decide) ((le_pred (by omega)).mpr (ofNat_lt (i := 5) hv (by omega)))) rfl (Nat.le_of_ble_eq_true rfl) rfl ?_
  refine mB hT 2 rfl ?_
  refine hC.2.1 _ [_] _ _ _ _ (m_isBasket_t hb) rfl (Nat.le_of_ble_eq_true rfl) rfl ?_
  refine mB hT 2 rfl ?_
  refine hC.2.2.1 _ [_] _ _ _ _ (m_isStuff_t hk) rfl (Nat.le_of_ble_eq_true rfl) rfl ?_
  refine mB hT 3 rfl ?_
  refine hC.2.2.2.1 _ 0 [_] _ _ _ _ _ (m_isMaking_t (i := 1) hi hn) rfl rfl (Nat.le_of_ble_eq_true rfl) rfl ?_
  refine mB hT 8 rfl ?_
  refine hC.2.2.2.2.1 _ 0 [_, _, _, _] _ _ _ _ _ (hk1) rfl rfl (Nat.le_of_ble_eq_true rfl) rfl ?_
  refine mB hT 6 rfl ?_
  refine mIf (fun hp => absurd hp (fun q => h1 (lc_eq.mp q))) (fun _ => ?_)
  refine mB hT 5 rfl ?_
  refine hC.2.2.2.2.2 _ 0 [_, _, _, _] _ _ _ _ _ (hk3) rfl rfl (Nat.le_of_ble_eq_true rfl) rfl ?_
  refine mB hT 6 rfl ?_
  refine mIf (fun hp => absurd hp (fun q => h2 (lc_eq.mp q))) (fun _ => ?_)
  refine mNf (lv2 := [(7, .long a2), (5, .long a1), (0, .ref 0), (1, .int 5), (2, .int (Int32.ofNat b)), (3, .int (Int32.ofNat k)), (4, .int 1)]) (st2 := []) rfl rfl ?_
  refine mB hT 3 rfl ?_
  exact hR _ (by decide) _ _ _ rfl rfl
set_option maxRecDepth 20000 in
theorem m_blame_A_5_2 {n vs : Nat} {wo un h : Int64} {bo : Nat → Int32} {ta tr ro ot : Nat → Int64} {Bm : Nat → Nat → Nat → Int32} {bk : Nat → Nat → Int32} (hv : 5 < vs) (hvs : vs ≤ 6) (hi : 2 < n) (hn : n ≤ 4) {b : Nat} (hb : b < 4) {k : Nat} (hk : k < 3) (h1 : dtM (TnM n Bm 3 5) = 0) : ∃ (wo4 un4 : Int64) (bo4 : Nat → Int32) (ta4 tr4 ro4 : Nat → Int64), KX3_blame l D ca ad [.ref 0, .int 5, .int (Int32.ofNat b), .int (Int32.ofNat k), .int 2] (MW (Int32.ofNat n) (Int32.ofNat vs) wo un h bo ta tr ro ot Bm bk) (some (.long (-9000000000000000004))) (MW (Int32.ofNat n) (Int32.ofNat vs) wo4 un4 h bo4 ta4 tr4 ro4 ot Bm bk) := by
  obtain ⟨un1, bo1, ta1, tr1, ro1, hk1⟩ := m_mixed0_5_3 (l := l) (D := D) (ca := ca) (ad := ad) (vs := vs) (wo := wo) (un := un) (h := h) (bo := bo) (ta := ta) (tr := tr) (ro := ro) (ot := ot) hn hb hk h1
  obtain ⟨d1, ed1⟩ : ∃ z, z = dtM (TnM n Bm 3 5) := ⟨_, rfl⟩
  rw [← ed1] at hk1 h1
  refine ⟨d1, un1, bo1, ta1, tr1, ro1, ?_⟩
  refine PX3_blame (Nat.le_of_ble_eq_true rfl) ?_
  intro G hT hC hR
  refine mB hT 6 rfl ?_
  refine hC.1 _ [_, _, _] _ _ _ _ (m_in_t (by decide) ((le_pred (by omega)).mpr (ofNat_lt (i := 5) hv (by omega)))) rfl (Nat.le_of_ble_eq_true rfl) rfl ?_
  refine mB hT 2 rfl ?_
  refine hC.2.1 _ [_] _ _ _ _ (m_isBasket_t hb) rfl (Nat.le_of_ble_eq_true rfl) rfl ?_
  refine mB hT 2 rfl ?_
  refine hC.2.2.1 _ [_] _ _ _ _ (m_isStuff_t hk) rfl (Nat.le_of_ble_eq_true rfl) rfl ?_
  refine mB hT 3 rfl ?_
  refine hC.2.2.2.1 _ 0 [_] _ _ _ _ _ (m_isMaking_t (i := 2) hi hn) rfl rfl (Nat.le_of_ble_eq_true rfl) rfl ?_
  refine mB hT 8 rfl ?_
  refine hC.2.2.2.2.1 _ 0 [_, _, _, _] _ _ _ _ _ (hk1) rfl rfl (Nat.le_of_ble_eq_true rfl) rfl ?_
  refine mB hT 6 rfl ?_
  refine mIf (fun _ => ?_) (fun hn => absurd (lc_eq.mpr h1) hn)
  refine mB hT 1 rfl ?_
  exact hR _ (by decide) _ _ _ rfl rfl
set_option maxRecDepth 20000 in
theorem m_blame_B_5_2 {n vs : Nat} {wo un h : Int64} {bo : Nat → Int32} {ta tr ro ot : Nat → Int64} {Bm : Nat → Nat → Nat → Int32} {bk : Nat → Nat → Int32} (hv : 5 < vs) (hvs : vs ≤ 6) (hi : 2 < n) (hn : n ≤ 4) {b : Nat} (hb : b < 4) {k : Nat} (hk : k < 3) (h1 : ¬ dtM (TnM n Bm 3 5) = 0) (h2 : dtM (TnM n Bm 2 5) = 0) : ∃ (wo4 un4 : Int64) (bo4 : Nat → Int32) (ta4 tr4 ro4 : Nat → Int64), KX3_blame l D ca ad [.ref 0, .int 5, .int (Int32.ofNat b), .int (Int32.ofNat k), .int 2] (MW (Int32.ofNat n) (Int32.ofNat vs) wo un h bo ta tr ro ot Bm bk) (some (.long (-9000000000000000004))) (MW (Int32.ofNat n) (Int32.ofNat vs) wo4 un4 h bo4 ta4 tr4 ro4 ot Bm bk) := by
  obtain ⟨un1, bo1, ta1, tr1, ro1, hk1⟩ := m_mixed1_5_3 (l := l) (D := D) (ca := ca) (ad := ad) (vs := vs) (wo := wo) (un := un) (h := h) (bo := bo) (ta := ta) (tr := tr) (ro := ro) (ot := ot) hn hb hk h1
  obtain ⟨d1, ed1⟩ : ∃ z, z = dtM (TnM n Bm 3 5) := ⟨_, rfl⟩
  rw [← ed1] at hk1 h1
  generalize thM _ _ = a1 at hk1
  obtain ⟨un3, bo3, ta3, tr3, ro3, hk3⟩ := m_mixed0_5_2 (l := l) (D := D) (ca := ca) (ad := ad) (vs := vs) (wo := d1) (un := un1) (h := h) (bo := bo1) (ta := ta1) (tr := tr1) (ro := ro1) (ot := ot) hn hb hk h2
  obtain ⟨d2, ed2⟩ : ∃ z, z = dtM (TnM n Bm 2 5) := ⟨_, rfl⟩
  rw [← ed2] at hk3 h2
  refine ⟨d2, un3, bo3, ta3, tr3, ro3, ?_⟩
  refine PX3_blame (Nat.le_of_ble_eq_true rfl) ?_
  intro G hT hC hR
  refine mB hT 6 rfl ?_
  refine hC.1 _ [_, _, _] _ _ _ _ (m_in_t (by decide) ((le_pred (by omega)).mpr (ofNat_lt (i := 5) hv (by omega)))) rfl (Nat.le_of_ble_eq_true rfl) rfl ?_
  refine mB hT 2 rfl ?_
  refine hC.2.1 _ [_] _ _ _ _ (m_isBasket_t hb) rfl (Nat.le_of_ble_eq_true rfl) rfl ?_
  refine mB hT 2 rfl ?_
  refine hC.2.2.1 _ [_] _ _ _ _ (m_isStuff_t hk) rfl (Nat.le_of_ble_eq_true rfl) rfl ?_
  refine mB hT 3 rfl ?_
  refine hC.2.2.2.1 _ 0 [_] _ _ _ _ _ (m_isMaking_t (i := 2) hi hn) rfl rfl (Nat.le_of_ble_eq_true rfl) rfl ?_
  refine mB hT 8 rfl ?_
  refine hC.2.2.2.2.1 _ 0 [_, _, _, _] _ _ _ _ _ (hk1) rfl rfl (Nat.le_of_ble_eq_true rfl) rfl ?_
  refine mB hT 6 rfl ?_
  refine mIf (fun hp => absurd hp (fun q => h1 (lc_eq.mp q))) (fun _ => ?_)
  refine mB hT 5 rfl ?_
  refine hC.2.2.2.2.2 _ 0 [_, _, _, _] _ _ _ _ _ (hk3) rfl rfl (Nat.le_of_ble_eq_true rfl) rfl ?_
  refine mB hT 6 rfl ?_
  refine mIf (fun _ => ?_) (fun hn => absurd (lc_eq.mpr h2) hn)
  refine mNf (lv2 := [(7, .long 0), (5, .long a1), (0, .ref 0), (1, .int 5), (2, .int (Int32.ofNat b)), (3, .int (Int32.ofNat k)), (4, .int 2)]) (st2 := []) rfl rfl ?_
  refine mB hT 2 rfl ?_
  exact hR _ (by decide) _ _ _ rfl rfl
set_option maxRecDepth 20000 in
theorem m_blame_C_5_2 {n vs : Nat} {wo un h : Int64} {bo : Nat → Int32} {ta tr ro ot : Nat → Int64} {Bm : Nat → Nat → Nat → Int32} {bk : Nat → Nat → Int32} (hv : 5 < vs) (hvs : vs ≤ 6) (hi : 2 < n) (hn : n ≤ 4) {b : Nat} (hb : b < 4) {k : Nat} (hk : k < 3) (h1 : ¬ dtM (TnM n Bm 3 5) = 0) (h2 : ¬ dtM (TnM n Bm 2 5) = 0) : ∃ (wo4 un4 : Int64) (bo4 : Nat → Int32) (ta4 tr4 ro4 : Nat → Int64), KX3_blame l D ca ad [.ref 0, .int 5, .int (Int32.ofNat b), .int (Int32.ofNat k), .int 2] (MW (Int32.ofNat n) (Int32.ofNat vs) wo un h bo ta tr ro ot Bm bk) (some (.long ((thM (smG n (fun i s => emM (Bm (bkM 3 5 i) i) k s) (rdM n (TnM n Bm 3 5) (dtM (TnM n Bm 3 5)) (fun j => (bk b j).toInt64)) 1) (absX (dtM (TnM n Bm 3 5)))) - (thM (smG n (fun i s => emM (Bm (bkM 2 5 i) i) k s) (rdM n (TnM n Bm 2 5) (dtM (TnM n Bm 2 5)) (fun j => (bk b j).toInt64)) 1) (absX (dtM (TnM n Bm 2 5))))))) (MW (Int32.ofNat n) (Int32.ofNat vs) wo4 un4 h bo4 ta4 tr4 ro4 ot Bm bk) := by
  obtain ⟨a1, ea1⟩ : ∃ z, z = (thM (smG n (fun i s => emM (Bm (bkM 3 5 i) i) k s) (rdM n (TnM n Bm 3 5) (dtM (TnM n Bm 3 5)) (fun j => (bk b j).toInt64)) 1) (absX (dtM (TnM n Bm 3 5)))) := ⟨_, rfl⟩
  obtain ⟨a2, ea2⟩ : ∃ z, z = (thM (smG n (fun i s => emM (Bm (bkM 2 5 i) i) k s) (rdM n (TnM n Bm 2 5) (dtM (TnM n Bm 2 5)) (fun j => (bk b j).toInt64)) 1) (absX (dtM (TnM n Bm 2 5)))) := ⟨_, rfl⟩
  obtain ⟨un1, bo1, ta1, tr1, ro1, hk1⟩ := m_mixed1_5_3 (l := l) (D := D) (ca := ca) (ad := ad) (vs := vs) (wo := wo) (un := un) (h := h) (bo := bo) (ta := ta) (tr := tr) (ro := ro) (ot := ot) hn hb hk h1
  rw [← ea1] at hk1
  obtain ⟨d1, ed1⟩ : ∃ z, z = dtM (TnM n Bm 3 5) := ⟨_, rfl⟩
  rw [← ed1] at hk1 h1
  obtain ⟨un3, bo3, ta3, tr3, ro3, hk3⟩ := m_mixed1_5_2 (l := l) (D := D) (ca := ca) (ad := ad) (vs := vs) (wo := d1) (un := un1) (h := h) (bo := bo1) (ta := ta1) (tr := tr1) (ro := ro1) (ot := ot) hn hb hk h2
  rw [← ea2] at hk3
  obtain ⟨d2, ed2⟩ : ∃ z, z = dtM (TnM n Bm 2 5) := ⟨_, rfl⟩
  rw [← ed2] at hk3 h2
  rw [← ea1, ← ea2]
  refine ⟨d2, un3, bo3, ta3, tr3, ro3, ?_⟩
  refine PX3_blame (Nat.le_of_ble_eq_true rfl) ?_
  intro G hT hC hR
  refine mB hT 6 rfl ?_
  refine hC.1 _ [_, _, _] _ _ _ _ (m_in_t (by decide) ((le_pred (by omega)).mpr (ofNat_lt (i := 5) hv (by omega)))) rfl (Nat.le_of_ble_eq_true rfl) rfl ?_
  refine mB hT 2 rfl ?_
  refine hC.2.1 _ [_] _ _ _ _ (m_isBasket_t hb) rfl (Nat.le_of_ble_eq_true rfl) rfl ?_
  refine mB hT 2 rfl ?_
  refine hC.2.2.1 _ [_] _ _ _ _ (m_isStuff_t hk) rfl (Nat.le_of_ble_eq_true rfl) rfl ?_
  refine mB hT 3 rfl ?_
  refine hC.2.2.2.1 _ 0 [_] _ _ _ _ _ (m_isMaking_t (i := 2) hi hn) rfl rfl (Nat.le_of_ble_eq_true rfl) rfl ?_
  refine mB hT 8 rfl ?_
  refine hC.2.2.2.2.1 _ 0 [_, _, _, _] _ _ _ _ _ (hk1) rfl rfl (Nat.le_of_ble_eq_true rfl) rfl ?_
  refine mB hT 6 rfl ?_
  refine mIf (fun hp => absurd hp (fun q => h1 (lc_eq.mp q))) (fun _ => ?_)
  refine mB hT 5 rfl ?_
  refine hC.2.2.2.2.2 _ 0 [_, _, _, _] _ _ _ _ _ (hk3) rfl rfl (Nat.le_of_ble_eq_true rfl) rfl ?_
  refine mB hT 6 rfl ?_
  refine mIf (fun hp => absurd hp (fun q => h2 (lc_eq.mp q))) (fun _ => ?_)
  refine mNf (lv2 := [(7, .long a2), (5, .long a1), (0, .ref 0), (1, .int 5), (2, .int (Int32.ofNat b)), (3, .int (Int32.ofNat k)), (4, .int 2)]) (st2 := []) rfl rfl ?_
  refine mB hT 3 rfl ?_
  exact hR _ (by decide) _ _ _ rfl rfl
set_option maxRecDepth 20000 in
theorem m_blame_A_5_3 {n vs : Nat} {wo un h : Int64} {bo : Nat → Int32} {ta tr ro ot : Nat → Int64} {Bm : Nat → Nat → Nat → Int32} {bk : Nat → Nat → Int32} (hv : 5 < vs) (hvs : vs ≤ 6) (hi : 3 < n) (hn : n ≤ 4) {b : Nat} (hb : b < 4) {k : Nat} (hk : k < 3) (h1 : dtM (TnM n Bm 4 0) = 0) : ∃ (wo4 un4 : Int64) (bo4 : Nat → Int32) (ta4 tr4 ro4 : Nat → Int64), KX3_blame l D ca ad [.ref 0, .int 5, .int (Int32.ofNat b), .int (Int32.ofNat k), .int 3] (MW (Int32.ofNat n) (Int32.ofNat vs) wo un h bo ta tr ro ot Bm bk) (some (.long (-9000000000000000004))) (MW (Int32.ofNat n) (Int32.ofNat vs) wo4 un4 h bo4 ta4 tr4 ro4 ot Bm bk) := by
  obtain ⟨un1, bo1, ta1, tr1, ro1, hk1⟩ := m_mixed0_5_4 (l := l) (D := D) (ca := ca) (ad := ad) (vs := vs) (wo := wo) (un := un) (h := h) (bo := bo) (ta := ta) (tr := tr) (ro := ro) (ot := ot) hn hb hk h1
  obtain ⟨d1, ed1⟩ : ∃ z, z = dtM (TnM n Bm 4 0) := ⟨_, rfl⟩
  rw [← ed1] at hk1 h1
  refine ⟨d1, un1, bo1, ta1, tr1, ro1, ?_⟩
  refine PX3_blame (Nat.le_of_ble_eq_true rfl) ?_
  intro G hT hC hR
  refine mB hT 6 rfl ?_
  refine hC.1 _ [_, _, _] _ _ _ _ (m_in_t (by decide) ((le_pred (by omega)).mpr (ofNat_lt (i := 5) hv (by omega)))) rfl (Nat.le_of_ble_eq_true rfl) rfl ?_
  refine mB hT 2 rfl ?_
  refine hC.2.1 _ [_] _ _ _ _ (m_isBasket_t hb) rfl (Nat.le_of_ble_eq_true rfl) rfl ?_
  refine mB hT 2 rfl ?_
  refine hC.2.2.1 _ [_] _ _ _ _ (m_isStuff_t hk) rfl (Nat.le_of_ble_eq_true rfl) rfl ?_
  refine mB hT 3 rfl ?_
  refine hC.2.2.2.1 _ 0 [_] _ _ _ _ _ (m_isMaking_t (i := 3) hi hn) rfl rfl (Nat.le_of_ble_eq_true rfl) rfl ?_
  refine mB hT 8 rfl ?_
  refine hC.2.2.2.2.1 _ 0 [_, _, _, _] _ _ _ _ _ (hk1) rfl rfl (Nat.le_of_ble_eq_true rfl) rfl ?_
  refine mB hT 6 rfl ?_
  refine mIf (fun _ => ?_) (fun hn => absurd (lc_eq.mpr h1) hn)
  refine mB hT 1 rfl ?_
  exact hR _ (by decide) _ _ _ rfl rfl
set_option maxRecDepth 20000 in
theorem m_blame_B_5_3 {n vs : Nat} {wo un h : Int64} {bo : Nat → Int32} {ta tr ro ot : Nat → Int64} {Bm : Nat → Nat → Nat → Int32} {bk : Nat → Nat → Int32} (hv : 5 < vs) (hvs : vs ≤ 6) (hi : 3 < n) (hn : n ≤ 4) {b : Nat} (hb : b < 4) {k : Nat} (hk : k < 3) (h1 : ¬ dtM (TnM n Bm 4 0) = 0) (h2 : dtM (TnM n Bm 3 5) = 0) : ∃ (wo4 un4 : Int64) (bo4 : Nat → Int32) (ta4 tr4 ro4 : Nat → Int64), KX3_blame l D ca ad [.ref 0, .int 5, .int (Int32.ofNat b), .int (Int32.ofNat k), .int 3] (MW (Int32.ofNat n) (Int32.ofNat vs) wo un h bo ta tr ro ot Bm bk) (some (.long (-9000000000000000004))) (MW (Int32.ofNat n) (Int32.ofNat vs) wo4 un4 h bo4 ta4 tr4 ro4 ot Bm bk) := by
  obtain ⟨un1, bo1, ta1, tr1, ro1, hk1⟩ := m_mixed1_5_4 (l := l) (D := D) (ca := ca) (ad := ad) (vs := vs) (wo := wo) (un := un) (h := h) (bo := bo) (ta := ta) (tr := tr) (ro := ro) (ot := ot) hn hb hk h1
  obtain ⟨d1, ed1⟩ : ∃ z, z = dtM (TnM n Bm 4 0) := ⟨_, rfl⟩
  rw [← ed1] at hk1 h1
  generalize thM _ _ = a1 at hk1
  obtain ⟨un3, bo3, ta3, tr3, ro3, hk3⟩ := m_mixed0_5_3 (l := l) (D := D) (ca := ca) (ad := ad) (vs := vs) (wo := d1) (un := un1) (h := h) (bo := bo1) (ta := ta1) (tr := tr1) (ro := ro1) (ot := ot) hn hb hk h2
  obtain ⟨d2, ed2⟩ : ∃ z, z = dtM (TnM n Bm 3 5) := ⟨_, rfl⟩
  rw [← ed2] at hk3 h2
  refine ⟨d2, un3, bo3, ta3, tr3, ro3, ?_⟩
  refine PX3_blame (Nat.le_of_ble_eq_true rfl) ?_
  intro G hT hC hR
  refine mB hT 6 rfl ?_
  refine hC.1 _ [_, _, _] _ _ _ _ (m_in_t (by decide) ((le_pred (by omega)).mpr (ofNat_lt (i := 5) hv (by omega)))) rfl (Nat.le_of_ble_eq_true rfl) rfl ?_
  refine mB hT 2 rfl ?_
  refine hC.2.1 _ [_] _ _ _ _ (m_isBasket_t hb) rfl (Nat.le_of_ble_eq_true rfl) rfl ?_
  refine mB hT 2 rfl ?_
  refine hC.2.2.1 _ [_] _ _ _ _ (m_isStuff_t hk) rfl (Nat.le_of_ble_eq_true rfl) rfl ?_
  refine mB hT 3 rfl ?_
  refine hC.2.2.2.1 _ 0 [_] _ _ _ _ _ (m_isMaking_t (i := 3) hi hn) rfl rfl (Nat.le_of_ble_eq_true rfl) rfl ?_
  refine mB hT 8 rfl ?_
  refine hC.2.2.2.2.1 _ 0 [_, _, _, _] _ _ _ _ _ (hk1) rfl rfl (Nat.le_of_ble_eq_true rfl) rfl ?_
  refine mB hT 6 rfl ?_
  refine mIf (fun hp => absurd hp (fun q => h1 (lc_eq.mp q))) (fun _ => ?_)
  refine mB hT 5 rfl ?_
  refine hC.2.2.2.2.2 _ 0 [_, _, _, _] _ _ _ _ _ (hk3) rfl rfl (Nat.le_of_ble_eq_true rfl) rfl ?_
  refine mB hT 6 rfl ?_
  refine mIf (fun _ => ?_) (fun hn => absurd (lc_eq.mpr h2) hn)
  refine mNf (lv2 := [(7, .long 0), (5, .long a1), (0, .ref 0), (1, .int 5), (2, .int (Int32.ofNat b)), (3, .int (Int32.ofNat k)), (4, .int 3)]) (st2 := []) rfl rfl ?_
  refine mB hT 2 rfl ?_
  exact hR _ (by decide) _ _ _ rfl rfl
set_option maxRecDepth 20000 in
theorem m_blame_C_5_3 {n vs : Nat} {wo un h : Int64} {bo : Nat → Int32} {ta tr ro ot : Nat → Int64} {Bm : Nat → Nat → Nat → Int32} {bk : Nat → Nat → Int32} (hv : 5 < vs) (hvs : vs ≤ 6) (hi : 3 < n) (hn : n ≤ 4) {b : Nat} (hb : b < 4) {k : Nat} (hk : k < 3) (h1 : ¬ dtM (TnM n Bm 4 0) = 0) (h2 : ¬ dtM (TnM n Bm 3 5) = 0) : ∃ (wo4 un4 : Int64) (bo4 : Nat → Int32) (ta4 tr4 ro4 : Nat → Int64), KX3_blame l D ca ad [.ref 0, .int 5, .int (Int32.ofNat b), .int (Int32.ofNat k), .int 3] (MW (Int32.ofNat n) (Int32.ofNat vs) wo un h bo ta tr ro ot Bm bk) (some (.long ((thM (smG n (fun i s => emM (Bm (bkM 4 0 i) i) k s) (rdM n (TnM n Bm 4 0) (dtM (TnM n Bm 4 0)) (fun j => (bk b j).toInt64)) 1) (absX (dtM (TnM n Bm 4 0)))) - (thM (smG n (fun i s => emM (Bm (bkM 3 5 i) i) k s) (rdM n (TnM n Bm 3 5) (dtM (TnM n Bm 3 5)) (fun j => (bk b j).toInt64)) 1) (absX (dtM (TnM n Bm 3 5))))))) (MW (Int32.ofNat n) (Int32.ofNat vs) wo4 un4 h bo4 ta4 tr4 ro4 ot Bm bk) := by
  obtain ⟨a1, ea1⟩ : ∃ z, z = (thM (smG n (fun i s => emM (Bm (bkM 4 0 i) i) k s) (rdM n (TnM n Bm 4 0) (dtM (TnM n Bm 4 0)) (fun j => (bk b j).toInt64)) 1) (absX (dtM (TnM n Bm 4 0)))) := ⟨_, rfl⟩
  obtain ⟨a2, ea2⟩ : ∃ z, z = (thM (smG n (fun i s => emM (Bm (bkM 3 5 i) i) k s) (rdM n (TnM n Bm 3 5) (dtM (TnM n Bm 3 5)) (fun j => (bk b j).toInt64)) 1) (absX (dtM (TnM n Bm 3 5)))) := ⟨_, rfl⟩
  obtain ⟨un1, bo1, ta1, tr1, ro1, hk1⟩ := m_mixed1_5_4 (l := l) (D := D) (ca := ca) (ad := ad) (vs := vs) (wo := wo) (un := un) (h := h) (bo := bo) (ta := ta) (tr := tr) (ro := ro) (ot := ot) hn hb hk h1
  rw [← ea1] at hk1
  obtain ⟨d1, ed1⟩ : ∃ z, z = dtM (TnM n Bm 4 0) := ⟨_, rfl⟩
  rw [← ed1] at hk1 h1
  obtain ⟨un3, bo3, ta3, tr3, ro3, hk3⟩ := m_mixed1_5_3 (l := l) (D := D) (ca := ca) (ad := ad) (vs := vs) (wo := d1) (un := un1) (h := h) (bo := bo1) (ta := ta1) (tr := tr1) (ro := ro1) (ot := ot) hn hb hk h2
  rw [← ea2] at hk3
  obtain ⟨d2, ed2⟩ : ∃ z, z = dtM (TnM n Bm 3 5) := ⟨_, rfl⟩
  rw [← ed2] at hk3 h2
  rw [← ea1, ← ea2]
  refine ⟨d2, un3, bo3, ta3, tr3, ro3, ?_⟩
  refine PX3_blame (Nat.le_of_ble_eq_true rfl) ?_
  intro G hT hC hR
  refine mB hT 6 rfl ?_
  refine hC.1 _ [_, _, _] _ _ _ _ (m_in_t (by decide) ((le_pred (by omega)).mpr (ofNat_lt (i := 5) hv (by omega)))) rfl (Nat.le_of_ble_eq_true rfl) rfl ?_
  refine mB hT 2 rfl ?_
  refine hC.2.1 _ [_] _ _ _ _ (m_isBasket_t hb) rfl (Nat.le_of_ble_eq_true rfl) rfl ?_
  refine mB hT 2 rfl ?_
  refine hC.2.2.1 _ [_] _ _ _ _ (m_isStuff_t hk) rfl (Nat.le_of_ble_eq_true rfl) rfl ?_
  refine mB hT 3 rfl ?_
  refine hC.2.2.2.1 _ 0 [_] _ _ _ _ _ (m_isMaking_t (i := 3) hi hn) rfl rfl (Nat.le_of_ble_eq_true rfl) rfl ?_
  refine mB hT 8 rfl ?_
  refine hC.2.2.2.2.1 _ 0 [_, _, _, _] _ _ _ _ _ (hk1) rfl rfl (Nat.le_of_ble_eq_true rfl) rfl ?_
  refine mB hT 6 rfl ?_
  refine mIf (fun hp => absurd hp (fun q => h1 (lc_eq.mp q))) (fun _ => ?_)
  refine mB hT 5 rfl ?_
  refine hC.2.2.2.2.2 _ 0 [_, _, _, _] _ _ _ _ _ (hk3) rfl rfl (Nat.le_of_ble_eq_true rfl) rfl ?_
  refine mB hT 6 rfl ?_
  refine mIf (fun hp => absurd hp (fun q => h2 (lc_eq.mp q))) (fun _ => ?_)
  refine mNf (lv2 := [(7, .long a2), (5, .long a1), (0, .ref 0), (1, .int 5), (2, .int (Int32.ofNat b)), (3, .int (Int32.ofNat k)), (4, .int 3)]) (st2 := []) rfl rfl ?_
  refine mB hT 3 rfl ?_
  exact hR _ (by decide) _ _ _ rfl rfl
end
