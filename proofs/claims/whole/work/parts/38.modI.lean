section
variable {l : Launch} {D : va_G} {ca : Nat → ClassId} {ad : Nat → Nat}

set_option maxRecDepth 20000 in
theorem m_runs_B_0 {n vs : Nat} {wo un h : Int64} {bo : Nat → Int32} {ta tr ro ot : Nat → Int64} {Bm : Nat → Nat → Nat → Int32} {bk : Nat → Nat → Int32} (hi : 0 < n) (hn : n ≤ 4) {b : Nat} (hb : b < 4) (h0 : dtM (TnM n Bm 4 0) = 0) : ∃ (wo2 un2 h2 : Int64) (bo2 : Nat → Int32) (ta2 tr2 ro2 ot2 : Nat → Int64), KX3_runs l D ca ad [.ref 0, .int (Int32.ofNat b), .int 0] (MW (Int32.ofNat n) (Int32.ofNat vs) wo un h bo ta tr ro ot Bm bk) (some (.long (-9000000000000000004))) (MW (Int32.ofNat n) (Int32.ofNat vs) wo2 un2 h2 bo2 ta2 tr2 ro2 ot2 Bm bk) := by
  obtain ⟨tt, ett⟩ : ∃ z, z = TnM n Bm 4 0 := ⟨_, rfl⟩
  obtain ⟨dt, edt⟩ : ∃ z, z = dtM tt := ⟨_, rfl⟩
  rw [← ett, ← edt] at h0
  refine ⟨dt, un, h, (boX 4 0), tt, tt, ro, ot, ?_⟩
  refine PX3_runs (Nat.le_of_ble_eq_true rfl) ?_
  intro G hT hC hR
  refine mB hT 1 rfl ?_
  refine hC.1 _ [_] _ _ _ _ (m_isBasket_t hb) rfl (Nat.le_of_ble_eq_true rfl) rfl ?_
  refine mB hT 3 rfl ?_
  refine hC.2.1 _ 0 [_] _ _ _ _ _ (m_isMaking_t (i := 0) hi hn) rfl rfl (Nat.le_of_ble_eq_true rfl) rfl ?_
  refine mB hT 2 rfl ?_
  refine hC.2.2.1 _ 0 [] _ _ _ _ _ (show KX3_layNow l D ca ad _ _ none (MW (Int32.ofNat n) (Int32.ofNat vs) dt un h (boX 4 0) tt tt ro ot Bm bk) from (by rw [edt, ett]; exact m_layNow hn)) rfl rfl (Nat.le_of_ble_eq_true rfl) rfl ?_
  refine mB hT 5 rfl ?_
  refine mIf (fun _ => ?_) (fun hn => absurd (lc_eq.mpr h0) hn)
  refine mB hT 1 rfl ?_
  exact hR _ (by decide) _ _ _ rfl rfl
set_option maxRecDepth 20000 in
theorem m_runs_0 {n vs : Nat} {wo un h : Int64} {bo : Nat → Int32} {ta tr ro ot : Nat → Int64} {Bm : Nat → Nat → Nat → Int32} {bk : Nat → Nat → Int32} (hi : 0 < n) (hn : n ≤ 4) {b : Nat} (hb : b < 4) (h0 : ¬ dtM (TnM n Bm 4 0) = 0) : ∃ (wo2 un2 h2 : Int64) (bo2 : Nat → Int32) (ta2 tr2 ro2 ot2 : Nat → Int64), KX3_runs l D ca ad [.ref 0, .int (Int32.ofNat b), .int 0] (MW (Int32.ofNat n) (Int32.ofNat vs) wo un h bo ta tr ro ot Bm bk) (some (.long (thM ((rdM n (TnM n Bm 4 0) (dtM (TnM n Bm 4 0)) (fun j => (bk b j).toInt64)) 0 * (alM n (Bm 6) 0).toInt64) (absX (dtM (TnM n Bm 4 0)))))) (MW (Int32.ofNat n) (Int32.ofNat vs) wo2 un2 h2 bo2 ta2 tr2 ro2 ot2 Bm bk) := by
  obtain ⟨tt, ett⟩ : ∃ z, z = TnM n Bm 4 0 := ⟨_, rfl⟩
  obtain ⟨dt, edt⟩ : ∃ z, z = dtM tt := ⟨_, rfl⟩
  rw [← ett, ← edt] at h0
  obtain ⟨rr, err⟩ : ∃ z, z = rdM n tt dt (fun j => (bk b j).toInt64) := ⟨_, rfl⟩
  obtain ⟨ts, ets⟩ : ∃ z, z = tsM n tt 3 (fun j => (bk b j).toInt64) := ⟨_, rfl⟩
  rw [← ett, ← edt, ← err]
  refine ⟨dt, (absX dt), h, (boX 4 0), tt, ts, rr, ot, ?_⟩
  refine PX3_runs (Nat.le_of_ble_eq_true rfl) ?_
  intro G hT hC hR
  refine mB hT 1 rfl ?_
  refine hC.1 _ [_] _ _ _ _ (m_isBasket_t hb) rfl (Nat.le_of_ble_eq_true rfl) rfl ?_
  refine mB hT 3 rfl ?_
  refine hC.2.1 _ 0 [_] _ _ _ _ _ (m_isMaking_t (i := 0) hi hn) rfl rfl (Nat.le_of_ble_eq_true rfl) rfl ?_
  refine mB hT 2 rfl ?_
  refine hC.2.2.1 _ 0 [] _ _ _ _ _ (show KX3_layNow l D ca ad _ _ none (MW (Int32.ofNat n) (Int32.ofNat vs) dt un h (boX 4 0) tt tt ro ot Bm bk) from (by rw [edt, ett]; exact m_layNow hn)) rfl rfl (Nat.le_of_ble_eq_true rfl) rfl ?_
  refine mB hT 5 rfl ?_
  refine mIf (fun hp => absurd hp (fun q => h0 (lc_eq.mp q))) (fun _ => ?_)
  refine mB hT 2 rfl ?_
  refine hC.2.2.2.1 _ 0 [_] _ _ _ _ _ (show KX3_solve l D ca ad _ _ none (MW (Int32.ofNat n) (Int32.ofNat vs) dt (absX dt) h (boX 4 0) tt ts rr ot Bm bk) from (by rw [err, ets]; exact m_solve hn hb)) rfl rfl (Nat.le_of_ble_eq_true rfl) rfl ?_
  refine mB hT 7 rfl ?_
  refine hC.2.2.2.2.1 _ 0 [_, _] _ _ _ _ _ (m_all_6_0 hn) rfl rfl (Nat.le_of_ble_eq_true rfl) rfl ?_
  refine mB hT 4 rfl ?_
  refine hC.2.2.2.2.2 _ [_, _] _ _ _ _ (m_th (absX_ne h0)) rfl (Nat.le_of_ble_eq_true rfl) rfl ?_
  exact hR _ (by decide) _ _ _ rfl rfl
set_option maxRecDepth 20000 in
theorem m_share_B_0 {n vs : Nat} {wo un h : Int64} {bo : Nat → Int32} {ta tr ro ot : Nat → Int64} {Bm : Nat → Nat → Nat → Int32} {bk : Nat → Nat → Int32} (hi : 0 < n) (hn : n ≤ 4) {b : Nat} (hb : b < 4) {k : Nat} (hk : k < 3) (h0 : dtM (TnM n Bm 4 0) = 0) : ∃ (wo2 un2 h2 : Int64) (bo2 : Nat → Int32) (ta2 tr2 ro2 ot2 : Nat → Int64), KX3_share l D ca ad [.ref 0, .int (Int32.ofNat b), .int (Int32.ofNat k), .int 0] (MW (Int32.ofNat n) (Int32.ofNat vs) wo un h bo ta tr ro ot Bm bk) (some (.long (-9000000000000000004))) (MW (Int32.ofNat n) (Int32.ofNat vs) wo2 un2 h2 bo2 ta2 tr2 ro2 ot2 Bm bk) := by
  obtain ⟨tt, ett⟩ : ∃ z, z = TnM n Bm 4 0 := ⟨_, rfl⟩
  obtain ⟨dt, edt⟩ : ∃ z, z = dtM tt := ⟨_, rfl⟩
  rw [← ett, ← edt] at h0
  refine ⟨dt, un, h, (boX 4 0), tt, tt, ro, ot, ?_⟩
  refine PX3_share (Nat.le_of_ble_eq_true rfl) ?_
  intro G hT hC hR
  refine mB hT 1 rfl ?_
  refine hC.1 _ [_] _ _ _ _ (m_isBasket_t hb) rfl (Nat.le_of_ble_eq_true rfl) rfl ?_
  refine mB hT 2 rfl ?_
  refine hC.2.1 _ [_] _ _ _ _ (m_isStuff_t hk) rfl (Nat.le_of_ble_eq_true rfl) rfl ?_
  refine mB hT 3 rfl ?_
  refine hC.2.2.1 _ 0 [_] _ _ _ _ _ (m_isMaking_t (i := 0) hi hn) rfl rfl (Nat.le_of_ble_eq_true rfl) rfl ?_
  refine mB hT 2 rfl ?_
  refine hC.2.2.2.1 _ 0 [] _ _ _ _ _ (show KX3_layNow l D ca ad _ _ none (MW (Int32.ofNat n) (Int32.ofNat vs) dt un h (boX 4 0) tt tt ro ot Bm bk) from (by rw [edt, ett]; exact m_layNow hn)) rfl rfl (Nat.le_of_ble_eq_true rfl) rfl ?_
  refine mB hT 5 rfl ?_
  refine mIf (fun _ => ?_) (fun hn => absurd (lc_eq.mpr h0) hn)
  refine mB hT 1 rfl ?_
  exact hR _ (by decide) _ _ _ rfl rfl
set_option maxRecDepth 20000 in
theorem m_share_0 {n vs : Nat} {wo un h : Int64} {bo : Nat → Int32} {ta tr ro ot : Nat → Int64} {Bm : Nat → Nat → Nat → Int32} {bk : Nat → Nat → Int32} (hi : 0 < n) (hn : n ≤ 4) {b : Nat} (hb : b < 4) {k : Nat} (hk : k < 3) (h0 : ¬ dtM (TnM n Bm 4 0) = 0) : ∃ (wo2 un2 h2 : Int64) (bo2 : Nat → Int32) (ta2 tr2 ro2 ot2 : Nat → Int64), KX3_share l D ca ad [.ref 0, .int (Int32.ofNat b), .int (Int32.ofNat k), .int 0] (MW (Int32.ofNat n) (Int32.ofNat vs) wo un h bo ta tr ro ot Bm bk) (some (.long (thM (emM (Bm (bkM 4 0 0) 0) k 1 * (rdM n (TnM n Bm 4 0) (dtM (TnM n Bm 4 0)) (fun j => (bk b j).toInt64)) 0) (absX (dtM (TnM n Bm 4 0)))))) (MW (Int32.ofNat n) (Int32.ofNat vs) wo2 un2 h2 bo2 ta2 tr2 ro2 ot2 Bm bk) := by
  obtain ⟨tt, ett⟩ : ∃ z, z = TnM n Bm 4 0 := ⟨_, rfl⟩
  obtain ⟨dt, edt⟩ : ∃ z, z = dtM tt := ⟨_, rfl⟩
  rw [← ett, ← edt] at h0
  obtain ⟨rr, err⟩ : ∃ z, z = rdM n tt dt (fun j => (bk b j).toInt64) := ⟨_, rfl⟩
  obtain ⟨ts, ets⟩ : ∃ z, z = tsM n tt 3 (fun j => (bk b j).toInt64) := ⟨_, rfl⟩
  rw [← ett, ← edt, ← err]
  refine ⟨dt, (absX dt), h, (boX 4 0), tt, ts, rr, ot, ?_⟩
  refine PX3_share (Nat.le_of_ble_eq_true rfl) ?_
  intro G hT hC hR
  refine mB hT 1 rfl ?_
  refine hC.1 _ [_] _ _ _ _ (m_isBasket_t hb) rfl (Nat.le_of_ble_eq_true rfl) rfl ?_
  refine mB hT 2 rfl ?_
  refine hC.2.1 _ [_] _ _ _ _ (m_isStuff_t hk) rfl (Nat.le_of_ble_eq_true rfl) rfl ?_
  refine mB hT 3 rfl ?_
  refine hC.2.2.1 _ 0 [_] _ _ _ _ _ (m_isMaking_t (i := 0) hi hn) rfl rfl (Nat.le_of_ble_eq_true rfl) rfl ?_
  refine mB hT 2 rfl ?_
  refine hC.2.2.2.1 _ 0 [] _ _ _ _ _ (show KX3_layNow l D ca ad _ _ none (MW (Int32.ofNat n) (Int32.ofNat vs) dt un h (boX 4 0) tt tt ro ot Bm bk) from (by rw [edt, ett]; exact m_layNow hn)) rfl rfl (Nat.le_of_ble_eq_true rfl) rfl ?_
  refine mB hT 5 rfl ?_
  refine mIf (fun hp => absurd hp (fun q => h0 (lc_eq.mp q))) (fun _ => ?_)
  refine mB hT 2 rfl ?_
  refine hC.2.2.2.2.1 _ 0 [_] _ _ _ _ _ (show KX3_solve l D ca ad _ _ none (MW (Int32.ofNat n) (Int32.ofNat vs) dt (absX dt) h (boX 4 0) tt ts rr ot Bm bk) from (by rw [err, ets]; exact m_solve hn hb)) rfl rfl (Nat.le_of_ble_eq_true rfl) rfl ?_
  refine mB hT 4 rfl ?_
  refine hC.2.2.2.2.2.1 _ 0 [_, _, _] _ _ _ _ _ (m_emi_4_0 k hk 0 1 (by decide) (by decide)) rfl rfl (Nat.le_of_ble_eq_true rfl) rfl ?_
  refine mB hT 7 rfl ?_
  refine hC.2.2.2.2.2.2 _ [_, _] _ _ _ _ (m_th (absX_ne h0)) rfl (Nat.le_of_ble_eq_true rfl) rfl ?_
  exact hR _ (by decide) _ _ _ rfl rfl
set_option maxRecDepth 20000 in
theorem m_runs_B_1 {n vs : Nat} {wo un h : Int64} {bo : Nat → Int32} {ta tr ro ot : Nat → Int64} {Bm : Nat → Nat → Nat → Int32} {bk : Nat → Nat → Int32} (hi : 1 < n) (hn : n ≤ 4) {b : Nat} (hb : b < 4) (h0 : dtM (TnM n Bm 4 0) = 0) : ∃ (wo2 un2 h2 : Int64) (bo2 : Nat → Int32) (ta2 tr2 ro2 ot2 : Nat → Int64), KX3_runs l D ca ad [.ref 0, .int (Int32.ofNat b), .int 1] (MW (Int32.ofNat n) (Int32.ofNat vs) wo un h bo ta tr ro ot Bm bk) (some (.long (-9000000000000000004))) (MW (Int32.ofNat n) (Int32.ofNat vs) wo2 un2 h2 bo2 ta2 tr2 ro2 ot2 Bm bk) := by
  obtain ⟨tt, ett⟩ : ∃ z, z = TnM n Bm 4 0 := ⟨_, rfl⟩
  obtain ⟨dt, edt⟩ : ∃ z, z = dtM tt := ⟨_, rfl⟩
  rw [← ett, ← edt] at h0
  refine ⟨dt, un, h, (boX 4 0), tt, tt, ro, ot, ?_⟩
  refine PX3_runs (Nat.le_of_ble_eq_true rfl) ?_
  intro G hT hC hR
  refine mB hT 1 rfl ?_
  refine hC.1 _ [_] _ _ _ _ (m_isBasket_t hb) rfl (Nat.le_of_ble_eq_true rfl) rfl ?_
  refine mB hT 3 rfl ?_
  refine hC.2.1 _ 0 [_] _ _ _ _ _ (m_isMaking_t (i := 1) hi hn) rfl rfl (Nat.le_of_ble_eq_true rfl) rfl ?_
  refine mB hT 2 rfl ?_
  refine hC.2.2.1 _ 0 [] _ _ _ _ _ (show KX3_layNow l D ca ad _ _ none (MW (Int32.ofNat n) (Int32.ofNat vs) dt un h (boX 4 0) tt tt ro ot Bm bk) from (by rw [edt, ett]; exact m_layNow hn)) rfl rfl (Nat.le_of_ble_eq_true rfl) rfl ?_
  refine mB hT 5 rfl ?_
  refine mIf (fun _ => ?_) (fun hn => absurd (lc_eq.mpr h0) hn)
  refine mB hT 1 rfl ?_
  exact hR _ (by decide) _ _ _ rfl rfl
set_option maxRecDepth 20000 in
theorem m_runs_1 {n vs : Nat} {wo un h : Int64} {bo : Nat → Int32} {ta tr ro ot : Nat → Int64} {Bm : Nat → Nat → Nat → Int32} {bk : Nat → Nat → Int32} (hi : 1 < n) (hn : n ≤ 4) {b : Nat} (hb : b < 4) (h0 : ¬ dtM (TnM n Bm 4 0) = 0) : ∃ (wo2 un2 h2 : Int64) (bo2 : Nat → Int32) (ta2 tr2 ro2 ot2 : Nat → Int64), KX3_runs l D ca ad [.ref 0, .int (Int32.ofNat b), .int 1] (MW (Int32.ofNat n) (Int32.ofNat vs) wo un h bo ta tr ro ot Bm bk) (some (.long (thM ((rdM n (TnM n Bm 4 0) (dtM (TnM n Bm 4 0)) (fun j => (bk b j).toInt64)) 1 * (alM n (Bm 6) 1).toInt64) (absX (dtM (TnM n Bm 4 0)))))) (MW (Int32.ofNat n) (Int32.ofNat vs) wo2 un2 h2 bo2 ta2 tr2 ro2 ot2 Bm bk) := by
  obtain ⟨tt, ett⟩ : ∃ z, z = TnM n Bm 4 0 := ⟨_, rfl⟩
  obtain ⟨dt, edt⟩ : ∃ z, z = dtM tt := ⟨_, rfl⟩
  rw [← ett, ← edt] at h0
  obtain ⟨rr, err⟩ : ∃ z, z = rdM n tt dt (fun j => (bk b j).toInt64) := ⟨_, rfl⟩
  obtain ⟨ts, ets⟩ : ∃ z, z = tsM n tt 3 (fun j => (bk b j).toInt64) := ⟨_, rfl⟩
  rw [← ett, ← edt, ← err]
  refine ⟨dt, (absX dt), h, (boX 4 0), tt, ts, rr, ot, ?_⟩
  refine PX3_runs (Nat.le_of_ble_eq_true rfl) ?_
  intro G hT hC hR
  refine mB hT 1 rfl ?_
  refine hC.1 _ [_] _ _ _ _ (m_isBasket_t hb) rfl (Nat.le_of_ble_eq_true rfl) rfl ?_
  refine mB hT 3 rfl ?_
  refine hC.2.1 _ 0 [_] _ _ _ _ _ (m_isMaking_t (i := 1) hi hn) rfl rfl (Nat.le_of_ble_eq_true rfl) rfl ?_
  refine mB hT 2 rfl ?_
  refine hC.2.2.1 _ 0 [] _ _ _ _ _ (show KX3_layNow l D ca ad _ _ none (MW (Int32.ofNat n) (Int32.ofNat vs) dt un h (boX 4 0) tt tt ro ot Bm bk) from (by rw [edt, ett]; exact m_layNow hn)) rfl rfl (Nat.le_of_ble_eq_true rfl) rfl ?_
  refine mB hT 5 rfl ?_
  refine mIf (fun hp => absurd hp (fun q => h0 (lc_eq.mp q))) (fun _ => ?_)
  refine mB hT 2 rfl ?_
  refine hC.2.2.2.1 _ 0 [_] _ _ _ _ _ (show KX3_solve l D ca ad _ _ none (MW (Int32.ofNat n) (Int32.ofNat vs) dt (absX dt) h (boX 4 0) tt ts rr ot Bm bk) from (by rw [err, ets]; exact m_solve hn hb)) rfl rfl (Nat.le_of_ble_eq_true rfl) rfl ?_
  refine mB hT 7 rfl ?_
  refine hC.2.2.2.2.1 _ 0 [_, _] _ _ _ _ _ (m_all_6_1 hn) rfl rfl (Nat.le_of_ble_eq_true rfl) rfl ?_
  refine mB hT 4 rfl ?_
  refine hC.2.2.2.2.2 _ [_, _] _ _ _ _ (m_th (absX_ne h0)) rfl (Nat.le_of_ble_eq_true rfl) rfl ?_
  exact hR _ (by decide) _ _ _ rfl rfl
set_option maxRecDepth 20000 in
theorem m_share_B_1 {n vs : Nat} {wo un h : Int64} {bo : Nat → Int32} {ta tr ro ot : Nat → Int64} {Bm : Nat → Nat → Nat → Int32} {bk : Nat → Nat → Int32} (hi : 1 < n) (hn : n ≤ 4) {b : Nat} (hb : b < 4) {k : Nat} (hk : k < 3) (h0 : dtM (TnM n Bm 4 0) = 0) : ∃ (wo2 un2 h2 : Int64) (bo2 : Nat → Int32) (ta2 tr2 ro2 ot2 : Nat → Int64), KX3_share l D ca ad [.ref 0, .int (Int32.ofNat b), .int (Int32.ofNat k), .int 1] (MW (Int32.ofNat n) (Int32.ofNat vs) wo un h bo ta tr ro ot Bm bk) (some (.long (-9000000000000000004))) (MW (Int32.ofNat n) (Int32.ofNat vs) wo2 un2 h2 bo2 ta2 tr2 ro2 ot2 Bm bk) := by
  obtain ⟨tt, ett⟩ : ∃ z, z = TnM n Bm 4 0 := ⟨_, rfl⟩
  obtain ⟨dt, edt⟩ : ∃ z, z = dtM tt := ⟨_, rfl⟩
  rw [← ett, ← edt] at h0
  refine ⟨dt, un, h, (boX 4 0), tt, tt, ro, ot, ?_⟩
  refine PX3_share (Nat.le_of_ble_eq_true rfl) ?_
  intro G hT hC hR
  refine mB hT 1 rfl ?_
  refine hC.1 _ [_] _ _ _ _ (m_isBasket_t hb) rfl (Nat.le_of_ble_eq_true rfl) rfl ?_
  refine mB hT 2 rfl ?_
  refine hC.2.1 _ [_] _ _ _ _ (m_isStuff_t hk) rfl (Nat.le_of_ble_eq_true rfl) rfl ?_
  refine mB hT 3 rfl ?_
  refine hC.2.2.1 _ 0 [_] _ _ _ _ _ (m_isMaking_t (i := 1) hi hn) rfl rfl (Nat.le_of_ble_eq_true rfl) rfl ?_
  refine mB hT 2 rfl ?_
  refine hC.2.2.2.1 _ 0 [] _ _ _ _ _ (show KX3_layNow l D ca ad _ _ none (MW (Int32.ofNat n) (Int32.ofNat vs) dt un h (boX 4 0) tt tt ro ot Bm bk) from (by rw [edt, ett]; exact m_layNow hn)) rfl rfl (Nat.le_of_ble_eq_true rfl) rfl ?_
  refine mB hT 5 rfl ?_
  refine mIf (fun _ => ?_) (fun hn => absurd (lc_eq.mpr h0) hn)
  refine mB hT 1 rfl ?_
  exact hR _ (by decide) _ _ _ rfl rfl
set_option maxRecDepth 20000 in
theorem m_share_1 {n vs : Nat} {wo un h : Int64} {bo : Nat → Int32} {ta tr ro ot : Nat → Int64} {Bm : Nat → Nat → Nat → Int32} {bk : Nat → Nat → Int32} (hi : 1 < n) (hn : n ≤ 4) {b : Nat} (hb : b < 4) {k : Nat} (hk : k < 3) (h0 : ¬ dtM (TnM n Bm 4 0) = 0) : ∃ (wo2 un2 h2 : Int64) (bo2 : Nat → Int32) (ta2 tr2 ro2 ot2 : Nat → Int64), KX3_share l D ca ad [.ref 0, .int (Int32.ofNat b), .int (Int32.ofNat k), .int 1] (MW (Int32.ofNat n) (Int32.ofNat vs) wo un h bo ta tr ro ot Bm bk) (some (.long (thM (emM (Bm (bkM 4 0 1) 1) k 1 * (rdM n (TnM n Bm 4 0) (dtM (TnM n Bm 4 0)) (fun j => (bk b j).toInt64)) 1) (absX (dtM (TnM n Bm 4 0)))))) (MW (Int32.ofNat n) (Int32.ofNat vs) wo2 un2 h2 bo2 ta2 tr2 ro2 ot2 Bm bk) := by
  obtain ⟨tt, ett⟩ : ∃ z, z = TnM n Bm 4 0 := ⟨_, rfl⟩
  obtain ⟨dt, edt⟩ : ∃ z, z = dtM tt := ⟨_, rfl⟩
  rw [← ett, ← edt] at h0
  obtain ⟨rr, err⟩ : ∃ z, z = rdM n tt dt (fun j => (bk b j).toInt64) := ⟨_, rfl⟩
  obtain ⟨ts, ets⟩ : ∃ z, z = tsM n tt 3 (fun j => (bk b j).toInt64) := ⟨_, rfl⟩
  rw [← ett, ← edt, ← err]
  refine ⟨dt, (absX dt), h, (boX 4 0), tt, ts, rr, ot, ?_⟩
  refine PX3_share (Nat.le_of_ble_eq_true rfl) ?_
  intro G hT hC hR
  refine mB hT 1 rfl ?_
  refine hC.1 _ [_] _ _ _ _ (m_isBasket_t hb) rfl (Nat.le_of_ble_eq_true rfl) rfl ?_
  refine mB hT 2 rfl ?_
  refine hC.2.1 _ [_] _ _ _ _ (m_isStuff_t hk) rfl (Nat.le_of_ble_eq_true rfl) rfl ?_
  refine mB hT 3 rfl ?_
  refine hC.2.2.1 _ 0 [_] _ _ _ _ _ (m_isMaking_t (i := 1) hi hn) rfl rfl (Nat.le_of_ble_eq_true rfl) rfl ?_
  refine mB hT 2 rfl ?_
  refine hC.2.2.2.1 _ 0 [] _ _ _ _ _ (show KX3_layNow l D ca ad _ _ none (MW (Int32.ofNat n) (Int32.ofNat vs) dt un h (boX 4 0) tt tt ro ot Bm bk) from (by rw [edt, ett]; exact m_layNow hn)) rfl rfl (Nat.le_of_ble_eq_true rfl) rfl ?_
  refine mB hT 5 rfl ?_
  refine mIf (fun hp => absurd hp (fun q => h0 (lc_eq.mp q))) (fun _ => ?_)
  refine mB hT 2 rfl ?_
  refine hC.2.2.2.2.1 _ 0 [_] _ _ _ _ _ (show KX3_solve l D ca ad _ _ none (MW (Int32.ofNat n) (Int32.ofNat vs) dt (absX dt) h (boX 4 0) tt ts rr ot Bm bk) from (by rw [err, ets]; exact m_solve hn hb)) rfl rfl (Nat.le_of_ble_eq_true rfl) rfl ?_
  refine mB hT 4 rfl ?_
  refine hC.2.2.2.2.2.1 _ 0 [_, _, _] _ _ _ _ _ (m_emi_4_0 k hk 1 1 (by decide) (by decide)) rfl rfl (Nat.le_of_ble_eq_true rfl) rfl ?_
  refine mB hT 7 rfl ?_
  refine hC.2.2.2.2.2.2 _ [_, _] _ _ _ _ (m_th (absX_ne h0)) rfl (Nat.le_of_ble_eq_true rfl) rfl ?_
  exact hR _ (by decide) _ _ _ rfl rfl
set_option maxRecDepth 20000 in
theorem m_runs_B_2 {n vs : Nat} {wo un h : Int64} {bo : Nat → Int32} {ta tr ro ot : Nat → Int64} {Bm : Nat → Nat → Nat → Int32} {bk : Nat → Nat → Int32} (hi : 2 < n) (hn : n ≤ 4) {b : Nat} (hb : b < 4) (h0 : dtM (TnM n Bm 4 0) = 0) : ∃ (wo2 un2 h2 : Int64) (bo2 : Nat → Int32) (ta2 tr2 ro2 ot2 : Nat → Int64), KX3_runs l D ca ad [.ref 0, .int (Int32.ofNat b), .int 2] (MW (Int32.ofNat n) (Int32.ofNat vs) wo un h bo ta tr ro ot Bm bk) (some (.long (-9000000000000000004))) (MW (Int32.ofNat n) (Int32.ofNat vs) wo2 un2 h2 bo2 ta2 tr2 ro2 ot2 Bm bk) := by
  obtain ⟨tt, ett⟩ : ∃ z, z = TnM n Bm 4 0 := ⟨_, rfl⟩
  obtain ⟨dt, edt⟩ : ∃ z, z = dtM tt := ⟨_, rfl⟩
  rw [← ett, ← edt] at h0
  refine ⟨dt, un, h, (boX 4 0), tt, tt, ro, ot, ?_⟩
  refine PX3_runs (Nat.le_of_ble_eq_true rfl) ?_
  intro G hT hC hR
  refine mB hT 1 rfl ?_
  refine hC.1 _ [_] _ _ _ _ (m_isBasket_t hb) rfl (Nat.le_of_ble_eq_true rfl) rfl ?_
  refine mB hT 3 rfl ?_
  refine hC.2.1 _ 0 [_] _ _ _ _ _ (m_isMaking_t (i := 2) hi hn) rfl rfl (Nat.le_of_ble_eq_true rfl) rfl ?_
  refine mB hT 2 rfl ?_
  refine hC.2.2.1 _ 0 [] _ _ _ _ _ (show KX3_layNow l D ca ad _ _ none (MW (Int32.ofNat n) (Int32.ofNat vs) dt un h (boX 4 0) tt tt ro ot Bm bk) from (by rw [edt, ett]; exact m_layNow hn)) rfl rfl (Nat.le_of_ble_eq_true rfl) rfl ?_
  refine mB hT 5 rfl ?_
  refine mIf (fun _ => ?_) (fun hn => absurd (lc_eq.mpr h0) hn)
  refine mB hT 1 rfl ?_
  exact hR _ (by decide) _ _ _ rfl rfl
set_option maxRecDepth 20000 in
theorem m_runs_2 {n vs : Nat} {wo un h : Int64} {bo : Nat → Int32} {ta tr ro ot : Nat → Int64} {Bm : Nat → Nat → Nat → Int32} {bk : Nat → Nat → Int32} (hi : 2 < n) (hn : n ≤ 4) {b : Nat} (hb : b < 4) (h0 : ¬ dtM (TnM n Bm 4 0) = 0) : ∃ (wo2 un2 h2 : Int64) (bo2 : Nat → Int32) (ta2 tr2 ro2 ot2 : Nat → Int64), KX3_runs l D ca ad [.ref 0, .int (Int32.ofNat b), .int 2] (MW (Int32.ofNat n) (Int32.ofNat vs) wo un h bo ta tr ro ot Bm bk) (some (.long (thM ((rdM n (TnM n Bm 4 0) (dtM (TnM n Bm 4 0)) (fun j => (bk b j).toInt64)) 2 * (alM n (Bm 6) 2).toInt64) (absX (dtM (TnM n Bm 4 0)))))) (MW (Int32.ofNat n) (Int32.ofNat vs) wo2 un2 h2 bo2 ta2 tr2 ro2 ot2 Bm bk) := by
  obtain ⟨tt, ett⟩ : ∃ z, z = TnM n Bm 4 0 := ⟨_, rfl⟩
  obtain ⟨dt, edt⟩ : ∃ z, z = dtM tt := ⟨_, rfl⟩
  rw [← ett, ← edt] at h0
  obtain ⟨rr, err⟩ : ∃ z, z = rdM n tt dt (fun j => (bk b j).toInt64) := ⟨_, rfl⟩
  obtain ⟨ts, ets⟩ : ∃ z, z = tsM n tt 3 (fun j => (bk b j).toInt64) := ⟨_, rfl⟩
  rw [← ett, ← edt, ← err]
  refine ⟨dt, (absX dt), h, (boX 4 0), tt, ts, rr, ot, ?_⟩
  refine PX3_runs (Nat.le_of_ble_eq_true rfl) ?_
  intro G hT hC hR
  refine mB hT 1 rfl ?_
  refine hC.1 _ [_] _ _ _ _ (m_isBasket_t hb) rfl (Nat.le_of_ble_eq_true rfl) rfl ?_
  refine mB hT 3 rfl ?_
  refine hC.2.1 _ 0 [_] _ _ _ _ _ (m_isMaking_t (i := 2) hi hn) rfl rfl (Nat.le_of_ble_eq_true rfl) rfl ?_
  refine mB hT 2 rfl ?_
  refine hC.2.2.1 _ 0 [] _ _ _ _ _ (show KX3_layNow l D ca ad _ _ none (MW (Int32.ofNat n) (Int32.ofNat vs) dt un h (boX 4 0) tt tt ro ot Bm bk) from (by rw [edt, ett]; exact m_layNow hn)) rfl rfl (Nat.le_of_ble_eq_true rfl) rfl ?_
  refine mB hT 5 rfl ?_
  refine mIf (fun hp => absurd hp (fun q => h0 (lc_eq.mp q))) (fun _ => ?_)
  refine mB hT 2 rfl ?_
  refine hC.2.2.2.1 _ 0 [_] _ _ _ _ _ (show KX3_solve l D ca ad _ _ none (MW (Int32.ofNat n) (Int32.ofNat vs) dt (absX dt) h (boX 4 0) tt ts rr ot Bm bk) from (by rw [err, ets]; exact m_solve hn hb)) rfl rfl (Nat.le_of_ble_eq_true rfl) rfl ?_
  refine mB hT 7 rfl ?_
  refine hC.2.2.2.2.1 _ 0 [_, _] _ _ _ _ _ (m_all_6_2 hn) rfl rfl (Nat.le_of_ble_eq_true rfl) rfl ?_
  refine mB hT 4 rfl ?_
  refine hC.2.2.2.2.2 _ [_, _] _ _ _ _ (m_th (absX_ne h0)) rfl (Nat.le_of_ble_eq_true rfl) rfl ?_
  exact hR _ (by decide) _ _ _ rfl rfl
set_option maxRecDepth 20000 in
theorem m_share_B_2 {n vs : Nat} {wo un h : Int64} {bo : Nat → Int32} {ta tr ro ot : Nat → Int64} {Bm : Nat → Nat → Nat → Int32} {bk : Nat → Nat → Int32} (hi : 2 < n) (hn : n ≤ 4) {b : Nat} (hb : b < 4) {k : Nat} (hk : k < 3) (h0 : dtM (TnM n Bm 4 0) = 0) : ∃ (wo2 un2 h2 : Int64) (bo2 : Nat → Int32) (ta2 tr2 ro2 ot2 : Nat → Int64), KX3_share l D ca ad [.ref 0, .int (Int32.ofNat b), .int (Int32.ofNat k), .int 2] (MW (Int32.ofNat n) (Int32.ofNat vs) wo un h bo ta tr ro ot Bm bk) (some (.long (-9000000000000000004))) (MW (Int32.ofNat n) (Int32.ofNat vs) wo2 un2 h2 bo2 ta2 tr2 ro2 ot2 Bm bk) := by
  obtain ⟨tt, ett⟩ : ∃ z, z = TnM n Bm 4 0 := ⟨_, rfl⟩
  obtain ⟨dt, edt⟩ : ∃ z, z = dtM tt := ⟨_, rfl⟩
  rw [← ett, ← edt] at h0
  refine ⟨dt, un, h, (boX 4 0), tt, tt, ro, ot, ?_⟩
  refine PX3_share (Nat.le_of_ble_eq_true rfl) ?_
  intro G hT hC hR
  refine mB hT 1 rfl ?_
  refine hC.1 _ [_] _ _ _ _ (m_isBasket_t hb) rfl (Nat.le_of_ble_eq_true rfl) rfl ?_
  refine mB hT 2 rfl ?_
  refine hC.2.1 _ [_] _ _ _ _ (m_isStuff_t hk) rfl (Nat.le_of_ble_eq_true rfl) rfl ?_
  refine mB hT 3 rfl ?_
  refine hC.2.2.1 _ 0 [_] _ _ _ _ _ (m_isMaking_t (i := 2) hi hn) rfl rfl (Nat.le_of_ble_eq_true rfl) rfl ?_
  refine mB hT 2 rfl ?_
  refine hC.2.2.2.1 _ 0 [] _ _ _ _ _ (show KX3_layNow l D ca ad _ _ none (MW (Int32.ofNat n) (Int32.ofNat vs) dt un h (boX 4 0) tt tt ro ot Bm bk) from (by rw [edt, ett]; exact m_layNow hn)) rfl rfl (Nat.le_of_ble_eq_true rfl) rfl ?_
  refine mB hT 5 rfl ?_
  refine mIf (fun _ => ?_) (fun hn => absurd (lc_eq.mpr h0) hn)
  refine mB hT 1 rfl ?_
  exact hR _ (by decide) _ _ _ rfl rfl
set_option maxRecDepth 20000 in
theorem m_share_2 {n vs : Nat} {wo un h : Int64} {bo : Nat → Int32} {ta tr ro ot : Nat → Int64} {Bm : Nat → Nat → Nat → Int32} {bk : Nat → Nat → Int32} (hi : 2 < n) (hn : n ≤ 4) {b : Nat} (hb : b < 4) {k : Nat} (hk : k < 3) (h0 : ¬ dtM (TnM n Bm 4 0) = 0) : ∃ (wo2 un2 h2 : Int64) (bo2 : Nat → Int32) (ta2 tr2 ro2 ot2 : Nat → Int64), KX3_share l D ca ad [.ref 0, .int (Int32.ofNat b), .int (Int32.ofNat k), .int 2] (MW (Int32.ofNat n) (Int32.ofNat vs) wo un h bo ta tr ro ot Bm bk) (some (.long (thM (emM (Bm (bkM 4 0 2) 2) k 1 * (rdM n (TnM n Bm 4 0) (dtM (TnM n Bm 4 0)) (fun j => (bk b j).toInt64)) 2) (absX (dtM (TnM n Bm 4 0)))))) (MW (Int32.ofNat n) (Int32.ofNat vs) wo2 un2 h2 bo2 ta2 tr2 ro2 ot2 Bm bk) := by
  obtain ⟨tt, ett⟩ : ∃ z, z = TnM n Bm 4 0 := ⟨_, rfl⟩
  obtain ⟨dt, edt⟩ : ∃ z, z = dtM tt := ⟨_, rfl⟩
  rw [← ett, ← edt] at h0
  obtain ⟨rr, err⟩ : ∃ z, z = rdM n tt dt (fun j => (bk b j).toInt64) := ⟨_, rfl⟩
  obtain ⟨ts, ets⟩ : ∃ z, z = tsM n tt 3 (fun j => (bk b j).toInt64) := ⟨_, rfl⟩
  rw [← ett, ← edt, ← err]
  refine ⟨dt, (absX dt), h, (boX 4 0), tt, ts, rr, ot, ?_⟩
  refine PX3_share (Nat.le_of_ble_eq_true rfl) ?_
  intro G hT hC hR
  refine mB hT 1 rfl ?_
  refine hC.1 _ [_] _ _ _ _ (m_isBasket_t hb) rfl (Nat.le_of_ble_eq_true rfl) rfl ?_
  refine mB hT 2 rfl ?_
  refine hC.2.1 _ [_] _ _ _ _ (m_isStuff_t hk) rfl (Nat.le_of_ble_eq_true rfl) rfl ?_
  refine mB hT 3 rfl ?_
  refine hC.2.2.1 _ 0 [_] _ _ _ _ _ (m_isMaking_t (i := 2) hi hn) rfl rfl (Nat.le_of_ble_eq_true rfl) rfl ?_
  refine mB hT 2 rfl ?_
  refine hC.2.2.2.1 _ 0 [] _ _ _ _ _ (show KX3_layNow l D ca ad _ _ none (MW (Int32.ofNat n) (Int32.ofNat vs) dt un h (boX 4 0) tt tt ro ot Bm bk) from (by rw [edt, ett]; exact m_layNow hn)) rfl rfl (Nat.le_of_ble_eq_true rfl) rfl ?_
  refine mB hT 5 rfl ?_
  refine mIf (fun hp => absurd hp (fun q => h0 (lc_eq.mp q))) (fun _ => ?_)
  refine mB hT 2 rfl ?_
  refine hC.2.2.2.2.1 _ 0 [_] _ _ _ _ _ (show KX3_solve l D ca ad _ _ none (MW (Int32.ofNat n) (Int32.ofNat vs) dt (absX dt) h (boX 4 0) tt ts rr ot Bm bk) from (by rw [err, ets]; exact m_solve hn hb)) rfl rfl (Nat.le_of_ble_eq_true rfl) rfl ?_
  refine mB hT 4 rfl ?_
  refine hC.2.2.2.2.2.1 _ 0 [_, _, _] _ _ _ _ _ (m_emi_4_0 k hk 2 1 (by decide) (by decide)) rfl rfl (Nat.le_of_ble_eq_true rfl) rfl ?_
  refine mB hT 7 rfl ?_
  refine hC.2.2.2.2.2.2 _ [_, _] _ _ _ _ (m_th (absX_ne h0)) rfl (Nat.le_of_ble_eq_true rfl) rfl ?_
  exact hR _ (by decide) _ _ _ rfl rfl
set_option maxRecDepth 20000 in
theorem m_runs_B_3 {n vs : Nat} {wo un h : Int64} {bo : Nat → Int32} {ta tr ro ot : Nat → Int64} {Bm : Nat → Nat → Nat → Int32} {bk : Nat → Nat → Int32} (hi : 3 < n) (hn : n ≤ 4) {b : Nat} (hb : b < 4) (h0 : dtM (TnM n Bm 4 0) = 0) : ∃ (wo2 un2 h2 : Int64) (bo2 : Nat → Int32) (ta2 tr2 ro2 ot2 : Nat → Int64), KX3_runs l D ca ad [.ref 0, .int (Int32.ofNat b), .int 3] (MW (Int32.ofNat n) (Int32.ofNat vs) wo un h bo ta tr ro ot Bm bk) (some (.long (-9000000000000000004))) (MW (Int32.ofNat n) (Int32.ofNat vs) wo2 un2 h2 bo2 ta2 tr2 ro2 ot2 Bm bk) := by
  obtain ⟨tt, ett⟩ : ∃ z, z = TnM n Bm 4 0 := ⟨_, rfl⟩
  obtain ⟨dt, edt⟩ : ∃ z, z = dtM tt := ⟨_, rfl⟩
  rw [← ett, ← edt] at h0
  refine ⟨dt, un, h, (boX 4 0), tt, tt, ro, ot, ?_⟩
  refine PX3_runs (Nat.le_of_ble_eq_true rfl) ?_
  intro G hT hC hR
  refine mB hT 1 rfl ?_
  refine hC.1 _ [_] _ _ _ _ (m_isBasket_t hb) rfl (Nat.le_of_ble_eq_true rfl) rfl ?_
  refine mB hT 3 rfl ?_
  refine hC.2.1 _ 0 [_] _ _ _ _ _ (m_isMaking_t (i := 3) hi hn) rfl rfl (Nat.le_of_ble_eq_true rfl) rfl ?_
  refine mB hT 2 rfl ?_
  refine hC.2.2.1 _ 0 [] _ _ _ _ _ (show KX3_layNow l D ca ad _ _ none (MW (Int32.ofNat n) (Int32.ofNat vs) dt un h (boX 4 0) tt tt ro ot Bm bk) from (by rw [edt, ett]; exact m_layNow hn)) rfl rfl (Nat.le_of_ble_eq_true rfl) rfl ?_
  refine mB hT 5 rfl ?_
  refine mIf (fun _ => ?_) (fun hn => absurd (lc_eq.mpr h0) hn)
  refine mB hT 1 rfl ?_
  exact hR _ (by decide) _ _ _ rfl rfl
set_option maxRecDepth 20000 in
theorem m_runs_3 {n vs : Nat} {wo un h : Int64} {bo : Nat → Int32} {ta tr ro ot : Nat → Int64} {Bm : Nat → Nat → Nat → Int32} {bk : Nat → Nat → Int32} (hi : 3 < n) (hn : n ≤ 4) {b : Nat} (hb : b < 4) (h0 : ¬ dtM (TnM n Bm 4 0) = 0) : ∃ (wo2 un2 h2 : Int64) (bo2 : Nat → Int32) (ta2 tr2 ro2 ot2 : Nat → Int64), KX3_runs l D ca ad [.ref 0, .int (Int32.ofNat b), .int 3] (MW (Int32.ofNat n) (Int32.ofNat vs) wo un h bo ta tr ro ot Bm bk) (some (.long (thM ((rdM n (TnM n Bm 4 0) (dtM (TnM n Bm 4 0)) (fun j => (bk b j).toInt64)) 3 * (alM n (Bm 6) 3).toInt64) (absX (dtM (TnM n Bm 4 0)))))) (MW (Int32.ofNat n) (Int32.ofNat vs) wo2 un2 h2 bo2 ta2 tr2 ro2 ot2 Bm bk) := by
  obtain ⟨tt, ett⟩ : ∃ z, z = TnM n Bm 4 0 := ⟨_, rfl⟩
  obtain ⟨dt, edt⟩ : ∃ z, z = dtM tt := ⟨_, rfl⟩
  rw [← ett, ← edt] at h0
  obtain ⟨rr, err⟩ : ∃ z, z = rdM n tt dt (fun j => (bk b j).toInt64) := ⟨_, rfl⟩
  obtain ⟨ts, ets⟩ : ∃ z, z = tsM n tt 3 (fun j => (bk b j).toInt64) := ⟨_, rfl⟩
  rw [← ett, ← edt, ← err]
  refine ⟨dt, (absX dt), h, (boX 4 0), tt, ts, rr, ot, ?_⟩
  refine PX3_runs (Nat.le_of_ble_eq_true rfl) ?_
  intro G hT hC hR
  refine mB hT 1 rfl ?_
  refine hC.1 _ [_] _ _ _ _ (m_isBasket_t hb) rfl (Nat.le_of_ble_eq_true rfl) rfl ?_
  refine mB hT 3 rfl ?_
  refine hC.2.1 _ 0 [_] _ _ _ _ _ (m_isMaking_t (i := 3) hi hn) rfl rfl (Nat.le_of_ble_eq_true rfl) rfl ?_
  refine mB hT 2 rfl ?_
  refine hC.2.2.1 _ 0 [] _ _ _ _ _ (show KX3_layNow l D ca ad _ _ none (MW (Int32.ofNat n) (Int32.ofNat vs) dt un h (boX 4 0) tt tt ro ot Bm bk) from (by rw [edt, ett]; exact m_layNow hn)) rfl rfl (Nat.le_of_ble_eq_true rfl) rfl ?_
  refine mB hT 5 rfl ?_
  refine mIf (fun hp => absurd hp (fun q => h0 (lc_eq.mp q))) (fun _ => ?_)
  refine mB hT 2 rfl ?_
  refine hC.2.2.2.1 _ 0 [_] _ _ _ _ _ (show KX3_solve l D ca ad _ _ none (MW (Int32.ofNat n) (Int32.ofNat vs) dt (absX dt) h (boX 4 0) tt ts rr ot Bm bk) from (by rw [err, ets]; exact m_solve hn hb)) rfl rfl (Nat.le_of_ble_eq_true rfl) rfl ?_
  refine mB hT 7 rfl ?_
  refine hC.2.2.2.2.1 _ 0 [_, _] _ _ _ _ _ (m_all_6_3 hn) rfl rfl (Nat.le_of_ble_eq_true rfl) rfl ?_
  refine mB hT 4 rfl ?_
  refine hC.2.2.2.2.2 _ [_, _] _ _ _ _ (m_th (absX_ne h0)) rfl (Nat.le_of_ble_eq_true rfl) rfl ?_
  exact hR _ (by decide) _ _ _ rfl rfl
set_option maxRecDepth 20000 in
theorem m_share_B_3 {n vs : Nat} {wo un h : Int64} {bo : Nat → Int32} {ta tr ro ot : Nat → Int64} {Bm : Nat → Nat → Nat → Int32} {bk : Nat → Nat → Int32} (hi : 3 < n) (hn : n ≤ 4) {b : Nat} (hb : b < 4) {k : Nat} (hk : k < 3) (h0 : dtM (TnM n Bm 4 0) = 0) : ∃ (wo2 un2 h2 : Int64) (bo2 : Nat → Int32) (ta2 tr2 ro2 ot2 : Nat → Int64), KX3_share l D ca ad [.ref 0, .int (Int32.ofNat b), .int (Int32.ofNat k), .int 3] (MW (Int32.ofNat n) (Int32.ofNat vs) wo un h bo ta tr ro ot Bm bk) (some (.long (-9000000000000000004))) (MW (Int32.ofNat n) (Int32.ofNat vs) wo2 un2 h2 bo2 ta2 tr2 ro2 ot2 Bm bk) := by
  obtain ⟨tt, ett⟩ : ∃ z, z = TnM n Bm 4 0 := ⟨_, rfl⟩
  obtain ⟨dt, edt⟩ : ∃ z, z = dtM tt := ⟨_, rfl⟩
  rw [← ett, ← edt] at h0
  refine ⟨dt, un, h, (boX 4 0), tt, tt, ro, ot, ?_⟩
  refine PX3_share (Nat.le_of_ble_eq_true rfl) ?_
  intro G hT hC hR
  refine mB hT 1 rfl ?_
  refine hC.1 _ [_] _ _ _ _ (m_isBasket_t hb) rfl (Nat.le_of_ble_eq_true rfl) rfl ?_
  refine mB hT 2 rfl ?_
  refine hC.2.1 _ [_] _ _ _ _ (m_isStuff_t hk) rfl (Nat.le_of_ble_eq_true rfl) rfl ?_
  refine mB hT 3 rfl ?_
  refine hC.2.2.1 _ 0 [_] _ _ _ _ _ (m_isMaking_t (i := 3) hi hn) rfl rfl (Nat.le_of_ble_eq_true rfl) rfl ?_
  refine mB hT 2 rfl ?_
  refine hC.2.2.2.1 _ 0 [] _ _ _ _ _ (show KX3_layNow l D ca ad _ _ none (MW (Int32.ofNat n) (Int32.ofNat vs) dt un h (boX 4 0) tt tt ro ot Bm bk) from (by rw [edt, ett]; exact m_layNow hn)) rfl rfl (Nat.le_of_ble_eq_true rfl) rfl ?_
  refine mB hT 5 rfl ?_
  refine mIf (fun _ => ?_) (fun hn => absurd (lc_eq.mpr h0) hn)
  refine mB hT 1 rfl ?_
  exact hR _ (by decide) _ _ _ rfl rfl
set_option maxRecDepth 20000 in
theorem m_share_3 {n vs : Nat} {wo un h : Int64} {bo : Nat → Int32} {ta tr ro ot : Nat → Int64} {Bm : Nat → Nat → Nat → Int32} {bk : Nat → Nat → Int32} (hi : 3 < n) (hn : n ≤ 4) {b : Nat} (hb : b < 4) {k : Nat} (hk : k < 3) (h0 : ¬ dtM (TnM n Bm 4 0) = 0) : ∃ (wo2 un2 h2 : Int64) (bo2 : Nat → Int32) (ta2 tr2 ro2 ot2 : Nat → Int64), KX3_share l D ca ad [.ref 0, .int (Int32.ofNat b), .int (Int32.ofNat k), .int 3] (MW (Int32.ofNat n) (Int32.ofNat vs) wo un h bo ta tr ro ot Bm bk) (some (.long (thM (emM (Bm (bkM 4 0 3) 3) k 1 * (rdM n (TnM n Bm 4 0) (dtM (TnM n Bm 4 0)) (fun j => (bk b j).toInt64)) 3) (absX (dtM (TnM n Bm 4 0)))))) (MW (Int32.ofNat n) (Int32.ofNat vs) wo2 un2 h2 bo2 ta2 tr2 ro2 ot2 Bm bk) := by
  obtain ⟨tt, ett⟩ : ∃ z, z = TnM n Bm 4 0 := ⟨_, rfl⟩
  obtain ⟨dt, edt⟩ : ∃ z, z = dtM tt := ⟨_, rfl⟩
  rw [← ett, ← edt] at h0
  obtain ⟨rr, err⟩ : ∃ z, z = rdM n tt dt (fun j => (bk b j).toInt64) := ⟨_, rfl⟩
  obtain ⟨ts, ets⟩ : ∃ z, z = tsM n tt 3 (fun j => (bk b j).toInt64) := ⟨_, rfl⟩
  rw [← ett, ← edt, ← err]
  refine ⟨dt, (absX dt), h, (boX 4 0), tt, ts, rr, ot, ?_⟩
  refine PX3_share (Nat.le_of_ble_eq_true rfl) ?_
  intro G hT hC hR
  refine mB hT 1 rfl ?_
  refine hC.1 _ [_] _ _ _ _ (m_isBasket_t hb) rfl (Nat.le_of_ble_eq_true rfl) rfl ?_
  refine mB hT 2 rfl ?_
  refine hC.2.1 _ [_] _ _ _ _ (m_isStuff_t hk) rfl (Nat.le_of_ble_eq_true rfl) rfl ?_
  refine mB hT 3 rfl ?_
  refine hC.2.2.1 _ 0 [_] _ _ _ _ _ (m_isMaking_t (i := 3) hi hn) rfl rfl (Nat.le_of_ble_eq_true rfl) rfl ?_
  refine mB hT 2 rfl ?_
  refine hC.2.2.2.1 _ 0 [] _ _ _ _ _ (show KX3_layNow l D ca ad _ _ none (MW (Int32.ofNat n) (Int32.ofNat vs) dt un h (boX 4 0) tt tt ro ot Bm bk) from (by rw [edt, ett]; exact m_layNow hn)) rfl rfl (Nat.le_of_ble_eq_true rfl) rfl ?_
  refine mB hT 5 rfl ?_
  refine mIf (fun hp => absurd hp (fun q => h0 (lc_eq.mp q))) (fun _ => ?_)
  refine mB hT 2 rfl ?_
  refine hC.2.2.2.2.1 _ 0 [_] _ _ _ _ _ (show KX3_solve l D ca ad _ _ none (MW (Int32.ofNat n) (Int32.ofNat vs) dt (absX dt) h (boX 4 0) tt ts rr ot Bm bk) from (by rw [err, ets]; exact m_solve hn hb)) rfl rfl (Nat.le_of_ble_eq_true rfl) rfl ?_
  refine mB hT 4 rfl ?_
  refine hC.2.2.2.2.2.1 _ 0 [_, _, _] _ _ _ _ _ (m_emi_4_0 k hk 3 1 (by decide) (by decide)) rfl rfl (Nat.le_of_ble_eq_true rfl) rfl ?_
  refine mB hT 7 rfl ?_
  refine hC.2.2.2.2.2.2 _ [_, _] _ _ _ _ (m_th (absX_ne h0)) rfl (Nat.le_of_ble_eq_true rfl) rfl ?_
  exact hR _ (by decide) _ _ _ rfl rfl
theorem m_runs_B {n vs : Nat} {wo un h : Int64} {bo : Nat → Int32} {ta tr ro ot : Nat → Int64} {Bm : Nat → Nat → Nat → Int32} {bk : Nat → Nat → Int32} {i : Nat} (hi : i < n) (hn : n ≤ 4) {b : Nat} (hb : b < 4) (h0 : dtM (TnM n Bm 4 0) = 0) : ∃ (wo2 un2 h2 : Int64) (bo2 : Nat → Int32) (ta2 tr2 ro2 ot2 : Nat → Int64), KX3_runs l D ca ad [.ref 0, .int (Int32.ofNat b), .int (Int32.ofNat i)] (MW (Int32.ofNat n) (Int32.ofNat vs) wo un h bo ta tr ro ot Bm bk) (some (.long (-9000000000000000004))) (MW (Int32.ofNat n) (Int32.ofNat vs) wo2 un2 h2 bo2 ta2 tr2 ro2 ot2 Bm bk) := by
  match i, hi with
  | 0, hi => exact m_runs_B_0 hi hn hb h0
  | 1, hi => exact m_runs_B_1 hi hn hb h0
  | 2, hi => exact m_runs_B_2 hi hn hb h0
  | 3, hi => exact m_runs_B_3 hi hn hb h0
  | i + 4, hi => omega
theorem m_runs {n vs : Nat} {wo un h : Int64} {bo : Nat → Int32} {ta tr ro ot : Nat → Int64} {Bm : Nat → Nat → Nat → Int32} {bk : Nat → Nat → Int32} {i : Nat} (hi : i < n) (hn : n ≤ 4) {b : Nat} (hb : b < 4) (h0 : ¬ dtM (TnM n Bm 4 0) = 0) : ∃ (wo2 un2 h2 : Int64) (bo2 : Nat → Int32) (ta2 tr2 ro2 ot2 : Nat → Int64), KX3_runs l D ca ad [.ref 0, .int (Int32.ofNat b), .int (Int32.ofNat i)] (MW (Int32.ofNat n) (Int32.ofNat vs) wo un h bo ta tr ro ot Bm bk) (some (.long (thM ((rdM n (TnM n Bm 4 0) (dtM (TnM n Bm 4 0)) (fun j => (bk b j).toInt64)) i * (alM n (Bm 6) i).toInt64) (absX (dtM (TnM n Bm 4 0)))))) (MW (Int32.ofNat n) (Int32.ofNat vs) wo2 un2 h2 bo2 ta2 tr2 ro2 ot2 Bm bk) := by
  match i, hi with
  | 0, hi => exact m_runs_0 hi hn hb h0
  | 1, hi => exact m_runs_1 hi hn hb h0
  | 2, hi => exact m_runs_2 hi hn hb h0
  | 3, hi => exact m_runs_3 hi hn hb h0
  | i + 4, hi => omega
theorem m_share_B {n vs : Nat} {wo un h : Int64} {bo : Nat → Int32} {ta tr ro ot : Nat → Int64} {Bm : Nat → Nat → Nat → Int32} {bk : Nat → Nat → Int32} {i : Nat} (hi : i < n) (hn : n ≤ 4) {b : Nat} (hb : b < 4) {k : Nat} (hk : k < 3) (h0 : dtM (TnM n Bm 4 0) = 0) : ∃ (wo2 un2 h2 : Int64) (bo2 : Nat → Int32) (ta2 tr2 ro2 ot2 : Nat → Int64), KX3_share l D ca ad [.ref 0, .int (Int32.ofNat b), .int (Int32.ofNat k), .int (Int32.ofNat i)] (MW (Int32.ofNat n) (Int32.ofNat vs) wo un h bo ta tr ro ot Bm bk) (some (.long (-9000000000000000004))) (MW (Int32.ofNat n) (Int32.ofNat vs) wo2 un2 h2 bo2 ta2 tr2 ro2 ot2 Bm bk) := by
  match i, hi with
  | 0, hi => exact m_share_B_0 hi hn hb hk h0
  | 1, hi => exact m_share_B_1 hi hn hb hk h0
  | 2, hi => exact m_share_B_2 hi hn hb hk h0
  | 3, hi => exact m_share_B_3 hi hn hb hk h0
  | i + 4, hi => omega
theorem m_share {n vs : Nat} {wo un h : Int64} {bo : Nat → Int32} {ta tr ro ot : Nat → Int64} {Bm : Nat → Nat → Nat → Int32} {bk : Nat → Nat → Int32} {i : Nat} (hi : i < n) (hn : n ≤ 4) {b : Nat} (hb : b < 4) {k : Nat} (hk : k < 3) (h0 : ¬ dtM (TnM n Bm 4 0) = 0) : ∃ (wo2 un2 h2 : Int64) (bo2 : Nat → Int32) (ta2 tr2 ro2 ot2 : Nat → Int64), KX3_share l D ca ad [.ref 0, .int (Int32.ofNat b), .int (Int32.ofNat k), .int (Int32.ofNat i)] (MW (Int32.ofNat n) (Int32.ofNat vs) wo un h bo ta tr ro ot Bm bk) (some (.long (thM (emM (Bm (bkM 4 0 i) i) k 1 * (rdM n (TnM n Bm 4 0) (dtM (TnM n Bm 4 0)) (fun j => (bk b j).toInt64)) i) (absX (dtM (TnM n Bm 4 0)))))) (MW (Int32.ofNat n) (Int32.ofNat vs) wo2 un2 h2 bo2 ta2 tr2 ro2 ot2 Bm bk) := by
  match i, hi with
  | 0, hi => exact m_share_0 hi hn hb hk h0
  | 1, hi => exact m_share_1 hi hn hb hk h0
  | 2, hi => exact m_share_2 hi hn hb hk h0
  | 3, hi => exact m_share_3 hi hn hb hk h0
  | i + 4, hi => omega
set_option maxRecDepth 20000 in
theorem m_total_B_0 {n vs : Nat} {wo un h : Int64} {bo : Nat → Int32} {ta tr ro ot : Nat → Int64} {Bm : Nat → Nat → Nat → Int32} {bk : Nat → Nat → Int32} (hn : n ≤ 4) {b : Nat} (hb : b < 4) {k : Nat} (hk : k < 3) {s : Nat} (hs : s < 3) (h0 : dtM (TnM n Bm 4 0) = 0) : ∃ (wo2 un2 h2 : Int64) (bo2 : Nat → Int32) (ta2 tr2 ro2 ot2 : Nat → Int64), KX3_total l D ca ad [.ref 0, .int (Int32.ofNat b), .int (Int32.ofNat k), .int (Int32.ofNat s), .int 0] (MW (Int32.ofNat n) (Int32.ofNat vs) wo un h bo ta tr ro ot Bm bk) (some (.long (-9000000000000000004))) (MW (Int32.ofNat n) (Int32.ofNat vs) wo2 un2 h2 bo2 ta2 tr2 ro2 ot2 Bm bk) := by
  obtain ⟨tt, ett⟩ : ∃ z, z = TnM n Bm 4 0 := ⟨_, rfl⟩
  obtain ⟨dt, edt⟩ : ∃ z, z = dtM tt := ⟨_, rfl⟩
  rw [← ett, ← edt] at h0
  refine ⟨dt, un, h, (boX 4 0), tt, tt, ro, ot, ?_⟩
  refine PX3_total (Nat.le_of_ble_eq_true rfl) ?_
  intro G hT hC hR
  refine mB hT 1 rfl ?_
  refine hC.1 _ [_] _ _ _ _ (m_isBasket_t hb) rfl (Nat.le_of_ble_eq_true rfl) rfl ?_
  refine mB hT 2 rfl ?_
  refine hC.2.1 _ [_] _ _ _ _ (m_isStuff_t hk) rfl (Nat.le_of_ble_eq_true rfl) rfl ?_
  refine mB hT 4 rfl ?_
  refine hC.2.2.1 _ [_, _, _] _ _ _ _ (m_in_t (nI_pos' (by omega)) (nI_le (b := 2) (by omega) (by omega))) rfl (Nat.le_of_ble_eq_true rfl) rfl ?_
  refine mB hT 4 rfl ?_
  refine hC.2.2.2.1 _ [_, _, _] _ _ _ _ (m_in_t (by decide) (by decide)) rfl (Nat.le_of_ble_eq_true rfl) rfl ?_
  refine mB hT 2 rfl ?_
  refine hC.2.2.2.2.1 _ 0 [] _ _ _ _ _ (show KX3_layNow l D ca ad _ _ none (MW (Int32.ofNat n) (Int32.ofNat vs) dt un h (boX 4 0) tt tt ro ot Bm bk) from (by rw [edt, ett]; exact m_layNow hn)) rfl rfl (Nat.le_of_ble_eq_true rfl) rfl ?_
  refine mB hT 5 rfl ?_
  refine mIf (fun _ => ?_) (fun hn => absurd (lc_eq.mpr h0) hn)
  refine mB hT 1 rfl ?_
  exact hR _ (by decide) _ _ _ rfl rfl
set_option maxRecDepth 20000 in
theorem m_total_0 {n vs : Nat} {wo un h : Int64} {bo : Nat → Int32} {ta tr ro ot : Nat → Int64} {Bm : Nat → Nat → Nat → Int32} {bk : Nat → Nat → Int32} (hn : n ≤ 4) {b : Nat} (hb : b < 4) {k : Nat} (hk : k < 3) {s : Nat} (hs : s < 3) (h0 : ¬ dtM (TnM n Bm 4 0) = 0) (g : Nat) (hge : gcE g (absX (smG n (fun i s => emM (Bm (bkM 4 0 i) i) k s) (rdM n (TnM n Bm 4 0) (dtM (TnM n Bm 4 0)) (fun j => (bk b j).toInt64)) s)) (absX (dtM (TnM n Bm 4 0)))) (hg : ¬ (gcX g (absX (smG n (fun i s => emM (Bm (bkM 4 0 i) i) k s) (rdM n (TnM n Bm 4 0) (dtM (TnM n Bm 4 0)) (fun j => (bk b j).toInt64)) s)) (absX (dtM (TnM n Bm 4 0)))) = 0) : ∃ (wo2 un2 h2 : Int64) (bo2 : Nat → Int32) (ta2 tr2 ro2 ot2 : Nat → Int64), KX3_total l D ca ad [.ref 0, .int (Int32.ofNat b), .int (Int32.ofNat k), .int (Int32.ofNat s), .int 0] (MW (Int32.ofNat n) (Int32.ofNat vs) wo un h bo ta tr ro ot Bm bk) (some (.long ((smG n (fun i s => emM (Bm (bkM 4 0 i) i) k s) (rdM n (TnM n Bm 4 0) (dtM (TnM n Bm 4 0)) (fun j => (bk b j).toInt64)) s) / (gcX g (absX (smG n (fun i s => emM (Bm (bkM 4 0 i) i) k s) (rdM n (TnM n Bm 4 0) (dtM (TnM n Bm 4 0)) (fun j => (bk b j).toInt64)) s)) (absX (dtM (TnM n Bm 4 0))))))) (MW (Int32.ofNat n) (Int32.ofNat vs) wo2 un2 h2 bo2 ta2 tr2 ro2 ot2 Bm bk) := by
  obtain ⟨tt, ett⟩ : ∃ z, z = TnM n Bm 4 0 := ⟨_, rfl⟩
  obtain ⟨dt, edt⟩ : ∃ z, z = dtM tt := ⟨_, rfl⟩
  rw [← ett, ← edt] at h0
  obtain ⟨rr, err⟩ : ∃ z, z = rdM n tt dt (fun j => (bk b j).toInt64) := ⟨_, rfl⟩
  obtain ⟨ts, ets⟩ : ∃ z, z = tsM n tt 3 (fun j => (bk b j).toInt64) := ⟨_, rfl⟩
  obtain ⟨sm, esm⟩ : ∃ z, z = (smG n (fun i s => emM (Bm (bkM 4 0 i) i) k s) rr s) := ⟨_, rfl⟩
  rw [← ett, ← edt, ← err, ← esm] at hge hg
  rw [← ett, ← edt, ← err, ← esm]
  refine ⟨dt, (absX dt), h, (boX 4 0), tt, ts, rr, ot, ?_⟩
  refine PX3_total (Nat.le_of_ble_eq_true rfl) ?_
  intro G hT hC hR
  refine mB hT 1 rfl ?_
  refine hC.1 _ [_] _ _ _ _ (m_isBasket_t hb) rfl (Nat.le_of_ble_eq_true rfl) rfl ?_
  refine mB hT 2 rfl ?_
  refine hC.2.1 _ [_] _ _ _ _ (m_isStuff_t hk) rfl (Nat.le_of_ble_eq_true rfl) rfl ?_
  refine mB hT 4 rfl ?_
  refine hC.2.2.1 _ [_, _, _] _ _ _ _ (m_in_t (nI_pos' (by omega)) (nI_le (b := 2) (by omega) (by omega))) rfl (Nat.le_of_ble_eq_true rfl) rfl ?_
  refine mB hT 4 rfl ?_
  refine hC.2.2.2.1 _ [_, _, _] _ _ _ _ (m_in_t (by decide) (by decide)) rfl (Nat.le_of_ble_eq_true rfl) rfl ?_
  refine mB hT 2 rfl ?_
  refine hC.2.2.2.2.1 _ 0 [] _ _ _ _ _ (show KX3_layNow l D ca ad _ _ none (MW (Int32.ofNat n) (Int32.ofNat vs) dt un h (boX 4 0) tt tt ro ot Bm bk) from (by rw [edt, ett]; exact m_layNow hn)) rfl rfl (Nat.le_of_ble_eq_true rfl) rfl ?_
  refine mB hT 5 rfl ?_
  refine mIf (fun hp => absurd hp (fun q => h0 (lc_eq.mp q))) (fun _ => ?_)
  refine mB hT 2 rfl ?_
  refine hC.2.2.2.2.2.1 _ 0 [_] _ _ _ _ _ (show KX3_solve l D ca ad _ _ none (MW (Int32.ofNat n) (Int32.ofNat vs) dt (absX dt) h (boX 4 0) tt ts rr ot Bm bk) from (by rw [err, ets]; exact m_solve hn hb)) rfl rfl (Nat.le_of_ble_eq_true rfl) rfl ?_
  refine mB hT 3 rfl ?_
  refine hC.2.2.2.2.2.2.1 _ 0 [_, _] _ _ _ _ _ (show KX3_sum l D ca ad _ _ (some (.long sm)) _ from (by rw [esm]; exact m_sum_4_0 hn k s hk hs)) rfl rfl (Nat.le_of_ble_eq_true rfl) rfl ?_
  refine mB hT 4 rfl ?_
  refine hC.2.2.2.2.2.2.2 _ [_, _] _ _ _ _ (m_common g hge) rfl (Nat.le_of_ble_eq_true rfl) rfl ?_
  refine mB hT 5 rfl ?_
  refine mDiv hT (List.mem_of_getElem? (i := 35) rfl) hg ?_
  refine mB hT 1 rfl ?_
  exact hR _ (by decide) _ _ _ rfl rfl
set_option maxRecDepth 20000 in
theorem m_total_B_1 {n vs : Nat} {wo un h : Int64} {bo : Nat → Int32} {ta tr ro ot : Nat → Int64} {Bm : Nat → Nat → Nat → Int32} {bk : Nat → Nat → Int32} (hn : n ≤ 4) {b : Nat} (hb : b < 4) {k : Nat} (hk : k < 3) {s : Nat} (hs : s < 3) (h0 : dtM (TnM n Bm 4 0) = 0) : ∃ (wo2 un2 h2 : Int64) (bo2 : Nat → Int32) (ta2 tr2 ro2 ot2 : Nat → Int64), KX3_total l D ca ad [.ref 0, .int (Int32.ofNat b), .int (Int32.ofNat k), .int (Int32.ofNat s), .int 1] (MW (Int32.ofNat n) (Int32.ofNat vs) wo un h bo ta tr ro ot Bm bk) (some (.long (-9000000000000000004))) (MW (Int32.ofNat n) (Int32.ofNat vs) wo2 un2 h2 bo2 ta2 tr2 ro2 ot2 Bm bk) := by
  obtain ⟨tt, ett⟩ : ∃ z, z = TnM n Bm 4 0 := ⟨_, rfl⟩
  obtain ⟨dt, edt⟩ : ∃ z, z = dtM tt := ⟨_, rfl⟩
  rw [← ett, ← edt] at h0
  refine ⟨dt, un, h, (boX 4 0), tt, tt, ro, ot, ?_⟩
  refine PX3_total (Nat.le_of_ble_eq_true rfl) ?_
  intro G hT hC hR
  refine mB hT 1 rfl ?_
  refine hC.1 _ [_] _ _ _ _ (m_isBasket_t hb) rfl (Nat.le_of_ble_eq_true rfl) rfl ?_
  refine mB hT 2 rfl ?_
  refine hC.2.1 _ [_] _ _ _ _ (m_isStuff_t hk) rfl (Nat.le_of_ble_eq_true rfl) rfl ?_
  refine mB hT 4 rfl ?_
  refine hC.2.2.1 _ [_, _, _] _ _ _ _ (m_in_t (nI_pos' (by omega)) (nI_le (b := 2) (by omega) (by omega))) rfl (Nat.le_of_ble_eq_true rfl) rfl ?_
  refine mB hT 4 rfl ?_
  refine hC.2.2.2.1 _ [_, _, _] _ _ _ _ (m_in_t (by decide) (by decide)) rfl (Nat.le_of_ble_eq_true rfl) rfl ?_
  refine mB hT 2 rfl ?_
  refine hC.2.2.2.2.1 _ 0 [] _ _ _ _ _ (show KX3_layNow l D ca ad _ _ none (MW (Int32.ofNat n) (Int32.ofNat vs) dt un h (boX 4 0) tt tt ro ot Bm bk) from (by rw [edt, ett]; exact m_layNow hn)) rfl rfl (Nat.le_of_ble_eq_true rfl) rfl ?_
  refine mB hT 5 rfl ?_
  refine mIf (fun _ => ?_) (fun hn => absurd (lc_eq.mpr h0) hn)
  refine mB hT 1 rfl ?_
  exact hR _ (by decide) _ _ _ rfl rfl
set_option maxRecDepth 20000 in
theorem m_total_1 {n vs : Nat} {wo un h : Int64} {bo : Nat → Int32} {ta tr ro ot : Nat → Int64} {Bm : Nat → Nat → Nat → Int32} {bk : Nat → Nat → Int32} (hn : n ≤ 4) {b : Nat} (hb : b < 4) {k : Nat} (hk : k < 3) {s : Nat} (hs : s < 3) (h0 : ¬ dtM (TnM n Bm 4 0) = 0) (g : Nat) (hge : gcE g (absX (smG n (fun i s => emM (Bm (bkM 4 0 i) i) k s) (rdM n (TnM n Bm 4 0) (dtM (TnM n Bm 4 0)) (fun j => (bk b j).toInt64)) s)) (absX (dtM (TnM n Bm 4 0)))) (hg : ¬ (gcX g (absX (smG n (fun i s => emM (Bm (bkM 4 0 i) i) k s) (rdM n (TnM n Bm 4 0) (dtM (TnM n Bm 4 0)) (fun j => (bk b j).toInt64)) s)) (absX (dtM (TnM n Bm 4 0)))) = 0) : ∃ (wo2 un2 h2 : Int64) (bo2 : Nat → Int32) (ta2 tr2 ro2 ot2 : Nat → Int64), KX3_total l D ca ad [.ref 0, .int (Int32.ofNat b), .int (Int32.ofNat k), .int (Int32.ofNat s), .int 1] (MW (Int32.ofNat n) (Int32.ofNat vs) wo un h bo ta tr ro ot Bm bk) (some (.long ((absX (dtM (TnM n Bm 4 0))) / (gcX g (absX (smG n (fun i s => emM (Bm (bkM 4 0 i) i) k s) (rdM n (TnM n Bm 4 0) (dtM (TnM n Bm 4 0)) (fun j => (bk b j).toInt64)) s)) (absX (dtM (TnM n Bm 4 0))))))) (MW (Int32.ofNat n) (Int32.ofNat vs) wo2 un2 h2 bo2 ta2 tr2 ro2 ot2 Bm bk) := by
  obtain ⟨tt, ett⟩ : ∃ z, z = TnM n Bm 4 0 := ⟨_, rfl⟩
  obtain ⟨dt, edt⟩ : ∃ z, z = dtM tt := ⟨_, rfl⟩
  rw [← ett, ← edt] at h0
  obtain ⟨rr, err⟩ : ∃ z, z = rdM n tt dt (fun j => (bk b j).toInt64) := ⟨_, rfl⟩
  obtain ⟨ts, ets⟩ : ∃ z, z = tsM n tt 3 (fun j => (bk b j).toInt64) := ⟨_, rfl⟩
  obtain ⟨sm, esm⟩ : ∃ z, z = (smG n (fun i s => emM (Bm (bkM 4 0 i) i) k s) rr s) := ⟨_, rfl⟩
  rw [← ett, ← edt, ← err, ← esm] at hge hg
  rw [← ett, ← edt, ← err, ← esm]
  refine ⟨dt, (absX dt), h, (boX 4 0), tt, ts, rr, ot, ?_⟩
  refine PX3_total (Nat.le_of_ble_eq_true rfl) ?_
  intro G hT hC hR
  refine mB hT 1 rfl ?_
  refine hC.1 _ [_] _ _ _ _ (m_isBasket_t hb) rfl (Nat.le_of_ble_eq_true rfl) rfl ?_
  refine mB hT 2 rfl ?_
  refine hC.2.1 _ [_] _ _ _ _ (m_isStuff_t hk) rfl (Nat.le_of_ble_eq_true rfl) rfl ?_
  refine mB hT 4 rfl ?_
  refine hC.2.2.1 _ [_, _, _] _ _ _ _ (m_in_t (nI_pos' (by omega)) (nI_le (b := 2) (by omega) (by omega))) rfl (Nat.le_of_ble_eq_true rfl) rfl ?_
  refine mB hT 4 rfl ?_
  refine hC.2.2.2.1 _ [_, _, _] _ _ _ _ (m_in_t (by decide) (by decide)) rfl (Nat.le_of_ble_eq_true rfl) rfl ?_
  refine mB hT 2 rfl ?_
  refine hC.2.2.2.2.1 _ 0 [] _ _ _ _ _ (show KX3_layNow l D ca ad _ _ none (MW (Int32.ofNat n) (Int32.ofNat vs) dt un h (boX 4 0) tt tt ro ot Bm bk) from (by rw [edt, ett]; exact m_layNow hn)) rfl rfl (Nat.le_of_ble_eq_true rfl) rfl ?_
  refine mB hT 5 rfl ?_
  refine mIf (fun hp => absurd hp (fun q => h0 (lc_eq.mp q))) (fun _ => ?_)
  refine mB hT 2 rfl ?_
  refine hC.2.2.2.2.2.1 _ 0 [_] _ _ _ _ _ (show KX3_solve l D ca ad _ _ none (MW (Int32.ofNat n) (Int32.ofNat vs) dt (absX dt) h (boX 4 0) tt ts rr ot Bm bk) from (by rw [err, ets]; exact m_solve hn hb)) rfl rfl (Nat.le_of_ble_eq_true rfl) rfl ?_
  refine mB hT 3 rfl ?_
  refine hC.2.2.2.2.2.2.1 _ 0 [_, _] _ _ _ _ _ (show KX3_sum l D ca ad _ _ (some (.long sm)) _ from (by rw [esm]; exact m_sum_4_0 hn k s hk hs)) rfl rfl (Nat.le_of_ble_eq_true rfl) rfl ?_
  refine mB hT 4 rfl ?_
  refine hC.2.2.2.2.2.2.2 _ [_, _] _ _ _ _ (m_common g hge) rfl (Nat.le_of_ble_eq_true rfl) rfl ?_
  refine mB hT 6 rfl ?_
  refine mDiv hT (List.mem_of_getElem? (i := 40) rfl) hg ?_
  exact hR _ (by decide) _ _ _ rfl rfl
end
