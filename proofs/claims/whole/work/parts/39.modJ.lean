
def suM : Nat → (Nat → Nat → Int64) → (Nat → Int64) → Int64
  | 0, _, _ => 0
  | m + 1, f, d => suM m f d + f m (if 0 < d m then 2 else 0) * d m
def wyM (up down : Int64) : Int64 := if down < 0 then thM (-up) (-down) else thM up down

section
variable {l : Launch} {D : va_G} {ca : Nat → ClassId} {ad : Nat → Nat}

theorem m_worth {n vs : Nat} {wo un h : Int64} {bo : Nat → Int32} {ta tr ro ot : Nat → Int64} {Bm : Nat → Nat → Nat → Int32} {bk : Nat → Nat → Int32} (hn : n ≤ 4) : ∃ (bo2 : Nat → Int32) (ta2 tr2 : Nat → Int64), KX3_worth l D ca ad [.ref 0] (MW (Int32.ofNat n) (Int32.ofNat vs) wo un h bo ta tr ro ot Bm bk) (some (.long (dtM (TnM n Bm 4 0)))) (MW (Int32.ofNat n) (Int32.ofNat vs) (dtM (TnM n Bm 4 0)) un h bo2 ta2 tr2 ro ot Bm bk) := by
  obtain ⟨tt, ett⟩ : ∃ z, z = TnM n Bm 4 0 := ⟨_, rfl⟩
  obtain ⟨dt, edt⟩ : ∃ z, z = dtM tt := ⟨_, rfl⟩
  rw [← ett, ← edt]
  refine ⟨boX 4 0, tt, tt, ?_⟩
  refine PX3_worth (Nat.le_of_ble_eq_true rfl) ?_
  intro G hT hC hR
  refine mB hT 1 rfl ?_
  refine hC _ 0 [] _ _ _ _ _ (show KX3_layNow l D ca ad _ _ none (MW (Int32.ofNat n) (Int32.ofNat vs) dt un h (boX 4 0) tt tt ro ot Bm bk) from (by rw [edt, ett]; exact m_layNow hn)) rfl rfl (Nat.le_of_ble_eq_true rfl) rfl ?_
  refine mB hT 2 rfl ?_
  exact hR _ (by decide) _ _ _ rfl rfl
set_option maxRecDepth 20000 in
theorem m_turned_B_0 {vs : Nat} {wo un h : Int64} {bo : Nat → Int32} {ta tr ro ot : Nat → Int64} {Bm : Nat → Nat → Nat → Int32} {bk : Nat → Nat → Int32} {b : Nat} (hb : b < 4) (h0 : dtM (TnM 0 Bm 4 0) = 0) : ∃ (wo2 un2 h2 : Int64) (bo2 : Nat → Int32) (ta2 tr2 ro2 ot2 : Nat → Int64), KX3_turned l D ca ad [.ref 0, .int (Int32.ofNat b)] (MW 0 (Int32.ofNat vs) wo un h bo ta tr ro ot Bm bk) (some (.int (-104))) (MW 0 (Int32.ofNat vs) wo2 un2 h2 bo2 ta2 tr2 ro2 ot2 Bm bk) := by
  obtain ⟨tt, ett⟩ : ∃ z, z = (TnM 0 Bm 4 0) := ⟨_, rfl⟩
  obtain ⟨dt, edt⟩ : ∃ z, z = dtM tt := ⟨_, rfl⟩
  rw [← ett, ← edt] at h0
  refine ⟨dt, un, h, (boX 4 0), tt, tt, ro, ot, ?_⟩
  refine PX3_turned (Nat.le_of_ble_eq_true rfl) ?_
  intro G hT hC hR
  refine mB hT 1 rfl ?_
  refine hC.1 _ [_] _ _ _ _ (m_isBasket_t hb) rfl (Nat.le_of_ble_eq_true rfl) rfl ?_
  refine mB hT 2 rfl ?_
  refine hC.2.1 _ 0 [] _ _ _ _ _ (show KX3_layNow l D ca ad _ _ none (MW 0 (Int32.ofNat vs) dt un h (boX 4 0) tt tt ro ot Bm bk) from (by rw [edt, ett]; exact m_layNow (n := 0) (by decide))) rfl rfl (Nat.le_of_ble_eq_true rfl) rfl ?_
  refine mB hT 5 rfl ?_
  refine mIf (fun _ => ?_) (fun hn => absurd (lc_eq.mpr h0) hn)
  refine mB hT 1 rfl ?_
  exact hR _ (by decide) _ _ _ rfl rfl
set_option maxRecDepth 20000 in
theorem m_turned_0 {vs : Nat} {wo un h : Int64} {bo : Nat → Int32} {ta tr ro ot : Nat → Int64} {Bm : Nat → Nat → Nat → Int32} {bk : Nat → Nat → Int32} {b : Nat} (hb : b < 4) (h0 : ¬ dtM (TnM 0 Bm 4 0) = 0) : ∃ (wo2 un2 h2 : Int64) (bo2 : Nat → Int32) (ta2 tr2 ro2 ot2 : Nat → Int64), KX3_turned l D ca ad [.ref 0, .int (Int32.ofNat b)] (MW 0 (Int32.ofNat vs) wo un h bo ta tr ro ot Bm bk) (some (.int (tnF 0 0 (rdM 0 (TnM 0 Bm 4 0) (dtM (TnM 0 Bm 4 0)) (fun j => (bk b j).toInt64))))) (MW 0 (Int32.ofNat vs) wo2 un2 h2 bo2 ta2 tr2 ro2 ot2 Bm bk) := by
  obtain ⟨tt, ett⟩ : ∃ z, z = (TnM 0 Bm 4 0) := ⟨_, rfl⟩
  obtain ⟨dt, edt⟩ : ∃ z, z = dtM tt := ⟨_, rfl⟩
  rw [← ett, ← edt] at h0
  obtain ⟨rr, err⟩ : ∃ z, z = rdM 0 tt dt (fun j => (bk b j).toInt64) := ⟨_, rfl⟩
  obtain ⟨ts, ets⟩ : ∃ z, z = tsM 0 tt 3 (fun j => (bk b j).toInt64) := ⟨_, rfl⟩
  rw [← ett, ← edt, ← err]
  refine ⟨dt, (absX dt), h, (boX 4 0), tt, ts, rr, ot, ?_⟩
  refine PX3_turned (Nat.le_of_ble_eq_true rfl) ?_
  intro G hT hC hR
  refine mB hT 1 rfl ?_
  refine hC.1 _ [_] _ _ _ _ (m_isBasket_t hb) rfl (Nat.le_of_ble_eq_true rfl) rfl ?_
  refine mB hT 2 rfl ?_
  refine hC.2.1 _ 0 [] _ _ _ _ _ (show KX3_layNow l D ca ad _ _ none (MW 0 (Int32.ofNat vs) dt un h (boX 4 0) tt tt ro ot Bm bk) from (by rw [edt, ett]; exact m_layNow (n := 0) (by decide))) rfl rfl (Nat.le_of_ble_eq_true rfl) rfl ?_
  refine mB hT 5 rfl ?_
  refine mIf (fun hp => absurd hp (fun q => h0 (lc_eq.mp q))) (fun _ => ?_)
  refine mB hT 2 rfl ?_
  refine hC.2.2 _ 0 [_] _ _ _ _ _ (show KX3_solve l D ca ad _ _ none (MW 0 (Int32.ofNat vs) dt (absX dt) h (boX 4 0) tt ts rr ot Bm bk) from (by rw [err, ets]; exact m_solve (n := 0) (by decide) hb)) rfl rfl (Nat.le_of_ble_eq_true rfl) rfl ?_
  refine mB hT 11 rfl ?_
  exact hR _ (by decide) _ _ _ (by simp only [tnF]; rfl) rfl
set_option maxRecDepth 20000 in
theorem m_most_B_0 {vs : Nat} {wo un h : Int64} {bo : Nat → Int32} {ta tr ro ot : Nat → Int64} {Bm : Nat → Nat → Nat → Int32} {bk : Nat → Nat → Int32} {b : Nat} (hb : b < 4) {k : Nat} (hk : k < 3) (h0 : dtM (TnM 0 Bm 4 0) = 0) : ∃ (wo2 un2 h2 : Int64) (bo2 : Nat → Int32) (ta2 tr2 ro2 ot2 : Nat → Int64), KX3_most l D ca ad [.ref 0, .int (Int32.ofNat b), .int (Int32.ofNat k)] (MW 0 (Int32.ofNat vs) wo un h bo ta tr ro ot Bm bk) (some (.int (-104))) (MW 0 (Int32.ofNat vs) wo2 un2 h2 bo2 ta2 tr2 ro2 ot2 Bm bk) := by
  obtain ⟨tt, ett⟩ : ∃ z, z = (TnM 0 Bm 4 0) := ⟨_, rfl⟩
  obtain ⟨dt, edt⟩ : ∃ z, z = dtM tt := ⟨_, rfl⟩
  rw [← ett, ← edt] at h0
  refine ⟨dt, un, h, (boX 4 0), tt, tt, ro, ot, ?_⟩
  refine PX3_most (Nat.le_of_ble_eq_true rfl) ?_
  intro G hT hC hR
  refine mB hT 1 rfl ?_
  refine hC.1 _ [_] _ _ _ _ (m_isBasket_t hb) rfl (Nat.le_of_ble_eq_true rfl) rfl ?_
  refine mB hT 2 rfl ?_
  refine hC.2.1 _ [_] _ _ _ _ (m_isStuff_t hk) rfl (Nat.le_of_ble_eq_true rfl) rfl ?_
  refine mB hT 2 rfl ?_
  refine hC.2.2.1 _ 0 [] _ _ _ _ _ (show KX3_layNow l D ca ad _ _ none (MW 0 (Int32.ofNat vs) dt un h (boX 4 0) tt tt ro ot Bm bk) from (by rw [edt, ett]; exact m_layNow (n := 0) (by decide))) rfl rfl (Nat.le_of_ble_eq_true rfl) rfl ?_
  refine mB hT 5 rfl ?_
  refine mIf (fun _ => ?_) (fun hn => absurd (lc_eq.mpr h0) hn)
  refine mB hT 1 rfl ?_
  exact hR _ (by decide) _ _ _ rfl rfl
set_option maxRecDepth 20000 in
theorem m_most_0 {vs : Nat} {wo un h : Int64} {bo : Nat → Int32} {ta tr ro ot : Nat → Int64} {Bm : Nat → Nat → Nat → Int32} {bk : Nat → Nat → Int32} {b : Nat} (hb : b < 4) {k : Nat} (hk : k < 3) (h0 : ¬ dtM (TnM 0 Bm 4 0) = 0) : ∃ (wo2 un2 h2 : Int64) (bo2 : Nat → Int32) (ta2 tr2 ro2 ot2 : Nat → Int64), KX3_most l D ca ad [.ref 0, .int (Int32.ofNat b), .int (Int32.ofNat k)] (MW 0 (Int32.ofNat vs) wo un h bo ta tr ro ot Bm bk) (some (.int (mbX 0 (fun i => emM (Bm (bkM 4 0 i) i) k 1 * (rdM 0 (TnM 0 Bm 4 0) (dtM (TnM 0 Bm 4 0)) (fun j => (bk b j).toInt64)) i)).1)) (MW 0 (Int32.ofNat vs) wo2 un2 h2 bo2 ta2 tr2 ro2 ot2 Bm bk) := by
  obtain ⟨tt, ett⟩ : ∃ z, z = (TnM 0 Bm 4 0) := ⟨_, rfl⟩
  obtain ⟨dt, edt⟩ : ∃ z, z = dtM tt := ⟨_, rfl⟩
  rw [← ett, ← edt] at h0
  obtain ⟨rr, err⟩ : ∃ z, z = rdM 0 tt dt (fun j => (bk b j).toInt64) := ⟨_, rfl⟩
  obtain ⟨ts, ets⟩ : ∃ z, z = tsM 0 tt 3 (fun j => (bk b j).toInt64) := ⟨_, rfl⟩
  obtain ⟨g, eg⟩ : ∃ z : Nat → Int64, z = fun i => emM (Bm (bkM 4 0 i) i) k 1 := ⟨_, rfl⟩
  rw [← ett, ← edt, ← err]
  rw [show (fun i => emM (Bm (bkM 4 0 i) i) k 1 * rr i) = fun i => g i * rr i by rw [eg]]
  refine ⟨dt, (absX dt), h, (boX 4 0), tt, ts, rr, ot, ?_⟩
  refine PX3_most (Nat.le_of_ble_eq_true rfl) ?_
  intro G hT hC hR
  refine mB hT 1 rfl ?_
  refine hC.1 _ [_] _ _ _ _ (m_isBasket_t hb) rfl (Nat.le_of_ble_eq_true rfl) rfl ?_
  refine mB hT 2 rfl ?_
  refine hC.2.1 _ [_] _ _ _ _ (m_isStuff_t hk) rfl (Nat.le_of_ble_eq_true rfl) rfl ?_
  refine mB hT 2 rfl ?_
  refine hC.2.2.1 _ 0 [] _ _ _ _ _ (show KX3_layNow l D ca ad _ _ none (MW 0 (Int32.ofNat vs) dt un h (boX 4 0) tt tt ro ot Bm bk) from (by rw [edt, ett]; exact m_layNow (n := 0) (by decide))) rfl rfl (Nat.le_of_ble_eq_true rfl) rfl ?_
  refine mB hT 5 rfl ?_
  refine mIf (fun hp => absurd hp (fun q => h0 (lc_eq.mp q))) (fun _ => ?_)
  refine mB hT 2 rfl ?_
  refine hC.2.2.2.1 _ 0 [_] _ _ _ _ _ (show KX3_solve l D ca ad _ _ none (MW 0 (Int32.ofNat vs) dt (absX dt) h (boX 4 0) tt ts rr ot Bm bk) from (by rw [err, ets]; exact m_solve (n := 0) (by decide) hb)) rfl rfl (Nat.le_of_ble_eq_true rfl) rfl ?_
  refine mB hT 9 rfl ?_
  exact hR _ (by decide) _ _ _ rfl rfl
set_option maxRecDepth 20000 in
theorem m_sure_B_0 {vs : Nat} {wo un h : Int64} {bo : Nat → Int32} {ta tr ro ot : Nat → Int64} {Bm : Nat → Nat → Nat → Int32} {bk : Nat → Nat → Int32} {a : Nat} (ha : a < 4) {b : Nat} (hb : b < 4) {k : Nat} (hk : k < 3) (h0 : dtM (TnM 0 Bm 4 0) = 0) : ∃ (wo2 un2 h2 : Int64) (bo2 : Nat → Int32) (ta2 tr2 ro2 ot2 : Nat → Int64), KX3_sure l D ca ad [.ref 0, .int (Int32.ofNat a), .int (Int32.ofNat b), .int (Int32.ofNat k)] (MW 0 (Int32.ofNat vs) wo un h bo ta tr ro ot Bm bk) (some (.int (-104))) (MW 0 (Int32.ofNat vs) wo2 un2 h2 bo2 ta2 tr2 ro2 ot2 Bm bk) := by
  obtain ⟨tt, ett⟩ : ∃ z, z = (TnM 0 Bm 4 0) := ⟨_, rfl⟩
  obtain ⟨dt, edt⟩ : ∃ z, z = dtM tt := ⟨_, rfl⟩
  rw [← ett, ← edt] at h0
  refine ⟨dt, un, h, (boX 4 0), tt, tt, ro, ot, ?_⟩
  refine PX3_sure (Nat.le_of_ble_eq_true rfl) ?_
  intro G hT hC hR
  refine mB hT 1 rfl ?_
  refine hC.1 _ [_] _ _ _ _ (m_isBasket_t ha) rfl (Nat.le_of_ble_eq_true rfl) rfl ?_
  refine mB hT 2 rfl ?_
  refine hC.2.1 _ [_] _ _ _ _ (m_isBasket_t hb) rfl (Nat.le_of_ble_eq_true rfl) rfl ?_
  refine mB hT 2 rfl ?_
  refine hC.2.2.1 _ [_] _ _ _ _ (m_isStuff_t hk) rfl (Nat.le_of_ble_eq_true rfl) rfl ?_
  refine mB hT 2 rfl ?_
  refine hC.2.2.2.1 _ 0 [] _ _ _ _ _ (show KX3_layNow l D ca ad _ _ none (MW 0 (Int32.ofNat vs) dt un h (boX 4 0) tt tt ro ot Bm bk) from (by rw [edt, ett]; exact m_layNow (n := 0) (by decide))) rfl rfl (Nat.le_of_ble_eq_true rfl) rfl ?_
  refine mB hT 5 rfl ?_
  refine mIf (fun _ => ?_) (fun hn => absurd (lc_eq.mpr h0) hn)
  refine mB hT 1 rfl ?_
  exact hR _ (by decide) _ _ _ rfl rfl
set_option maxRecDepth 20000 in
theorem m_sure_0 {vs : Nat} {wo un h : Int64} {bo : Nat → Int32} {ta tr ro ot : Nat → Int64} {Bm : Nat → Nat → Nat → Int32} {bk : Nat → Nat → Int32} {a : Nat} (ha : a < 4) {b : Nat} (hb : b < 4) {k : Nat} (hk : k < 3) (h0 : ¬ dtM (TnM 0 Bm 4 0) = 0) : ∃ (wo2 un2 h2 : Int64) (bo2 : Nat → Int32) (ta2 tr2 ro2 ot2 : Nat → Int64), KX3_sure l D ca ad [.ref 0, .int (Int32.ofNat a), .int (Int32.ofNat b), .int (Int32.ofNat k)] (MW 0 (Int32.ofNat vs) wo un h bo ta tr ro ot Bm bk) (some (.int (if 0 < suM 0 (fun i s => emM (Bm (bkM 4 0 i) i) k s) (fun i => (rdM 0 (TnM 0 Bm 4 0) (dtM (TnM 0 Bm 4 0)) (fun j => (bk a j).toInt64)) i - (rdM 0 (TnM 0 Bm 4 0) (dtM (TnM 0 Bm 4 0)) (fun j => (bk b j).toInt64)) i) then 0 else 1))) (MW 0 (Int32.ofNat vs) wo2 un2 h2 bo2 ta2 tr2 ro2 ot2 Bm bk) := by
  obtain ⟨tt, ett⟩ : ∃ z, z = (TnM 0 Bm 4 0) := ⟨_, rfl⟩
  obtain ⟨dt, edt⟩ : ∃ z, z = dtM tt := ⟨_, rfl⟩
  rw [← ett, ← edt] at h0
  obtain ⟨rr, err⟩ : ∃ z, z = rdM 0 tt dt (fun j => (bk b j).toInt64) := ⟨_, rfl⟩
  obtain ⟨ts, ets⟩ : ∃ z, z = tsM 0 tt 3 (fun j => (bk b j).toInt64) := ⟨_, rfl⟩
  obtain ⟨ra, era⟩ : ∃ z, z = rdM 0 tt dt (fun j => (bk a j).toInt64) := ⟨_, rfl⟩
  obtain ⟨ta3, eta3⟩ : ∃ z, z = tsM 0 tt 3 (fun j => (bk a j).toInt64) := ⟨_, rfl⟩
  obtain ⟨g, eg⟩ : ∃ z : Nat → Nat → Int64, z = fun i s => emM (Bm (bkM 4 0 i) i) k s := ⟨_, rfl⟩
  rw [← ett, ← edt, ← err, ← era, ← eg]
  refine ⟨dt, (absX dt), h, (boX 4 0), tt, ta3, ra, rr, ?_⟩
  refine PX3_sure (Nat.le_of_ble_eq_true rfl) ?_
  intro G hT hC hR
  refine mB hT 1 rfl ?_
  refine hC.1 _ [_] _ _ _ _ (m_isBasket_t ha) rfl (Nat.le_of_ble_eq_true rfl) rfl ?_
  refine mB hT 2 rfl ?_
  refine hC.2.1 _ [_] _ _ _ _ (m_isBasket_t hb) rfl (Nat.le_of_ble_eq_true rfl) rfl ?_
  refine mB hT 2 rfl ?_
  refine hC.2.2.1 _ [_] _ _ _ _ (m_isStuff_t hk) rfl (Nat.le_of_ble_eq_true rfl) rfl ?_
  refine mB hT 2 rfl ?_
  refine hC.2.2.2.1 _ 0 [] _ _ _ _ _ (show KX3_layNow l D ca ad _ _ none (MW 0 (Int32.ofNat vs) dt un h (boX 4 0) tt tt ro ot Bm bk) from (by rw [edt, ett]; exact m_layNow (n := 0) (by decide))) rfl rfl (Nat.le_of_ble_eq_true rfl) rfl ?_
  refine mB hT 5 rfl ?_
  refine mIf (fun hp => absurd hp (fun q => h0 (lc_eq.mp q))) (fun _ => ?_)
  refine mB hT 2 rfl ?_
  refine hC.2.2.2.2.1 _ 0 [_] _ _ _ _ _ (show KX3_solve l D ca ad _ _ none (MW 0 (Int32.ofNat vs) dt (absX dt) h (boX 4 0) tt ts rr ot Bm bk) from (by rw [err, ets]; exact m_solve (n := 0) (by decide) hb)) rfl rfl (Nat.le_of_ble_eq_true rfl) rfl ?_
  refine mB hT 39 rfl ?_
  refine mNf (lv2 := [(4, .int 2), (0, .ref 0), (1, .int (Int32.ofNat a)), (2, .int (Int32.ofNat b)), (3, .int (Int32.ofNat k))]) (st2 := []) rfl rfl ?_
  refine mWd (w2 := (MW 0 (Int32.ofNat vs) dt (absX dt) h (boX 4 0) tt ts rr (up (up (up ot 0 (rr 0)) 1 (rr 1)) 2 (rr 2)) Bm bk)) rfl ?_
  refine mB hT 20 rfl ?_
  refine mNf (lv2 := [(4, .int 4), (0, .ref 0), (1, .int (Int32.ofNat a)), (2, .int (Int32.ofNat b)), (3, .int (Int32.ofNat k))]) (st2 := [.int (Int32.ofNat a), .ref 0]) rfl rfl ?_
  refine mWd (w2 := (MW 0 (Int32.ofNat vs) dt (absX dt) h (boX 4 0) tt ts rr (up (up (up (up ot 0 (rr 0)) 1 (rr 1)) 2 (rr 2)) 3 (rr 3)) Bm bk)) rfl ?_
  refine mWd (w2 := (MW 0 (Int32.ofNat vs) dt (absX dt) h (boX 4 0) tt ts rr rr Bm bk)) rfl ?_
  refine hC.2.2.2.2.2.1 _ 0 [_] _ _ _ _ _ (show KX3_solve l D ca ad _ _ none (MW 0 (Int32.ofNat vs) dt (absX dt) h (boX 4 0) tt ta3 ra rr Bm bk) from (by rw [era, eta3]; exact m_solve (n := 0) (by decide) ha)) rfl rfl (Nat.le_of_ble_eq_true rfl) rfl ?_
  refine mB hT 14 rfl ?_
  exact hR _ (by decide) _ _ _ rfl rfl
set_option maxRecDepth 20000 in
theorem m_turned_B_1 {vs : Nat} {wo un h : Int64} {bo : Nat → Int32} {ta tr ro ot : Nat → Int64} {Bm : Nat → Nat → Nat → Int32} {bk : Nat → Nat → Int32} {b : Nat} (hb : b < 4) (h0 : dtM (TnM 1 Bm 4 0) = 0) : ∃ (wo2 un2 h2 : Int64) (bo2 : Nat → Int32) (ta2 tr2 ro2 ot2 : Nat → Int64), KX3_turned l D ca ad [.ref 0, .int (Int32.ofNat b)] (MW 1 (Int32.ofNat vs) wo un h bo ta tr ro ot Bm bk) (some (.int (-104))) (MW 1 (Int32.ofNat vs) wo2 un2 h2 bo2 ta2 tr2 ro2 ot2 Bm bk) := by
  obtain ⟨tt, ett⟩ : ∃ z, z = (TnM 1 Bm 4 0) := ⟨_, rfl⟩
  obtain ⟨dt, edt⟩ : ∃ z, z = dtM tt := ⟨_, rfl⟩
  rw [← ett, ← edt] at h0
  refine ⟨dt, un, h, (boX 4 0), tt, tt, ro, ot, ?_⟩
  refine PX3_turned (Nat.le_of_ble_eq_true rfl) ?_
  intro G hT hC hR
  refine mB hT 1 rfl ?_
  refine hC.1 _ [_] _ _ _ _ (m_isBasket_t hb) rfl (Nat.le_of_ble_eq_true rfl) rfl ?_
  refine mB hT 2 rfl ?_
  refine hC.2.1 _ 0 [] _ _ _ _ _ (show KX3_layNow l D ca ad _ _ none (MW 1 (Int32.ofNat vs) dt un h (boX 4 0) tt tt ro ot Bm bk) from (by rw [edt, ett]; exact m_layNow (n := 1) (by decide))) rfl rfl (Nat.le_of_ble_eq_true rfl) rfl ?_
  refine mB hT 5 rfl ?_
  refine mIf (fun _ => ?_) (fun hn => absurd (lc_eq.mpr h0) hn)
  refine mB hT 1 rfl ?_
  exact hR _ (by decide) _ _ _ rfl rfl
set_option maxRecDepth 20000 in
theorem m_turned_1 {vs : Nat} {wo un h : Int64} {bo : Nat → Int32} {ta tr ro ot : Nat → Int64} {Bm : Nat → Nat → Nat → Int32} {bk : Nat → Nat → Int32} {b : Nat} (hb : b < 4) (h0 : ¬ dtM (TnM 1 Bm 4 0) = 0) : ∃ (wo2 un2 h2 : Int64) (bo2 : Nat → Int32) (ta2 tr2 ro2 ot2 : Nat → Int64), KX3_turned l D ca ad [.ref 0, .int (Int32.ofNat b)] (MW 1 (Int32.ofNat vs) wo un h bo ta tr ro ot Bm bk) (some (.int (tnF 1 0 (rdM 1 (TnM 1 Bm 4 0) (dtM (TnM 1 Bm 4 0)) (fun j => (bk b j).toInt64))))) (MW 1 (Int32.ofNat vs) wo2 un2 h2 bo2 ta2 tr2 ro2 ot2 Bm bk) := by
  obtain ⟨tt, ett⟩ : ∃ z, z = (TnM 1 Bm 4 0) := ⟨_, rfl⟩
  obtain ⟨dt, edt⟩ : ∃ z, z = dtM tt := ⟨_, rfl⟩
  rw [← ett, ← edt] at h0
  obtain ⟨rr, err⟩ : ∃ z, z = rdM 1 tt dt (fun j => (bk b j).toInt64) := ⟨_, rfl⟩
  obtain ⟨ts, ets⟩ : ∃ z, z = tsM 1 tt 3 (fun j => (bk b j).toInt64) := ⟨_, rfl⟩
  rw [← ett, ← edt, ← err]
  refine ⟨dt, (absX dt), h, (boX 4 0), tt, ts, rr, ot, ?_⟩
  refine PX3_turned (Nat.le_of_ble_eq_true rfl) ?_
  intro G hT hC hR
  refine mB hT 1 rfl ?_
  refine hC.1 _ [_] _ _ _ _ (m_isBasket_t hb) rfl (Nat.le_of_ble_eq_true rfl) rfl ?_
  refine mB hT 2 rfl ?_
  refine hC.2.1 _ 0 [] _ _ _ _ _ (show KX3_layNow l D ca ad _ _ none (MW 1 (Int32.ofNat vs) dt un h (boX 4 0) tt tt ro ot Bm bk) from (by rw [edt, ett]; exact m_layNow (n := 1) (by decide))) rfl rfl (Nat.le_of_ble_eq_true rfl) rfl ?_
  refine mB hT 5 rfl ?_
  refine mIf (fun hp => absurd hp (fun q => h0 (lc_eq.mp q))) (fun _ => ?_)
  refine mB hT 2 rfl ?_
  refine hC.2.2 _ 0 [_] _ _ _ _ _ (show KX3_solve l D ca ad _ _ none (MW 1 (Int32.ofNat vs) dt (absX dt) h (boX 4 0) tt ts rr ot Bm bk) from (by rw [err, ets]; exact m_solve (n := 1) (by decide) hb)) rfl rfl (Nat.le_of_ble_eq_true rfl) rfl ?_
  refine mB hT 13 rfl ?_
  refine mIf (fun h1 => ?_) (fun h1 => ?_)
  · refine mB hT 6 rfl ?_
    exact hR _ (by decide) _ _ _ (by simp only [tnF, if_pos (lc_lt.mp h1)]; rfl) rfl
  · refine mB hT 11 rfl ?_
    exact hR _ (by decide) _ _ _ (by simp only [tnF, if_neg (fun q => h1 (lc_lt.mpr q))]; rfl) rfl
set_option maxRecDepth 20000 in
theorem m_most_B_1 {vs : Nat} {wo un h : Int64} {bo : Nat → Int32} {ta tr ro ot : Nat → Int64} {Bm : Nat → Nat → Nat → Int32} {bk : Nat → Nat → Int32} {b : Nat} (hb : b < 4) {k : Nat} (hk : k < 3) (h0 : dtM (TnM 1 Bm 4 0) = 0) : ∃ (wo2 un2 h2 : Int64) (bo2 : Nat → Int32) (ta2 tr2 ro2 ot2 : Nat → Int64), KX3_most l D ca ad [.ref 0, .int (Int32.ofNat b), .int (Int32.ofNat k)] (MW 1 (Int32.ofNat vs) wo un h bo ta tr ro ot Bm bk) (some (.int (-104))) (MW 1 (Int32.ofNat vs) wo2 un2 h2 bo2 ta2 tr2 ro2 ot2 Bm bk) := by
  obtain ⟨tt, ett⟩ : ∃ z, z = (TnM 1 Bm 4 0) := ⟨_, rfl⟩
  obtain ⟨dt, edt⟩ : ∃ z, z = dtM tt := ⟨_, rfl⟩
  rw [← ett, ← edt] at h0
  refine ⟨dt, un, h, (boX 4 0), tt, tt, ro, ot, ?_⟩
  refine PX3_most (Nat.le_of_ble_eq_true rfl) ?_
  intro G hT hC hR
  refine mB hT 1 rfl ?_
  refine hC.1 _ [_] _ _ _ _ (m_isBasket_t hb) rfl (Nat.le_of_ble_eq_true rfl) rfl ?_
  refine mB hT 2 rfl ?_
  refine hC.2.1 _ [_] _ _ _ _ (m_isStuff_t hk) rfl (Nat.le_of_ble_eq_true rfl) rfl ?_
  refine mB hT 2 rfl ?_
  refine hC.2.2.1 _ 0 [] _ _ _ _ _ (show KX3_layNow l D ca ad _ _ none (MW 1 (Int32.ofNat vs) dt un h (boX 4 0) tt tt ro ot Bm bk) from (by rw [edt, ett]; exact m_layNow (n := 1) (by decide))) rfl rfl (Nat.le_of_ble_eq_true rfl) rfl ?_
  refine mB hT 5 rfl ?_
  refine mIf (fun _ => ?_) (fun hn => absurd (lc_eq.mpr h0) hn)
  refine mB hT 1 rfl ?_
  exact hR _ (by decide) _ _ _ rfl rfl
set_option maxRecDepth 20000 in
theorem m_most_1 {vs : Nat} {wo un h : Int64} {bo : Nat → Int32} {ta tr ro ot : Nat → Int64} {Bm : Nat → Nat → Nat → Int32} {bk : Nat → Nat → Int32} {b : Nat} (hb : b < 4) {k : Nat} (hk : k < 3) (h0 : ¬ dtM (TnM 1 Bm 4 0) = 0) : ∃ (wo2 un2 h2 : Int64) (bo2 : Nat → Int32) (ta2 tr2 ro2 ot2 : Nat → Int64), KX3_most l D ca ad [.ref 0, .int (Int32.ofNat b), .int (Int32.ofNat k)] (MW 1 (Int32.ofNat vs) wo un h bo ta tr ro ot Bm bk) (some (.int (mbX 1 (fun i => emM (Bm (bkM 4 0 i) i) k 1 * (rdM 1 (TnM 1 Bm 4 0) (dtM (TnM 1 Bm 4 0)) (fun j => (bk b j).toInt64)) i)).1)) (MW 1 (Int32.ofNat vs) wo2 un2 h2 bo2 ta2 tr2 ro2 ot2 Bm bk) := by
  obtain ⟨tt, ett⟩ : ∃ z, z = (TnM 1 Bm 4 0) := ⟨_, rfl⟩
  obtain ⟨dt, edt⟩ : ∃ z, z = dtM tt := ⟨_, rfl⟩
  rw [← ett, ← edt] at h0
  obtain ⟨rr, err⟩ : ∃ z, z = rdM 1 tt dt (fun j => (bk b j).toInt64) := ⟨_, rfl⟩
  obtain ⟨ts, ets⟩ : ∃ z, z = tsM 1 tt 3 (fun j => (bk b j).toInt64) := ⟨_, rfl⟩
  obtain ⟨g, eg⟩ : ∃ z : Nat → Int64, z = fun i => emM (Bm (bkM 4 0 i) i) k 1 := ⟨_, rfl⟩
  rw [← ett, ← edt, ← err]
  rw [show (fun i => emM (Bm (bkM 4 0 i) i) k 1 * rr i) = fun i => g i * rr i by rw [eg]]
  refine ⟨dt, (absX dt), h, (boX 4 0), tt, ts, rr, ot, ?_⟩
  refine PX3_most (Nat.le_of_ble_eq_true rfl) ?_
  intro G hT hC hR
  refine mB hT 1 rfl ?_
  refine hC.1 _ [_] _ _ _ _ (m_isBasket_t hb) rfl (Nat.le_of_ble_eq_true rfl) rfl ?_
  refine mB hT 2 rfl ?_
  refine hC.2.1 _ [_] _ _ _ _ (m_isStuff_t hk) rfl (Nat.le_of_ble_eq_true rfl) rfl ?_
  refine mB hT 2 rfl ?_
  refine hC.2.2.1 _ 0 [] _ _ _ _ _ (show KX3_layNow l D ca ad _ _ none (MW 1 (Int32.ofNat vs) dt un h (boX 4 0) tt tt ro ot Bm bk) from (by rw [edt, ett]; exact m_layNow (n := 1) (by decide))) rfl rfl (Nat.le_of_ble_eq_true rfl) rfl ?_
  refine mB hT 5 rfl ?_
  refine mIf (fun hp => absurd hp (fun q => h0 (lc_eq.mp q))) (fun _ => ?_)
  refine mB hT 2 rfl ?_
  refine hC.2.2.2.1 _ 0 [_] _ _ _ _ _ (show KX3_solve l D ca ad _ _ none (MW 1 (Int32.ofNat vs) dt (absX dt) h (boX 4 0) tt ts rr ot Bm bk) from (by rw [err, ets]; exact m_solve (n := 1) (by decide) hb)) rfl rfl (Nat.le_of_ble_eq_true rfl) rfl ?_
  refine mB hT 21 rfl ?_
  exact hR _ (by decide) _ _ _ (by have e1 : mbX 1 (fun i => g i * rr i) = (0, g 0 * rr 0) := rfl; rw [e1]; rfl) rfl
set_option maxRecDepth 20000 in
theorem m_sure_B_1 {vs : Nat} {wo un h : Int64} {bo : Nat → Int32} {ta tr ro ot : Nat → Int64} {Bm : Nat → Nat → Nat → Int32} {bk : Nat → Nat → Int32} {a : Nat} (ha : a < 4) {b : Nat} (hb : b < 4) {k : Nat} (hk : k < 3) (h0 : dtM (TnM 1 Bm 4 0) = 0) : ∃ (wo2 un2 h2 : Int64) (bo2 : Nat → Int32) (ta2 tr2 ro2 ot2 : Nat → Int64), KX3_sure l D ca ad [.ref 0, .int (Int32.ofNat a), .int (Int32.ofNat b), .int (Int32.ofNat k)] (MW 1 (Int32.ofNat vs) wo un h bo ta tr ro ot Bm bk) (some (.int (-104))) (MW 1 (Int32.ofNat vs) wo2 un2 h2 bo2 ta2 tr2 ro2 ot2 Bm bk) := by
  obtain ⟨tt, ett⟩ : ∃ z, z = (TnM 1 Bm 4 0) := ⟨_, rfl⟩
  obtain ⟨dt, edt⟩ : ∃ z, z = dtM tt := ⟨_, rfl⟩
  rw [← ett, ← edt] at h0
  refine ⟨dt, un, h, (boX 4 0), tt, tt, ro, ot, ?_⟩
  refine PX3_sure (Nat.le_of_ble_eq_true rfl) ?_
  intro G hT hC hR
  refine mB hT 1 rfl ?_
  refine hC.1 _ [_] _ _ _ _ (m_isBasket_t ha) rfl (Nat.le_of_ble_eq_true rfl) rfl ?_
  refine mB hT 2 rfl ?_
  refine hC.2.1 _ [_] _ _ _ _ (m_isBasket_t hb) rfl (Nat.le_of_ble_eq_true rfl) rfl ?_
  refine mB hT 2 rfl ?_
  refine hC.2.2.1 _ [_] _ _ _ _ (m_isStuff_t hk) rfl (Nat.le_of_ble_eq_true rfl) rfl ?_
  refine mB hT 2 rfl ?_
  refine hC.2.2.2.1 _ 0 [] _ _ _ _ _ (show KX3_layNow l D ca ad _ _ none (MW 1 (Int32.ofNat vs) dt un h (boX 4 0) tt tt ro ot Bm bk) from (by rw [edt, ett]; exact m_layNow (n := 1) (by decide))) rfl rfl (Nat.le_of_ble_eq_true rfl) rfl ?_
  refine mB hT 5 rfl ?_
  refine mIf (fun _ => ?_) (fun hn => absurd (lc_eq.mpr h0) hn)
  refine mB hT 1 rfl ?_
  exact hR _ (by decide) _ _ _ rfl rfl
set_option maxRecDepth 20000 in
theorem m_sure_1 {vs : Nat} {wo un h : Int64} {bo : Nat → Int32} {ta tr ro ot : Nat → Int64} {Bm : Nat → Nat → Nat → Int32} {bk : Nat → Nat → Int32} {a : Nat} (ha : a < 4) {b : Nat} (hb : b < 4) {k : Nat} (hk : k < 3) (h0 : ¬ dtM (TnM 1 Bm 4 0) = 0) : ∃ (wo2 un2 h2 : Int64) (bo2 : Nat → Int32) (ta2 tr2 ro2 ot2 : Nat → Int64), KX3_sure l D ca ad [.ref 0, .int (Int32.ofNat a), .int (Int32.ofNat b), .int (Int32.ofNat k)] (MW 1 (Int32.ofNat vs) wo un h bo ta tr ro ot Bm bk) (some (.int (if 0 < suM 1 (fun i s => emM (Bm (bkM 4 0 i) i) k s) (fun i => (rdM 1 (TnM 1 Bm 4 0) (dtM (TnM 1 Bm 4 0)) (fun j => (bk a j).toInt64)) i - (rdM 1 (TnM 1 Bm 4 0) (dtM (TnM 1 Bm 4 0)) (fun j => (bk b j).toInt64)) i) then 0 else 1))) (MW 1 (Int32.ofNat vs) wo2 un2 h2 bo2 ta2 tr2 ro2 ot2 Bm bk) := by
  obtain ⟨tt, ett⟩ : ∃ z, z = (TnM 1 Bm 4 0) := ⟨_, rfl⟩
  obtain ⟨dt, edt⟩ : ∃ z, z = dtM tt := ⟨_, rfl⟩
  rw [← ett, ← edt] at h0
  obtain ⟨rr, err⟩ : ∃ z, z = rdM 1 tt dt (fun j => (bk b j).toInt64) := ⟨_, rfl⟩
  obtain ⟨ts, ets⟩ : ∃ z, z = tsM 1 tt 3 (fun j => (bk b j).toInt64) := ⟨_, rfl⟩
  obtain ⟨ra, era⟩ : ∃ z, z = rdM 1 tt dt (fun j => (bk a j).toInt64) := ⟨_, rfl⟩
  obtain ⟨ta3, eta3⟩ : ∃ z, z = tsM 1 tt 3 (fun j => (bk a j).toInt64) := ⟨_, rfl⟩
  obtain ⟨g, eg⟩ : ∃ z : Nat → Nat → Int64, z = fun i s => emM (Bm (bkM 4 0 i) i) k s := ⟨_, rfl⟩
  rw [← ett, ← edt, ← err, ← era, ← eg]
  refine ⟨dt, (absX dt), h, (boX 4 0), tt, ta3, ra, rr, ?_⟩
  refine PX3_sure (Nat.le_of_ble_eq_true rfl) ?_
  intro G hT hC hR
  refine mB hT 1 rfl ?_
  refine hC.1 _ [_] _ _ _ _ (m_isBasket_t ha) rfl (Nat.le_of_ble_eq_true rfl) rfl ?_
  refine mB hT 2 rfl ?_
  refine hC.2.1 _ [_] _ _ _ _ (m_isBasket_t hb) rfl (Nat.le_of_ble_eq_true rfl) rfl ?_
  refine mB hT 2 rfl ?_
  refine hC.2.2.1 _ [_] _ _ _ _ (m_isStuff_t hk) rfl (Nat.le_of_ble_eq_true rfl) rfl ?_
  refine mB hT 2 rfl ?_
  refine hC.2.2.2.1 _ 0 [] _ _ _ _ _ (show KX3_layNow l D ca ad _ _ none (MW 1 (Int32.ofNat vs) dt un h (boX 4 0) tt tt ro ot Bm bk) from (by rw [edt, ett]; exact m_layNow (n := 1) (by decide))) rfl rfl (Nat.le_of_ble_eq_true rfl) rfl ?_
  refine mB hT 5 rfl ?_
  refine mIf (fun hp => absurd hp (fun q => h0 (lc_eq.mp q))) (fun _ => ?_)
  refine mB hT 2 rfl ?_
  refine hC.2.2.2.2.1 _ 0 [_] _ _ _ _ _ (show KX3_solve l D ca ad _ _ none (MW 1 (Int32.ofNat vs) dt (absX dt) h (boX 4 0) tt ts rr ot Bm bk) from (by rw [err, ets]; exact m_solve (n := 1) (by decide) hb)) rfl rfl (Nat.le_of_ble_eq_true rfl) rfl ?_
  refine mB hT 39 rfl ?_
  refine mNf (lv2 := [(4, .int 2), (0, .ref 0), (1, .int (Int32.ofNat a)), (2, .int (Int32.ofNat b)), (3, .int (Int32.ofNat k))]) (st2 := []) rfl rfl ?_
  refine mWd (w2 := (MW 1 (Int32.ofNat vs) dt (absX dt) h (boX 4 0) tt ts rr (up (up (up ot 0 (rr 0)) 1 (rr 1)) 2 (rr 2)) Bm bk)) rfl ?_
  refine mB hT 20 rfl ?_
  refine mNf (lv2 := [(4, .int 4), (0, .ref 0), (1, .int (Int32.ofNat a)), (2, .int (Int32.ofNat b)), (3, .int (Int32.ofNat k))]) (st2 := [.int (Int32.ofNat a), .ref 0]) rfl rfl ?_
  refine mWd (w2 := (MW 1 (Int32.ofNat vs) dt (absX dt) h (boX 4 0) tt ts rr (up (up (up (up ot 0 (rr 0)) 1 (rr 1)) 2 (rr 2)) 3 (rr 3)) Bm bk)) rfl ?_
  refine mWd (w2 := (MW 1 (Int32.ofNat vs) dt (absX dt) h (boX 4 0) tt ts rr rr Bm bk)) rfl ?_
  refine hC.2.2.2.2.2.1 _ 0 [_] _ _ _ _ _ (show KX3_solve l D ca ad _ _ none (MW 1 (Int32.ofNat vs) dt (absX dt) h (boX 4 0) tt ta3 ra rr Bm bk) from (by rw [era, eta3]; exact m_solve (n := 1) (by decide) ha)) rfl rfl (Nat.le_of_ble_eq_true rfl) rfl ?_
  refine mB hT 26 rfl ?_
  have J0 : ∀ t0 : Nat, t0 < 3 → t0 = (if 0 < ra 0 - rr 0 then 2 else 0) → G (129, [(7, .long ((ra 0) - (rr 0))), (6, .int 0), (4, .long 0), (0, .ref 0), (1, .int (Int32.ofNat a)), (2, .int (Int32.ofNat b)), (3, .int (Int32.ofNat k))], [.int (Int32.ofNat t0), .int (Int32.ofNat k), .int 0, .ref 0, .long 0], (MW 1 (Int32.ofNat vs) dt (absX dt) h (boX 4 0) tt ta3 ra rr Bm bk)) := by
    intro t0 ht0 et0
    refine hC.2.2.2.2.2.2 _ 0 [_, _, _] _ _ _ _ _ (show KX3_emission l D ca ad _ _ (some (.long (g 0 t0))) _ from (by rw [eg]; exact m_emi_4_0 (n := 1) k hk 0 t0 (by decide) ht0)) rfl rfl (Nat.le_of_ble_eq_true rfl) rfl ?_
    refine mB hT 14 rfl ?_
    refine mIf (fun h1 => ?_) (fun h1 => ?_)
    · refine mNf (lv2 := [(6, .int 1), (4, .long (0 + ((g 0 t0) * ((ra 0) - (rr 0))))), (7, .long ((ra 0) - (rr 0))), (0, .ref 0), (1, .int (Int32.ofNat a)), (2, .int (Int32.ofNat b)), (3, .int (Int32.ofNat k))]) (st2 := []) rfl rfl ?_
      refine mB hT 1 rfl ?_
      exact hR _ (by decide) _ _ _ (by subst et0; exact congrArg (fun z => [Value.int z]) (if_pos (lc_gt.mp h1)).symm) rfl
    · refine mNf (lv2 := [(6, .int 1), (4, .long (0 + ((g 0 t0) * ((ra 0) - (rr 0))))), (7, .long ((ra 0) - (rr 0))), (0, .ref 0), (1, .int (Int32.ofNat a)), (2, .int (Int32.ofNat b)), (3, .int (Int32.ofNat k))]) (st2 := []) rfl rfl ?_
      refine mB hT 2 rfl ?_
      exact hR _ (by decide) _ _ _ (by subst et0; exact congrArg (fun z => [Value.int z]) (if_neg (fun q => h1 (lc_gt.mpr q))).symm) rfl
  refine mIf (fun h => ?_) (fun h => ?_)
  · refine mB hT 1 rfl ?_
    exact J0 0 (by decide) (if_neg (Int64.not_lt.mpr (lc_le.mp h))).symm
  · refine mB hT 2 rfl ?_
    exact J0 2 (by decide) (if_pos (Int64.not_le.mp (fun q => h (lc_le.mpr q)))).symm
set_option maxRecDepth 20000 in
theorem m_turned_B_2 {vs : Nat} {wo un h : Int64} {bo : Nat → Int32} {ta tr ro ot : Nat → Int64} {Bm : Nat → Nat → Nat → Int32} {bk : Nat → Nat → Int32} {b : Nat} (hb : b < 4) (h0 : dtM (TnM 2 Bm 4 0) = 0) : ∃ (wo2 un2 h2 : Int64) (bo2 : Nat → Int32) (ta2 tr2 ro2 ot2 : Nat → Int64), KX3_turned l D ca ad [.ref 0, .int (Int32.ofNat b)] (MW 2 (Int32.ofNat vs) wo un h bo ta tr ro ot Bm bk) (some (.int (-104))) (MW 2 (Int32.ofNat vs) wo2 un2 h2 bo2 ta2 tr2 ro2 ot2 Bm bk) := by
  obtain ⟨tt, ett⟩ : ∃ z, z = (TnM 2 Bm 4 0) := ⟨_, rfl⟩
  obtain ⟨dt, edt⟩ : ∃ z, z = dtM tt := ⟨_, rfl⟩
  rw [← ett, ← edt] at h0
  refine ⟨dt, un, h, (boX 4 0), tt, tt, ro, ot, ?_⟩
  refine PX3_turned (Nat.le_of_ble_eq_true rfl) ?_
  intro G hT hC hR
  refine mB hT 1 rfl ?_
  refine hC.1 _ [_] _ _ _ _ (m_isBasket_t hb) rfl (Nat.le_of_ble_eq_true rfl) rfl ?_
  refine mB hT 2 rfl ?_
  refine hC.2.1 _ 0 [] _ _ _ _ _ (show KX3_layNow l D ca ad _ _ none (MW 2 (Int32.ofNat vs) dt un h (boX 4 0) tt tt ro ot Bm bk) from (by rw [edt, ett]; exact m_layNow (n := 2) (by decide))) rfl rfl (Nat.le_of_ble_eq_true rfl) rfl ?_
  refine mB hT 5 rfl ?_
  refine mIf (fun _ => ?_) (fun hn => absurd (lc_eq.mpr h0) hn)
  refine mB hT 1 rfl ?_
  exact hR _ (by decide) _ _ _ rfl rfl
set_option maxRecDepth 20000 in
theorem m_turned_2 {vs : Nat} {wo un h : Int64} {bo : Nat → Int32} {ta tr ro ot : Nat → Int64} {Bm : Nat → Nat → Nat → Int32} {bk : Nat → Nat → Int32} {b : Nat} (hb : b < 4) (h0 : ¬ dtM (TnM 2 Bm 4 0) = 0) : ∃ (wo2 un2 h2 : Int64) (bo2 : Nat → Int32) (ta2 tr2 ro2 ot2 : Nat → Int64), KX3_turned l D ca ad [.ref 0, .int (Int32.ofNat b)] (MW 2 (Int32.ofNat vs) wo un h bo ta tr ro ot Bm bk) (some (.int (tnF 2 0 (rdM 2 (TnM 2 Bm 4 0) (dtM (TnM 2 Bm 4 0)) (fun j => (bk b j).toInt64))))) (MW 2 (Int32.ofNat vs) wo2 un2 h2 bo2 ta2 tr2 ro2 ot2 Bm bk) := by
  obtain ⟨tt, ett⟩ : ∃ z, z = (TnM 2 Bm 4 0) := ⟨_, rfl⟩
  obtain ⟨dt, edt⟩ : ∃ z, z = dtM tt := ⟨_, rfl⟩
  rw [← ett, ← edt] at h0
  obtain ⟨rr, err⟩ : ∃ z, z = rdM 2 tt dt (fun j => (bk b j).toInt64) := ⟨_, rfl⟩
  obtain ⟨ts, ets⟩ : ∃ z, z = tsM 2 tt 3 (fun j => (bk b j).toInt64) := ⟨_, rfl⟩
  rw [← ett, ← edt, ← err]
  refine ⟨dt, (absX dt), h, (boX 4 0), tt, ts, rr, ot, ?_⟩
  refine PX3_turned (Nat.le_of_ble_eq_true rfl) ?_
  intro G hT hC hR
  refine mB hT 1 rfl ?_
  refine hC.1 _ [_] _ _ _ _ (m_isBasket_t hb) rfl (Nat.le_of_ble_eq_true rfl) rfl ?_
  refine mB hT 2 rfl ?_
  refine hC.2.1 _ 0 [] _ _ _ _ _ (show KX3_layNow l D ca ad _ _ none (MW 2 (Int32.ofNat vs) dt un h (boX 4 0) tt tt ro ot Bm bk) from (by rw [edt, ett]; exact m_layNow (n := 2) (by decide))) rfl rfl (Nat.le_of_ble_eq_true rfl) rfl ?_
  refine mB hT 5 rfl ?_
  refine mIf (fun hp => absurd hp (fun q => h0 (lc_eq.mp q))) (fun _ => ?_)
  refine mB hT 2 rfl ?_
  refine hC.2.2 _ 0 [_] _ _ _ _ _ (show KX3_solve l D ca ad _ _ none (MW 2 (Int32.ofNat vs) dt (absX dt) h (boX 4 0) tt ts rr ot Bm bk) from (by rw [err, ets]; exact m_solve (n := 2) (by decide) hb)) rfl rfl (Nat.le_of_ble_eq_true rfl) rfl ?_
  refine mB hT 13 rfl ?_
  refine mIf (fun h1 => ?_) (fun h1 => ?_)
  · refine mB hT 6 rfl ?_
    exact hR _ (by decide) _ _ _ (by simp only [tnF, if_pos (lc_lt.mp h1)]; rfl) rfl
  · refine mB hT 13 rfl ?_
    refine mIf (fun h2 => ?_) (fun h2 => ?_)
    · refine mNf (lv2 := [(2, .int 1), (0, .ref 0), (1, .int (Int32.ofNat b))]) (st2 := []) rfl rfl ?_
      refine mB hT 6 rfl ?_
      exact hR _ (by decide) _ _ _ (by simp only [tnF, if_neg (fun q => h1 (lc_lt.mpr q)), if_pos (lc_lt.mp h2)]; rfl) rfl
    · refine mNf (lv2 := [(2, .int 1), (0, .ref 0), (1, .int (Int32.ofNat b))]) (st2 := []) rfl rfl ?_
      refine mB hT 11 rfl ?_
      exact hR _ (by decide) _ _ _ (by simp only [tnF, if_neg (fun q => h1 (lc_lt.mpr q)), if_neg (fun q => h2 (lc_lt.mpr q))]; rfl) rfl
set_option maxRecDepth 20000 in
theorem m_most_B_2 {vs : Nat} {wo un h : Int64} {bo : Nat → Int32} {ta tr ro ot : Nat → Int64} {Bm : Nat → Nat → Nat → Int32} {bk : Nat → Nat → Int32} {b : Nat} (hb : b < 4) {k : Nat} (hk : k < 3) (h0 : dtM (TnM 2 Bm 4 0) = 0) : ∃ (wo2 un2 h2 : Int64) (bo2 : Nat → Int32) (ta2 tr2 ro2 ot2 : Nat → Int64), KX3_most l D ca ad [.ref 0, .int (Int32.ofNat b), .int (Int32.ofNat k)] (MW 2 (Int32.ofNat vs) wo un h bo ta tr ro ot Bm bk) (some (.int (-104))) (MW 2 (Int32.ofNat vs) wo2 un2 h2 bo2 ta2 tr2 ro2 ot2 Bm bk) := by
  obtain ⟨tt, ett⟩ : ∃ z, z = (TnM 2 Bm 4 0) := ⟨_, rfl⟩
  obtain ⟨dt, edt⟩ : ∃ z, z = dtM tt := ⟨_, rfl⟩
  rw [← ett, ← edt] at h0
  refine ⟨dt, un, h, (boX 4 0), tt, tt, ro, ot, ?_⟩
  refine PX3_most (Nat.le_of_ble_eq_true rfl) ?_
  intro G hT hC hR
  refine mB hT 1 rfl ?_
  refine hC.1 _ [_] _ _ _ _ (m_isBasket_t hb) rfl (Nat.le_of_ble_eq_true rfl) rfl ?_
  refine mB hT 2 rfl ?_
  refine hC.2.1 _ [_] _ _ _ _ (m_isStuff_t hk) rfl (Nat.le_of_ble_eq_true rfl) rfl ?_
  refine mB hT 2 rfl ?_
  refine hC.2.2.1 _ 0 [] _ _ _ _ _ (show KX3_layNow l D ca ad _ _ none (MW 2 (Int32.ofNat vs) dt un h (boX 4 0) tt tt ro ot Bm bk) from (by rw [edt, ett]; exact m_layNow (n := 2) (by decide))) rfl rfl (Nat.le_of_ble_eq_true rfl) rfl ?_
  refine mB hT 5 rfl ?_
  refine mIf (fun _ => ?_) (fun hn => absurd (lc_eq.mpr h0) hn)
  refine mB hT 1 rfl ?_
  exact hR _ (by decide) _ _ _ rfl rfl
set_option maxRecDepth 20000 in
theorem m_most_2 {vs : Nat} {wo un h : Int64} {bo : Nat → Int32} {ta tr ro ot : Nat → Int64} {Bm : Nat → Nat → Nat → Int32} {bk : Nat → Nat → Int32} {b : Nat} (hb : b < 4) {k : Nat} (hk : k < 3) (h0 : ¬ dtM (TnM 2 Bm 4 0) = 0) : ∃ (wo2 un2 h2 : Int64) (bo2 : Nat → Int32) (ta2 tr2 ro2 ot2 : Nat → Int64), KX3_most l D ca ad [.ref 0, .int (Int32.ofNat b), .int (Int32.ofNat k)] (MW 2 (Int32.ofNat vs) wo un h bo ta tr ro ot Bm bk) (some (.int (mbX 2 (fun i => emM (Bm (bkM 4 0 i) i) k 1 * (rdM 2 (TnM 2 Bm 4 0) (dtM (TnM 2 Bm 4 0)) (fun j => (bk b j).toInt64)) i)).1)) (MW 2 (Int32.ofNat vs) wo2 un2 h2 bo2 ta2 tr2 ro2 ot2 Bm bk) := by
  obtain ⟨tt, ett⟩ : ∃ z, z = (TnM 2 Bm 4 0) := ⟨_, rfl⟩
  obtain ⟨dt, edt⟩ : ∃ z, z = dtM tt := ⟨_, rfl⟩
  rw [← ett, ← edt] at h0
  obtain ⟨rr, err⟩ : ∃ z, z = rdM 2 tt dt (fun j => (bk b j).toInt64) := ⟨_, rfl⟩
  obtain ⟨ts, ets⟩ : ∃ z, z = tsM 2 tt 3 (fun j => (bk b j).toInt64) := ⟨_, rfl⟩
  obtain ⟨g, eg⟩ : ∃ z : Nat → Int64, z = fun i => emM (Bm (bkM 4 0 i) i) k 1 := ⟨_, rfl⟩
  rw [← ett, ← edt, ← err]
  rw [show (fun i => emM (Bm (bkM 4 0 i) i) k 1 * rr i) = fun i => g i * rr i by rw [eg]]
  refine ⟨dt, (absX dt), h, (boX 4 0), tt, ts, rr, ot, ?_⟩
  refine PX3_most (Nat.le_of_ble_eq_true rfl) ?_
  intro G hT hC hR
  refine mB hT 1 rfl ?_
  refine hC.1 _ [_] _ _ _ _ (m_isBasket_t hb) rfl (Nat.le_of_ble_eq_true rfl) rfl ?_
  refine mB hT 2 rfl ?_
  refine hC.2.1 _ [_] _ _ _ _ (m_isStuff_t hk) rfl (Nat.le_of_ble_eq_true rfl) rfl ?_
  refine mB hT 2 rfl ?_
  refine hC.2.2.1 _ 0 [] _ _ _ _ _ (show KX3_layNow l D ca ad _ _ none (MW 2 (Int32.ofNat vs) dt un h (boX 4 0) tt tt ro ot Bm bk) from (by rw [edt, ett]; exact m_layNow (n := 2) (by decide))) rfl rfl (Nat.le_of_ble_eq_true rfl) rfl ?_
  refine mB hT 5 rfl ?_
  refine mIf (fun hp => absurd hp (fun q => h0 (lc_eq.mp q))) (fun _ => ?_)
  refine mB hT 2 rfl ?_
  refine hC.2.2.2.1 _ 0 [_] _ _ _ _ _ (show KX3_solve l D ca ad _ _ none (MW 2 (Int32.ofNat vs) dt (absX dt) h (boX 4 0) tt ts rr ot Bm bk) from (by rw [err, ets]; exact m_solve (n := 2) (by decide) hb)) rfl rfl (Nat.le_of_ble_eq_true rfl) rfl ?_
  refine mB hT 27 rfl ?_
  refine mNf (lv2 := [(4, .int 1), (3, .int 0), (0, .ref 0), (1, .int (Int32.ofNat b)), (2, .int (Int32.ofNat k))]) (st2 := [.int 1, .int (Int32.ofNat k), .int 1, .ref 0]) rfl rfl ?_
  refine hC.2.2.2.2.1 _ 0 [_, _, _] _ _ _ _ _ (show KX3_emission l D ca ad _ _ (some (.long (g 1))) _ from (by rw [eg]; exact m_emi_4_0 (n := 2) k hk 1 1 (by decide) (by decide))) rfl rfl (Nat.le_of_ble_eq_true rfl) rfl ?_
  refine mB hT 9 rfl ?_
  refine hC.2.2.2.2.2 _ 0 [_, _, _] _ _ _ _ _ (show KX3_emission l D ca ad _ _ (some (.long (g 0))) _ from (by rw [eg]; exact m_emi_4_0 (n := 2) k hk 0 1 (by decide) (by decide))) rfl rfl (Nat.le_of_ble_eq_true rfl) rfl ?_
  refine mB hT 7 rfl ?_
  refine mIf (fun h1 => ?_) (fun h1 => ?_)
  · refine mB hT 9 rfl ?_
    exact hR _ (by decide) _ _ _ (by have e1 : mbX 1 (fun i => g i * rr i) = (0, g 0 * rr 0) := rfl; have e2 : mbX 2 (fun i => g i * rr i) = (0, g 0 * rr 0) := (by show (if (mbX 1 (fun i => g i * rr i)).2 < g 1 * rr 1 then ((Int32.ofNat 1, g 1 * rr 1) : Int32 × Int64) else mbX 1 (fun i => g i * rr i)) = _; rw [e1]; exact if_neg (Int64.not_lt.mpr (lc_le.mp h1))); rw [e2]; rfl) rfl
  · refine mB hT 10 rfl ?_
    exact hR _ (by decide) _ _ _ (by have e1 : mbX 1 (fun i => g i * rr i) = (0, g 0 * rr 0) := rfl; have e2 : mbX 2 (fun i => g i * rr i) = (1, g 1 * rr 1) := (by show (if (mbX 1 (fun i => g i * rr i)).2 < g 1 * rr 1 then ((Int32.ofNat 1, g 1 * rr 1) : Int32 × Int64) else mbX 1 (fun i => g i * rr i)) = _; rw [e1]; exact if_pos (Int64.not_le.mp (fun q => h1 (lc_le.mpr q)))); rw [e2]; rfl) rfl
set_option maxRecDepth 20000 in
theorem m_sure_B_2 {vs : Nat} {wo un h : Int64} {bo : Nat → Int32} {ta tr ro ot : Nat → Int64} {Bm : Nat → Nat → Nat → Int32} {bk : Nat → Nat → Int32} {a : Nat} (ha : a < 4) {b : Nat} (hb : b < 4) {k : Nat} (hk : k < 3) (h0 : dtM (TnM 2 Bm 4 0) = 0) : ∃ (wo2 un2 h2 : Int64) (bo2 : Nat → Int32) (ta2 tr2 ro2 ot2 : Nat → Int64), KX3_sure l D ca ad [.ref 0, .int (Int32.ofNat a), .int (Int32.ofNat b), .int (Int32.ofNat k)] (MW 2 (Int32.ofNat vs) wo un h bo ta tr ro ot Bm bk) (some (.int (-104))) (MW 2 (Int32.ofNat vs) wo2 un2 h2 bo2 ta2 tr2 ro2 ot2 Bm bk) := by
  obtain ⟨tt, ett⟩ : ∃ z, z = (TnM 2 Bm 4 0) := ⟨_, rfl⟩
  obtain ⟨dt, edt⟩ : ∃ z, z = dtM tt := ⟨_, rfl⟩
  rw [← ett, ← edt] at h0
  refine ⟨dt, un, h, (boX 4 0), tt, tt, ro, ot, ?_⟩
  refine PX3_sure (Nat.le_of_ble_eq_true rfl) ?_
  intro G hT hC hR
  refine mB hT 1 rfl ?_
  refine hC.1 _ [_] _ _ _ _ (m_isBasket_t ha) rfl (Nat.le_of_ble_eq_true rfl) rfl ?_
  refine mB hT 2 rfl ?_
  refine hC.2.1 _ [_] _ _ _ _ (m_isBasket_t hb) rfl (Nat.le_of_ble_eq_true rfl) rfl ?_
  refine mB hT 2 rfl ?_
  refine hC.2.2.1 _ [_] _ _ _ _ (m_isStuff_t hk) rfl (Nat.le_of_ble_eq_true rfl) rfl ?_
  refine mB hT 2 rfl ?_
  refine hC.2.2.2.1 _ 0 [] _ _ _ _ _ (show KX3_layNow l D ca ad _ _ none (MW 2 (Int32.ofNat vs) dt un h (boX 4 0) tt tt ro ot Bm bk) from (by rw [edt, ett]; exact m_layNow (n := 2) (by decide))) rfl rfl (Nat.le_of_ble_eq_true rfl) rfl ?_
  refine mB hT 5 rfl ?_
  refine mIf (fun _ => ?_) (fun hn => absurd (lc_eq.mpr h0) hn)
  refine mB hT 1 rfl ?_
  exact hR _ (by decide) _ _ _ rfl rfl
set_option maxRecDepth 20000 in
theorem m_sure_2 {vs : Nat} {wo un h : Int64} {bo : Nat → Int32} {ta tr ro ot : Nat → Int64} {Bm : Nat → Nat → Nat → Int32} {bk : Nat → Nat → Int32} {a : Nat} (ha : a < 4) {b : Nat} (hb : b < 4) {k : Nat} (hk : k < 3) (h0 : ¬ dtM (TnM 2 Bm 4 0) = 0) : ∃ (wo2 un2 h2 : Int64) (bo2 : Nat → Int32) (ta2 tr2 ro2 ot2 : Nat → Int64), KX3_sure l D ca ad [.ref 0, .int (Int32.ofNat a), .int (Int32.ofNat b), .int (Int32.ofNat k)] (MW 2 (Int32.ofNat vs) wo un h bo ta tr ro ot Bm bk) (some (.int (if 0 < suM 2 (fun i s => emM (Bm (bkM 4 0 i) i) k s) (fun i => (rdM 2 (TnM 2 Bm 4 0) (dtM (TnM 2 Bm 4 0)) (fun j => (bk a j).toInt64)) i - (rdM 2 (TnM 2 Bm 4 0) (dtM (TnM 2 Bm 4 0)) (fun j => (bk b j).toInt64)) i) then 0 else 1))) (MW 2 (Int32.ofNat vs) wo2 un2 h2 bo2 ta2 tr2 ro2 ot2 Bm bk) := by
  obtain ⟨tt, ett⟩ : ∃ z, z = (TnM 2 Bm 4 0) := ⟨_, rfl⟩
  obtain ⟨dt, edt⟩ : ∃ z, z = dtM tt := ⟨_, rfl⟩
  rw [← ett, ← edt] at h0
  obtain ⟨rr, err⟩ : ∃ z, z = rdM 2 tt dt (fun j => (bk b j).toInt64) := ⟨_, rfl⟩
  obtain ⟨ts, ets⟩ : ∃ z, z = tsM 2 tt 3 (fun j => (bk b j).toInt64) := ⟨_, rfl⟩
  obtain ⟨ra, era⟩ : ∃ z, z = rdM 2 tt dt (fun j => (bk a j).toInt64) := ⟨_, rfl⟩
  obtain ⟨ta3, eta3⟩ : ∃ z, z = tsM 2 tt 3 (fun j => (bk a j).toInt64) := ⟨_, rfl⟩
  obtain ⟨g, eg⟩ : ∃ z : Nat → Nat → Int64, z = fun i s => emM (Bm (bkM 4 0 i) i) k s := ⟨_, rfl⟩
  rw [← ett, ← edt, ← err, ← era, ← eg]
  refine ⟨dt, (absX dt), h, (boX 4 0), tt, ta3, ra, rr, ?_⟩
  refine PX3_sure (Nat.le_of_ble_eq_true rfl) ?_
  intro G hT hC hR
  refine mB hT 1 rfl ?_
  refine hC.1 _ [_] _ _ _ _ (m_isBasket_t ha) rfl (Nat.le_of_ble_eq_true rfl) rfl ?_
  refine mB hT 2 rfl ?_
  refine hC.2.1 _ [_] _ _ _ _ (m_isBasket_t hb) rfl (Nat.le_of_ble_eq_true rfl) rfl ?_
  refine mB hT 2 rfl ?_
  refine hC.2.2.1 _ [_] _ _ _ _ (m_isStuff_t hk) rfl (Nat.le_of_ble_eq_true rfl) rfl ?_
  refine mB hT 2 rfl ?_
  refine hC.2.2.2.1 _ 0 [] _ _ _ _ _ (show KX3_layNow l D ca ad _ _ none (MW 2 (Int32.ofNat vs) dt un h (boX 4 0) tt tt ro ot Bm bk) from (by rw [edt, ett]; exact m_layNow (n := 2) (by decide))) rfl rfl (Nat.le_of_ble_eq_true rfl) rfl ?_
  refine mB hT 5 rfl ?_
  refine mIf (fun hp => absurd hp (fun q => h0 (lc_eq.mp q))) (fun _ => ?_)
  refine mB hT 2 rfl ?_
  refine hC.2.2.2.2.1 _ 0 [_] _ _ _ _ _ (show KX3_solve l D ca ad _ _ none (MW 2 (Int32.ofNat vs) dt (absX dt) h (boX 4 0) tt ts rr ot Bm bk) from (by rw [err, ets]; exact m_solve (n := 2) (by decide) hb)) rfl rfl (Nat.le_of_ble_eq_true rfl) rfl ?_
  refine mB hT 39 rfl ?_
  refine mNf (lv2 := [(4, .int 2), (0, .ref 0), (1, .int (Int32.ofNat a)), (2, .int (Int32.ofNat b)), (3, .int (Int32.ofNat k))]) (st2 := []) rfl rfl ?_
  refine mWd (w2 := (MW 2 (Int32.ofNat vs) dt (absX dt) h (boX 4 0) tt ts rr (up (up (up ot 0 (rr 0)) 1 (rr 1)) 2 (rr 2)) Bm bk)) rfl ?_
  refine mB hT 20 rfl ?_
  refine mNf (lv2 := [(4, .int 4), (0, .ref 0), (1, .int (Int32.ofNat a)), (2, .int (Int32.ofNat b)), (3, .int (Int32.ofNat k))]) (st2 := [.int (Int32.ofNat a), .ref 0]) rfl rfl ?_
  refine mWd (w2 := (MW 2 (Int32.ofNat vs) dt (absX dt) h (boX 4 0) tt ts rr (up (up (up (up ot 0 (rr 0)) 1 (rr 1)) 2 (rr 2)) 3 (rr 3)) Bm bk)) rfl ?_
  refine mWd (w2 := (MW 2 (Int32.ofNat vs) dt (absX dt) h (boX 4 0) tt ts rr rr Bm bk)) rfl ?_
  refine hC.2.2.2.2.2.1 _ 0 [_] _ _ _ _ _ (show KX3_solve l D ca ad _ _ none (MW 2 (Int32.ofNat vs) dt (absX dt) h (boX 4 0) tt ta3 ra rr Bm bk) from (by rw [era, eta3]; exact m_solve (n := 2) (by decide) ha)) rfl rfl (Nat.le_of_ble_eq_true rfl) rfl ?_
  refine mB hT 26 rfl ?_
  have J0 : ∀ t0 : Nat, t0 < 3 → t0 = (if 0 < ra 0 - rr 0 then 2 else 0) → G (129, [(7, .long ((ra 0) - (rr 0))), (6, .int 0), (4, .long 0), (0, .ref 0), (1, .int (Int32.ofNat a)), (2, .int (Int32.ofNat b)), (3, .int (Int32.ofNat k))], [.int (Int32.ofNat t0), .int (Int32.ofNat k), .int 0, .ref 0, .long 0], (MW 2 (Int32.ofNat vs) dt (absX dt) h (boX 4 0) tt ta3 ra rr Bm bk)) := by
    intro t0 ht0 et0
    refine hC.2.2.2.2.2.2 _ 0 [_, _, _] _ _ _ _ _ (show KX3_emission l D ca ad _ _ (some (.long (g 0 t0))) _ from (by rw [eg]; exact m_emi_4_0 (n := 2) k hk 0 t0 (by decide) ht0)) rfl rfl (Nat.le_of_ble_eq_true rfl) rfl ?_
    refine mB hT 28 rfl ?_
    have J1 : ∀ t1 : Nat, t1 < 3 → t1 = (if 0 < ra 1 - rr 1 then 2 else 0) → G (129, [(7, .long ((ra 1) - (rr 1))), (6, .int 1), (4, .long (0 + ((g 0 t0) * ((ra 0) - (rr 0))))), (0, .ref 0), (1, .int (Int32.ofNat a)), (2, .int (Int32.ofNat b)), (3, .int (Int32.ofNat k))], [.int (Int32.ofNat t1), .int (Int32.ofNat k), .int 1, .ref 0, .long (0 + ((g 0 t0) * ((ra 0) - (rr 0))))], (MW 2 (Int32.ofNat vs) dt (absX dt) h (boX 4 0) tt ta3 ra rr Bm bk)) := by
      intro t1 ht1 et1
      refine hC.2.2.2.2.2.2 _ 0 [_, _, _] _ _ _ _ _ (show KX3_emission l D ca ad _ _ (some (.long (g 1 t1))) _ from (by rw [eg]; exact m_emi_4_0 (n := 2) k hk 1 t1 (by decide) ht1)) rfl rfl (Nat.le_of_ble_eq_true rfl) rfl ?_
      refine mB hT 14 rfl ?_
      refine mIf (fun h1 => ?_) (fun h1 => ?_)
      · refine mNf (lv2 := [(6, .int 2), (4, .long ((0 + ((g 0 t0) * ((ra 0) - (rr 0)))) + ((g 1 t1) * ((ra 1) - (rr 1))))), (7, .long ((ra 1) - (rr 1))), (0, .ref 0), (1, .int (Int32.ofNat a)), (2, .int (Int32.ofNat b)), (3, .int (Int32.ofNat k))]) (st2 := []) rfl rfl ?_
        refine mB hT 1 rfl ?_
        exact hR _ (by decide) _ _ _ (by subst et0 et1; exact congrArg (fun z => [Value.int z]) (if_pos (lc_gt.mp h1)).symm) rfl
      · refine mNf (lv2 := [(6, .int 2), (4, .long ((0 + ((g 0 t0) * ((ra 0) - (rr 0)))) + ((g 1 t1) * ((ra 1) - (rr 1))))), (7, .long ((ra 1) - (rr 1))), (0, .ref 0), (1, .int (Int32.ofNat a)), (2, .int (Int32.ofNat b)), (3, .int (Int32.ofNat k))]) (st2 := []) rfl rfl ?_
        refine mB hT 2 rfl ?_
        exact hR _ (by decide) _ _ _ (by subst et0 et1; exact congrArg (fun z => [Value.int z]) (if_neg (fun q => h1 (lc_gt.mpr q))).symm) rfl
    refine mIf (fun h => ?_) (fun h => ?_)
    · refine mB hT 1 rfl ?_
      exact J1 0 (by decide) (if_neg (Int64.not_lt.mpr (lc_le.mp h))).symm
    · refine mB hT 2 rfl ?_
      exact J1 2 (by decide) (if_pos (Int64.not_le.mp (fun q => h (lc_le.mpr q)))).symm
  refine mIf (fun h => ?_) (fun h => ?_)
  · refine mB hT 1 rfl ?_
    exact J0 0 (by decide) (if_neg (Int64.not_lt.mpr (lc_le.mp h))).symm
  · refine mB hT 2 rfl ?_
    exact J0 2 (by decide) (if_pos (Int64.not_le.mp (fun q => h (lc_le.mpr q)))).symm
set_option maxRecDepth 20000 in
theorem m_turned_B_3 {vs : Nat} {wo un h : Int64} {bo : Nat → Int32} {ta tr ro ot : Nat → Int64} {Bm : Nat → Nat → Nat → Int32} {bk : Nat → Nat → Int32} {b : Nat} (hb : b < 4) (h0 : dtM (TnM 3 Bm 4 0) = 0) : ∃ (wo2 un2 h2 : Int64) (bo2 : Nat → Int32) (ta2 tr2 ro2 ot2 : Nat → Int64), KX3_turned l D ca ad [.ref 0, .int (Int32.ofNat b)] (MW 3 (Int32.ofNat vs) wo un h bo ta tr ro ot Bm bk) (some (.int (-104))) (MW 3 (Int32.ofNat vs) wo2 un2 h2 bo2 ta2 tr2 ro2 ot2 Bm bk) := by
  obtain ⟨tt, ett⟩ : ∃ z, z = (TnM 3 Bm 4 0) := ⟨_, rfl⟩
  obtain ⟨dt, edt⟩ : ∃ z, z = dtM tt := ⟨_, rfl⟩
  rw [← ett, ← edt] at h0
  refine ⟨dt, un, h, (boX 4 0), tt, tt, ro, ot, ?_⟩
  refine PX3_turned (Nat.le_of_ble_eq_true rfl) ?_
  intro G hT hC hR
  refine mB hT 1 rfl ?_
  refine hC.1 _ [_] _ _ _ _ (m_isBasket_t hb) rfl (Nat.le_of_ble_eq_true rfl) rfl ?_
  refine mB hT 2 rfl ?_
  refine hC.2.1 _ 0 [] _ _ _ _ _ (show KX3_layNow l D ca ad _ _ none (MW 3 (Int32.ofNat vs) dt un h (boX 4 0) tt tt ro ot Bm bk) from (by rw [edt, ett]; exact m_layNow (n := 3) (by decide))) rfl rfl (Nat.le_of_ble_eq_true rfl) rfl ?_
  refine mB hT 5 rfl ?_
  refine mIf (fun _ => ?_) (fun hn => absurd (lc_eq.mpr h0) hn)
  refine mB hT 1 rfl ?_
  exact hR _ (by decide) _ _ _ rfl rfl
set_option maxRecDepth 20000 in
theorem m_turned_3 {vs : Nat} {wo un h : Int64} {bo : Nat → Int32} {ta tr ro ot : Nat → Int64} {Bm : Nat → Nat → Nat → Int32} {bk : Nat → Nat → Int32} {b : Nat} (hb : b < 4) (h0 : ¬ dtM (TnM 3 Bm 4 0) = 0) : ∃ (wo2 un2 h2 : Int64) (bo2 : Nat → Int32) (ta2 tr2 ro2 ot2 : Nat → Int64), KX3_turned l D ca ad [.ref 0, .int (Int32.ofNat b)] (MW 3 (Int32.ofNat vs) wo un h bo ta tr ro ot Bm bk) (some (.int (tnF 3 0 (rdM 3 (TnM 3 Bm 4 0) (dtM (TnM 3 Bm 4 0)) (fun j => (bk b j).toInt64))))) (MW 3 (Int32.ofNat vs) wo2 un2 h2 bo2 ta2 tr2 ro2 ot2 Bm bk) := by
  obtain ⟨tt, ett⟩ : ∃ z, z = (TnM 3 Bm 4 0) := ⟨_, rfl⟩
  obtain ⟨dt, edt⟩ : ∃ z, z = dtM tt := ⟨_, rfl⟩
  rw [← ett, ← edt] at h0
  obtain ⟨rr, err⟩ : ∃ z, z = rdM 3 tt dt (fun j => (bk b j).toInt64) := ⟨_, rfl⟩
  obtain ⟨ts, ets⟩ : ∃ z, z = tsM 3 tt 3 (fun j => (bk b j).toInt64) := ⟨_, rfl⟩
  rw [← ett, ← edt, ← err]
  refine ⟨dt, (absX dt), h, (boX 4 0), tt, ts, rr, ot, ?_⟩
  refine PX3_turned (Nat.le_of_ble_eq_true rfl) ?_
  intro G hT hC hR
  refine mB hT 1 rfl ?_
  refine hC.1 _ [_] _ _ _ _ (m_isBasket_t hb) rfl (Nat.le_of_ble_eq_true rfl) rfl ?_
  refine mB hT 2 rfl ?_
  refine hC.2.1 _ 0 [] _ _ _ _ _ (show KX3_layNow l D ca ad _ _ none (MW 3 (Int32.ofNat vs) dt un h (boX 4 0) tt tt ro ot Bm bk) from (by rw [edt, ett]; exact m_layNow (n := 3) (by decide))) rfl rfl (Nat.le_of_ble_eq_true rfl) rfl ?_
  refine mB hT 5 rfl ?_
  refine mIf (fun hp => absurd hp (fun q => h0 (lc_eq.mp q))) (fun _ => ?_)
  refine mB hT 2 rfl ?_
  refine hC.2.2 _ 0 [_] _ _ _ _ _ (show KX3_solve l D ca ad _ _ none (MW 3 (Int32.ofNat vs) dt (absX dt) h (boX 4 0) tt ts rr ot Bm bk) from (by rw [err, ets]; exact m_solve (n := 3) (by decide) hb)) rfl rfl (Nat.le_of_ble_eq_true rfl) rfl ?_
  refine mB hT 13 rfl ?_
  refine mIf (fun h1 => ?_) (fun h1 => ?_)
  · refine mB hT 6 rfl ?_
    exact hR _ (by decide) _ _ _ (by simp only [tnF, if_pos (lc_lt.mp h1)]; rfl) rfl
  · refine mB hT 13 rfl ?_
    refine mIf (fun h2 => ?_) (fun h2 => ?_)
    · refine mNf (lv2 := [(2, .int 1), (0, .ref 0), (1, .int (Int32.ofNat b))]) (st2 := []) rfl rfl ?_
      refine mB hT 6 rfl ?_
      exact hR _ (by decide) _ _ _ (by simp only [tnF, if_neg (fun q => h1 (lc_lt.mpr q)), if_pos (lc_lt.mp h2)]; rfl) rfl
    · refine mNf (lv2 := [(2, .int 1), (0, .ref 0), (1, .int (Int32.ofNat b))]) (st2 := []) rfl rfl ?_
      refine mB hT 13 rfl ?_
      refine mIf (fun h3 => ?_) (fun h3 => ?_)
      · refine mB hT 6 rfl ?_
        exact hR _ (by decide) _ _ _ (by simp only [tnF, if_neg (fun q => h1 (lc_lt.mpr q)), if_neg (fun q => h2 (lc_lt.mpr q)), if_pos (lc_lt.mp h3)]; rfl) rfl
      · refine mB hT 11 rfl ?_
        exact hR _ (by decide) _ _ _ (by simp only [tnF, if_neg (fun q => h1 (lc_lt.mpr q)), if_neg (fun q => h2 (lc_lt.mpr q)), if_neg (fun q => h3 (lc_lt.mpr q))]; rfl) rfl
set_option maxRecDepth 20000 in
theorem m_most_B_3 {vs : Nat} {wo un h : Int64} {bo : Nat → Int32} {ta tr ro ot : Nat → Int64} {Bm : Nat → Nat → Nat → Int32} {bk : Nat → Nat → Int32} {b : Nat} (hb : b < 4) {k : Nat} (hk : k < 3) (h0 : dtM (TnM 3 Bm 4 0) = 0) : ∃ (wo2 un2 h2 : Int64) (bo2 : Nat → Int32) (ta2 tr2 ro2 ot2 : Nat → Int64), KX3_most l D ca ad [.ref 0, .int (Int32.ofNat b), .int (Int32.ofNat k)] (MW 3 (Int32.ofNat vs) wo un h bo ta tr ro ot Bm bk) (some (.int (-104))) (MW 3 (Int32.ofNat vs) wo2 un2 h2 bo2 ta2 tr2 ro2 ot2 Bm bk) := by
  obtain ⟨tt, ett⟩ : ∃ z, z = (TnM 3 Bm 4 0) := ⟨_, rfl⟩
  obtain ⟨dt, edt⟩ : ∃ z, z = dtM tt := ⟨_, rfl⟩
  rw [← ett, ← edt] at h0
  refine ⟨dt, un, h, (boX 4 0), tt, tt, ro, ot, ?_⟩
  refine PX3_most (Nat.le_of_ble_eq_true rfl) ?_
  intro G hT hC hR
  refine mB hT 1 rfl ?_
  refine hC.1 _ [_] _ _ _ _ (m_isBasket_t hb) rfl (Nat.le_of_ble_eq_true rfl) rfl ?_
  refine mB hT 2 rfl ?_
  refine hC.2.1 _ [_] _ _ _ _ (m_isStuff_t hk) rfl (Nat.le_of_ble_eq_true rfl) rfl ?_
  refine mB hT 2 rfl ?_
  refine hC.2.2.1 _ 0 [] _ _ _ _ _ (show KX3_layNow l D ca ad _ _ none (MW 3 (Int32.ofNat vs) dt un h (boX 4 0) tt tt ro ot Bm bk) from (by rw [edt, ett]; exact m_layNow (n := 3) (by decide))) rfl rfl (Nat.le_of_ble_eq_true rfl) rfl ?_
  refine mB hT 5 rfl ?_
  refine mIf (fun _ => ?_) (fun hn => absurd (lc_eq.mpr h0) hn)
  refine mB hT 1 rfl ?_
  exact hR _ (by decide) _ _ _ rfl rfl
set_option maxRecDepth 20000 in
theorem m_most_3 {vs : Nat} {wo un h : Int64} {bo : Nat → Int32} {ta tr ro ot : Nat → Int64} {Bm : Nat → Nat → Nat → Int32} {bk : Nat → Nat → Int32} {b : Nat} (hb : b < 4) {k : Nat} (hk : k < 3) (h0 : ¬ dtM (TnM 3 Bm 4 0) = 0) : ∃ (wo2 un2 h2 : Int64) (bo2 : Nat → Int32) (ta2 tr2 ro2 ot2 : Nat → Int64), KX3_most l D ca ad [.ref 0, .int (Int32.ofNat b), .int (Int32.ofNat k)] (MW 3 (Int32.ofNat vs) wo un h bo ta tr ro ot Bm bk) (some (.int (mbX 3 (fun i => emM (Bm (bkM 4 0 i) i) k 1 * (rdM 3 (TnM 3 Bm 4 0) (dtM (TnM 3 Bm 4 0)) (fun j => (bk b j).toInt64)) i)).1)) (MW 3 (Int32.ofNat vs) wo2 un2 h2 bo2 ta2 tr2 ro2 ot2 Bm bk) := by
  obtain ⟨tt, ett⟩ : ∃ z, z = (TnM 3 Bm 4 0) := ⟨_, rfl⟩
  obtain ⟨dt, edt⟩ : ∃ z, z = dtM tt := ⟨_, rfl⟩
  rw [← ett, ← edt] at h0
  obtain ⟨rr, err⟩ : ∃ z, z = rdM 3 tt dt (fun j => (bk b j).toInt64) := ⟨_, rfl⟩
  obtain ⟨ts, ets⟩ : ∃ z, z = tsM 3 tt 3 (fun j => (bk b j).toInt64) := ⟨_, rfl⟩
  obtain ⟨g, eg⟩ : ∃ z : Nat → Int64, z = fun i => emM (Bm (bkM 4 0 i) i) k 1 := ⟨_, rfl⟩
  rw [← ett, ← edt, ← err]
  rw [show (fun i => emM (Bm (bkM 4 0 i) i) k 1 * rr i) = fun i => g i * rr i by rw [eg]]
  refine ⟨dt, (absX dt), h, (boX 4 0), tt, ts, rr, ot, ?_⟩
  refine PX3_most (Nat.le_of_ble_eq_true rfl) ?_
  intro G hT hC hR
  refine mB hT 1 rfl ?_
  refine hC.1 _ [_] _ _ _ _ (m_isBasket_t hb) rfl (Nat.le_of_ble_eq_true rfl) rfl ?_
  refine mB hT 2 rfl ?_
  refine hC.2.1 _ [_] _ _ _ _ (m_isStuff_t hk) rfl (Nat.le_of_ble_eq_true rfl) rfl ?_
  refine mB hT 2 rfl ?_
  refine hC.2.2.1 _ 0 [] _ _ _ _ _ (show KX3_layNow l D ca ad _ _ none (MW 3 (Int32.ofNat vs) dt un h (boX 4 0) tt tt ro ot Bm bk) from (by rw [edt, ett]; exact m_layNow (n := 3) (by decide))) rfl rfl (Nat.le_of_ble_eq_true rfl) rfl ?_
  refine mB hT 5 rfl ?_
  refine mIf (fun hp => absurd hp (fun q => h0 (lc_eq.mp q))) (fun _ => ?_)
  refine mB hT 2 rfl ?_
  refine hC.2.2.2.1 _ 0 [_] _ _ _ _ _ (show KX3_solve l D ca ad _ _ none (MW 3 (Int32.ofNat vs) dt (absX dt) h (boX 4 0) tt ts rr ot Bm bk) from (by rw [err, ets]; exact m_solve (n := 3) (by decide) hb)) rfl rfl (Nat.le_of_ble_eq_true rfl) rfl ?_
  refine mB hT 27 rfl ?_
  refine mNf (lv2 := [(4, .int 1), (3, .int 0), (0, .ref 0), (1, .int (Int32.ofNat b)), (2, .int (Int32.ofNat k))]) (st2 := [.int 1, .int (Int32.ofNat k), .int 1, .ref 0]) rfl rfl ?_
  refine hC.2.2.2.2.1 _ 0 [_, _, _] _ _ _ _ _ (show KX3_emission l D ca ad _ _ (some (.long (g 1))) _ from (by rw [eg]; exact m_emi_4_0 (n := 3) k hk 1 1 (by decide) (by decide))) rfl rfl (Nat.le_of_ble_eq_true rfl) rfl ?_
  refine mB hT 9 rfl ?_
  refine hC.2.2.2.2.2 _ 0 [_, _, _] _ _ _ _ _ (show KX3_emission l D ca ad _ _ (some (.long (g 0))) _ from (by rw [eg]; exact m_emi_4_0 (n := 3) k hk 0 1 (by decide) (by decide))) rfl rfl (Nat.le_of_ble_eq_true rfl) rfl ?_
  refine mB hT 7 rfl ?_
  refine mIf (fun h1 => ?_) (fun h1 => ?_)
  · refine mB hT 15 rfl ?_
    refine mNf (lv2 := [(4, .int 2), (3, .int 0), (0, .ref 0), (1, .int (Int32.ofNat b)), (2, .int (Int32.ofNat k))]) (st2 := [.int 1, .int (Int32.ofNat k), .int 2, .ref 0]) rfl rfl ?_
    refine hC.2.2.2.2.1 _ 0 [_, _, _] _ _ _ _ _ (show KX3_emission l D ca ad _ _ (some (.long (g 2))) _ from (by rw [eg]; exact m_emi_4_0 (n := 3) k hk 2 1 (by decide) (by decide))) rfl rfl (Nat.le_of_ble_eq_true rfl) rfl ?_
    refine mB hT 9 rfl ?_
    refine hC.2.2.2.2.2 _ 0 [_, _, _] _ _ _ _ _ (show KX3_emission l D ca ad _ _ (some (.long (g 0))) _ from (by rw [eg]; exact m_emi_4_0 (n := 3) k hk 0 1 (by decide) (by decide))) rfl rfl (Nat.le_of_ble_eq_true rfl) rfl ?_
    refine mB hT 7 rfl ?_
    refine mIf (fun h2 => ?_) (fun h2 => ?_)
    · refine mB hT 9 rfl ?_
      exact hR _ (by decide) _ _ _ (by have e1 : mbX 1 (fun i => g i * rr i) = (0, g 0 * rr 0) := rfl; have e2 : mbX 2 (fun i => g i * rr i) = (0, g 0 * rr 0) := (by show (if (mbX 1 (fun i => g i * rr i)).2 < g 1 * rr 1 then ((Int32.ofNat 1, g 1 * rr 1) : Int32 × Int64) else mbX 1 (fun i => g i * rr i)) = _; rw [e1]; exact if_neg (Int64.not_lt.mpr (lc_le.mp h1))); have e3 : mbX 3 (fun i => g i * rr i) = (0, g 0 * rr 0) := (by show (if (mbX 2 (fun i => g i * rr i)).2 < g 2 * rr 2 then ((Int32.ofNat 2, g 2 * rr 2) : Int32 × Int64) else mbX 2 (fun i => g i * rr i)) = _; rw [e2]; exact if_neg (Int64.not_lt.mpr (lc_le.mp h2))); rw [e3]; rfl) rfl
    · refine mB hT 10 rfl ?_
      exact hR _ (by decide) _ _ _ (by have e1 : mbX 1 (fun i => g i * rr i) = (0, g 0 * rr 0) := rfl; have e2 : mbX 2 (fun i => g i * rr i) = (0, g 0 * rr 0) := (by show (if (mbX 1 (fun i => g i * rr i)).2 < g 1 * rr 1 then ((Int32.ofNat 1, g 1 * rr 1) : Int32 × Int64) else mbX 1 (fun i => g i * rr i)) = _; rw [e1]; exact if_neg (Int64.not_lt.mpr (lc_le.mp h1))); have e3 : mbX 3 (fun i => g i * rr i) = (2, g 2 * rr 2) := (by show (if (mbX 2 (fun i => g i * rr i)).2 < g 2 * rr 2 then ((Int32.ofNat 2, g 2 * rr 2) : Int32 × Int64) else mbX 2 (fun i => g i * rr i)) = _; rw [e2]; exact if_pos (Int64.not_le.mp (fun q => h2 (lc_le.mpr q)))); rw [e3]; rfl) rfl
  · refine mB hT 16 rfl ?_
    refine mNf (lv2 := [(4, .int 2), (3, .int 1), (0, .ref 0), (1, .int (Int32.ofNat b)), (2, .int (Int32.ofNat k))]) (st2 := [.int 1, .int (Int32.ofNat k), .int 2, .ref 0]) rfl rfl ?_
    refine hC.2.2.2.2.1 _ 0 [_, _, _] _ _ _ _ _ (show KX3_emission l D ca ad _ _ (some (.long (g 2))) _ from (by rw [eg]; exact m_emi_4_0 (n := 3) k hk 2 1 (by decide) (by decide))) rfl rfl (Nat.le_of_ble_eq_true rfl) rfl ?_
    refine mB hT 9 rfl ?_
    refine hC.2.2.2.2.2 _ 0 [_, _, _] _ _ _ _ _ (show KX3_emission l D ca ad _ _ (some (.long (g 1))) _ from (by rw [eg]; exact m_emi_4_0 (n := 3) k hk 1 1 (by decide) (by decide))) rfl rfl (Nat.le_of_ble_eq_true rfl) rfl ?_
    refine mB hT 7 rfl ?_
    refine mIf (fun h3 => ?_) (fun h3 => ?_)
    · refine mB hT 9 rfl ?_
      exact hR _ (by decide) _ _ _ (by have e1 : mbX 1 (fun i => g i * rr i) = (0, g 0 * rr 0) := rfl; have e2 : mbX 2 (fun i => g i * rr i) = (1, g 1 * rr 1) := (by show (if (mbX 1 (fun i => g i * rr i)).2 < g 1 * rr 1 then ((Int32.ofNat 1, g 1 * rr 1) : Int32 × Int64) else mbX 1 (fun i => g i * rr i)) = _; rw [e1]; exact if_pos (Int64.not_le.mp (fun q => h1 (lc_le.mpr q)))); have e3 : mbX 3 (fun i => g i * rr i) = (1, g 1 * rr 1) := (by show (if (mbX 2 (fun i => g i * rr i)).2 < g 2 * rr 2 then ((Int32.ofNat 2, g 2 * rr 2) : Int32 × Int64) else mbX 2 (fun i => g i * rr i)) = _; rw [e2]; exact if_neg (Int64.not_lt.mpr (lc_le.mp h3))); rw [e3]; rfl) rfl
    · refine mB hT 10 rfl ?_
      exact hR _ (by decide) _ _ _ (by have e1 : mbX 1 (fun i => g i * rr i) = (0, g 0 * rr 0) := rfl; have e2 : mbX 2 (fun i => g i * rr i) = (1, g 1 * rr 1) := (by show (if (mbX 1 (fun i => g i * rr i)).2 < g 1 * rr 1 then ((Int32.ofNat 1, g 1 * rr 1) : Int32 × Int64) else mbX 1 (fun i => g i * rr i)) = _; rw [e1]; exact if_pos (Int64.not_le.mp (fun q => h1 (lc_le.mpr q)))); have e3 : mbX 3 (fun i => g i * rr i) = (2, g 2 * rr 2) := (by show (if (mbX 2 (fun i => g i * rr i)).2 < g 2 * rr 2 then ((Int32.ofNat 2, g 2 * rr 2) : Int32 × Int64) else mbX 2 (fun i => g i * rr i)) = _; rw [e2]; exact if_pos (Int64.not_le.mp (fun q => h3 (lc_le.mpr q)))); rw [e3]; rfl) rfl
set_option maxRecDepth 20000 in
theorem m_sure_B_3 {vs : Nat} {wo un h : Int64} {bo : Nat → Int32} {ta tr ro ot : Nat → Int64} {Bm : Nat → Nat → Nat → Int32} {bk : Nat → Nat → Int32} {a : Nat} (ha : a < 4) {b : Nat} (hb : b < 4) {k : Nat} (hk : k < 3) (h0 : dtM (TnM 3 Bm 4 0) = 0) : ∃ (wo2 un2 h2 : Int64) (bo2 : Nat → Int32) (ta2 tr2 ro2 ot2 : Nat → Int64), KX3_sure l D ca ad [.ref 0, .int (Int32.ofNat a), .int (Int32.ofNat b), .int (Int32.ofNat k)] (MW 3 (Int32.ofNat vs) wo un h bo ta tr ro ot Bm bk) (some (.int (-104))) (MW 3 (Int32.ofNat vs) wo2 un2 h2 bo2 ta2 tr2 ro2 ot2 Bm bk) := by
  obtain ⟨tt, ett⟩ : ∃ z, z = (TnM 3 Bm 4 0) := ⟨_, rfl⟩
  obtain ⟨dt, edt⟩ : ∃ z, z = dtM tt := ⟨_, rfl⟩
  rw [← ett, ← edt] at h0
  refine ⟨dt, un, h, (boX 4 0), tt, tt, ro, ot, ?_⟩
  refine PX3_sure (Nat.le_of_ble_eq_true rfl) ?_
  intro G hT hC hR
  refine mB hT 1 rfl ?_
  refine hC.1 _ [_] _ _ _ _ (m_isBasket_t ha) rfl (Nat.le_of_ble_eq_true rfl) rfl ?_
  refine mB hT 2 rfl ?_
  refine hC.2.1 _ [_] _ _ _ _ (m_isBasket_t hb) rfl (Nat.le_of_ble_eq_true rfl) rfl ?_
  refine mB hT 2 rfl ?_
  refine hC.2.2.1 _ [_] _ _ _ _ (m_isStuff_t hk) rfl (Nat.le_of_ble_eq_true rfl) rfl ?_
  refine mB hT 2 rfl ?_
  refine hC.2.2.2.1 _ 0 [] _ _ _ _ _ (show KX3_layNow l D ca ad _ _ none (MW 3 (Int32.ofNat vs) dt un h (boX 4 0) tt tt ro ot Bm bk) from (by rw [edt, ett]; exact m_layNow (n := 3) (by decide))) rfl rfl (Nat.le_of_ble_eq_true rfl) rfl ?_
  refine mB hT 5 rfl ?_
  refine mIf (fun _ => ?_) (fun hn => absurd (lc_eq.mpr h0) hn)
  refine mB hT 1 rfl ?_
  exact hR _ (by decide) _ _ _ rfl rfl
set_option maxRecDepth 20000 in
theorem m_sure_3 {vs : Nat} {wo un h : Int64} {bo : Nat → Int32} {ta tr ro ot : Nat → Int64} {Bm : Nat → Nat → Nat → Int32} {bk : Nat → Nat → Int32} {a : Nat} (ha : a < 4) {b : Nat} (hb : b < 4) {k : Nat} (hk : k < 3) (h0 : ¬ dtM (TnM 3 Bm 4 0) = 0) : ∃ (wo2 un2 h2 : Int64) (bo2 : Nat → Int32) (ta2 tr2 ro2 ot2 : Nat → Int64), KX3_sure l D ca ad [.ref 0, .int (Int32.ofNat a), .int (Int32.ofNat b), .int (Int32.ofNat k)] (MW 3 (Int32.ofNat vs) wo un h bo ta tr ro ot Bm bk) (some (.int (if 0 < suM 3 (fun i s => emM (Bm (bkM 4 0 i) i) k s) (fun i => (rdM 3 (TnM 3 Bm 4 0) (dtM (TnM 3 Bm 4 0)) (fun j => (bk a j).toInt64)) i - (rdM 3 (TnM 3 Bm 4 0) (dtM (TnM 3 Bm 4 0)) (fun j => (bk b j).toInt64)) i) then 0 else 1))) (MW 3 (Int32.ofNat vs) wo2 un2 h2 bo2 ta2 tr2 ro2 ot2 Bm bk) := by
  obtain ⟨tt, ett⟩ : ∃ z, z = (TnM 3 Bm 4 0) := ⟨_, rfl⟩
  obtain ⟨dt, edt⟩ : ∃ z, z = dtM tt := ⟨_, rfl⟩
  rw [← ett, ← edt] at h0
  obtain ⟨rr, err⟩ : ∃ z, z = rdM 3 tt dt (fun j => (bk b j).toInt64) := ⟨_, rfl⟩
  obtain ⟨ts, ets⟩ : ∃ z, z = tsM 3 tt 3 (fun j => (bk b j).toInt64) := ⟨_, rfl⟩
  obtain ⟨ra, era⟩ : ∃ z, z = rdM 3 tt dt (fun j => (bk a j).toInt64) := ⟨_, rfl⟩
  obtain ⟨ta3, eta3⟩ : ∃ z, z = tsM 3 tt 3 (fun j => (bk a j).toInt64) := ⟨_, rfl⟩
  obtain ⟨g, eg⟩ : ∃ z : Nat → Nat → Int64, z = fun i s => emM (Bm (bkM 4 0 i) i) k s := ⟨_, rfl⟩
  rw [← ett, ← edt, ← err, ← era, ← eg]
  refine ⟨dt, (absX dt), h, (boX 4 0), tt, ta3, ra, rr, ?_⟩
  refine PX3_sure (Nat.le_of_ble_eq_true rfl) ?_
  intro G hT hC hR
  refine mB hT 1 rfl ?_
  refine hC.1 _ [_] _ _ _ _ (m_isBasket_t ha) rfl (Nat.le_of_ble_eq_true rfl) rfl ?_
  refine mB hT 2 rfl ?_
  refine hC.2.1 _ [_] _ _ _ _ (m_isBasket_t hb) rfl (Nat.le_of_ble_eq_true rfl) rfl ?_
  refine mB hT 2 rfl ?_
  refine hC.2.2.1 _ [_] _ _ _ _ (m_isStuff_t hk) rfl (Nat.le_of_ble_eq_true rfl) rfl ?_
  refine mB hT 2 rfl ?_
  refine hC.2.2.2.1 _ 0 [] _ _ _ _ _ (show KX3_layNow l D ca ad _ _ none (MW 3 (Int32.ofNat vs) dt un h (boX 4 0) tt tt ro ot Bm bk) from (by rw [edt, ett]; exact m_layNow (n := 3) (by decide))) rfl rfl (Nat.le_of_ble_eq_true rfl) rfl ?_
  refine mB hT 5 rfl ?_
  refine mIf (fun hp => absurd hp (fun q => h0 (lc_eq.mp q))) (fun _ => ?_)
  refine mB hT 2 rfl ?_
  refine hC.2.2.2.2.1 _ 0 [_] _ _ _ _ _ (show KX3_solve l D ca ad _ _ none (MW 3 (Int32.ofNat vs) dt (absX dt) h (boX 4 0) tt ts rr ot Bm bk) from (by rw [err, ets]; exact m_solve (n := 3) (by decide) hb)) rfl rfl (Nat.le_of_ble_eq_true rfl) rfl ?_
  refine mB hT 39 rfl ?_
  refine mNf (lv2 := [(4, .int 2), (0, .ref 0), (1, .int (Int32.ofNat a)), (2, .int (Int32.ofNat b)), (3, .int (Int32.ofNat k))]) (st2 := []) rfl rfl ?_
  refine mWd (w2 := (MW 3 (Int32.ofNat vs) dt (absX dt) h (boX 4 0) tt ts rr (up (up (up ot 0 (rr 0)) 1 (rr 1)) 2 (rr 2)) Bm bk)) rfl ?_
  refine mB hT 20 rfl ?_
  refine mNf (lv2 := [(4, .int 4), (0, .ref 0), (1, .int (Int32.ofNat a)), (2, .int (Int32.ofNat b)), (3, .int (Int32.ofNat k))]) (st2 := [.int (Int32.ofNat a), .ref 0]) rfl rfl ?_
  refine mWd (w2 := (MW 3 (Int32.ofNat vs) dt (absX dt) h (boX 4 0) tt ts rr (up (up (up (up ot 0 (rr 0)) 1 (rr 1)) 2 (rr 2)) 3 (rr 3)) Bm bk)) rfl ?_
  refine mWd (w2 := (MW 3 (Int32.ofNat vs) dt (absX dt) h (boX 4 0) tt ts rr rr Bm bk)) rfl ?_
  refine hC.2.2.2.2.2.1 _ 0 [_] _ _ _ _ _ (show KX3_solve l D ca ad _ _ none (MW 3 (Int32.ofNat vs) dt (absX dt) h (boX 4 0) tt ta3 ra rr Bm bk) from (by rw [era, eta3]; exact m_solve (n := 3) (by decide) ha)) rfl rfl (Nat.le_of_ble_eq_true rfl) rfl ?_
  refine mB hT 26 rfl ?_
  have J0 : ∀ t0 : Nat, t0 < 3 → t0 = (if 0 < ra 0 - rr 0 then 2 else 0) → G (129, [(7, .long ((ra 0) - (rr 0))), (6, .int 0), (4, .long 0), (0, .ref 0), (1, .int (Int32.ofNat a)), (2, .int (Int32.ofNat b)), (3, .int (Int32.ofNat k))], [.int (Int32.ofNat t0), .int (Int32.ofNat k), .int 0, .ref 0, .long 0], (MW 3 (Int32.ofNat vs) dt (absX dt) h (boX 4 0) tt ta3 ra rr Bm bk)) := by
    intro t0 ht0 et0
    refine hC.2.2.2.2.2.2 _ 0 [_, _, _] _ _ _ _ _ (show KX3_emission l D ca ad _ _ (some (.long (g 0 t0))) _ from (by rw [eg]; exact m_emi_4_0 (n := 3) k hk 0 t0 (by decide) ht0)) rfl rfl (Nat.le_of_ble_eq_true rfl) rfl ?_
    refine mB hT 28 rfl ?_
    have J1 : ∀ t1 : Nat, t1 < 3 → t1 = (if 0 < ra 1 - rr 1 then 2 else 0) → G (129, [(7, .long ((ra 1) - (rr 1))), (6, .int 1), (4, .long (0 + ((g 0 t0) * ((ra 0) - (rr 0))))), (0, .ref 0), (1, .int (Int32.ofNat a)), (2, .int (Int32.ofNat b)), (3, .int (Int32.ofNat k))], [.int (Int32.ofNat t1), .int (Int32.ofNat k), .int 1, .ref 0, .long (0 + ((g 0 t0) * ((ra 0) - (rr 0))))], (MW 3 (Int32.ofNat vs) dt (absX dt) h (boX 4 0) tt ta3 ra rr Bm bk)) := by
      intro t1 ht1 et1
      refine hC.2.2.2.2.2.2 _ 0 [_, _, _] _ _ _ _ _ (show KX3_emission l D ca ad _ _ (some (.long (g 1 t1))) _ from (by rw [eg]; exact m_emi_4_0 (n := 3) k hk 1 t1 (by decide) ht1)) rfl rfl (Nat.le_of_ble_eq_true rfl) rfl ?_
      refine mB hT 28 rfl ?_
      have J2 : ∀ t2 : Nat, t2 < 3 → t2 = (if 0 < ra 2 - rr 2 then 2 else 0) → G (129, [(7, .long ((ra 2) - (rr 2))), (6, .int 2), (4, .long ((0 + ((g 0 t0) * ((ra 0) - (rr 0)))) + ((g 1 t1) * ((ra 1) - (rr 1))))), (0, .ref 0), (1, .int (Int32.ofNat a)), (2, .int (Int32.ofNat b)), (3, .int (Int32.ofNat k))], [.int (Int32.ofNat t2), .int (Int32.ofNat k), .int 2, .ref 0, .long ((0 + ((g 0 t0) * ((ra 0) - (rr 0)))) + ((g 1 t1) * ((ra 1) - (rr 1))))], (MW 3 (Int32.ofNat vs) dt (absX dt) h (boX 4 0) tt ta3 ra rr Bm bk)) := by
        intro t2 ht2 et2
        refine hC.2.2.2.2.2.2 _ 0 [_, _, _] _ _ _ _ _ (show KX3_emission l D ca ad _ _ (some (.long (g 2 t2))) _ from (by rw [eg]; exact m_emi_4_0 (n := 3) k hk 2 t2 (by decide) ht2)) rfl rfl (Nat.le_of_ble_eq_true rfl) rfl ?_
        refine mB hT 14 rfl ?_
        refine mIf (fun h1 => ?_) (fun h1 => ?_)
        · refine mNf (lv2 := [(6, .int 3), (4, .long (((0 + ((g 0 t0) * ((ra 0) - (rr 0)))) + ((g 1 t1) * ((ra 1) - (rr 1)))) + ((g 2 t2) * ((ra 2) - (rr 2))))), (7, .long ((ra 2) - (rr 2))), (0, .ref 0), (1, .int (Int32.ofNat a)), (2, .int (Int32.ofNat b)), (3, .int (Int32.ofNat k))]) (st2 := []) rfl rfl ?_
          refine mB hT 1 rfl ?_
          exact hR _ (by decide) _ _ _ (by subst et0 et1 et2; exact congrArg (fun z => [Value.int z]) (if_pos (lc_gt.mp h1)).symm) rfl
        · refine mNf (lv2 := [(6, .int 3), (4, .long (((0 + ((g 0 t0) * ((ra 0) - (rr 0)))) + ((g 1 t1) * ((ra 1) - (rr 1)))) + ((g 2 t2) * ((ra 2) - (rr 2))))), (7, .long ((ra 2) - (rr 2))), (0, .ref 0), (1, .int (Int32.ofNat a)), (2, .int (Int32.ofNat b)), (3, .int (Int32.ofNat k))]) (st2 := []) rfl rfl ?_
          refine mB hT 2 rfl ?_
          exact hR _ (by decide) _ _ _ (by subst et0 et1 et2; exact congrArg (fun z => [Value.int z]) (if_neg (fun q => h1 (lc_gt.mpr q))).symm) rfl
      refine mIf (fun h => ?_) (fun h => ?_)
      · refine mB hT 1 rfl ?_
        exact J2 0 (by decide) (if_neg (Int64.not_lt.mpr (lc_le.mp h))).symm
      · refine mB hT 2 rfl ?_
        exact J2 2 (by decide) (if_pos (Int64.not_le.mp (fun q => h (lc_le.mpr q)))).symm
    refine mIf (fun h => ?_) (fun h => ?_)
    · refine mB hT 1 rfl ?_
      exact J1 0 (by decide) (if_neg (Int64.not_lt.mpr (lc_le.mp h))).symm
    · refine mB hT 2 rfl ?_
      exact J1 2 (by decide) (if_pos (Int64.not_le.mp (fun q => h (lc_le.mpr q)))).symm
  refine mIf (fun h => ?_) (fun h => ?_)
  · refine mB hT 1 rfl ?_
    exact J0 0 (by decide) (if_neg (Int64.not_lt.mpr (lc_le.mp h))).symm
  · refine mB hT 2 rfl ?_
    exact J0 2 (by decide) (if_pos (Int64.not_le.mp (fun q => h (lc_le.mpr q)))).symm
set_option maxRecDepth 20000 in
theorem m_turned_B_4 {vs : Nat} {wo un h : Int64} {bo : Nat → Int32} {ta tr ro ot : Nat → Int64} {Bm : Nat → Nat → Nat → Int32} {bk : Nat → Nat → Int32} {b : Nat} (hb : b < 4) (h0 : dtM (TnM 4 Bm 4 0) = 0) : ∃ (wo2 un2 h2 : Int64) (bo2 : Nat → Int32) (ta2 tr2 ro2 ot2 : Nat → Int64), KX3_turned l D ca ad [.ref 0, .int (Int32.ofNat b)] (MW 4 (Int32.ofNat vs) wo un h bo ta tr ro ot Bm bk) (some (.int (-104))) (MW 4 (Int32.ofNat vs) wo2 un2 h2 bo2 ta2 tr2 ro2 ot2 Bm bk) := by
  obtain ⟨tt, ett⟩ : ∃ z, z = (TnM 4 Bm 4 0) := ⟨_, rfl⟩
  obtain ⟨dt, edt⟩ : ∃ z, z = dtM tt := ⟨_, rfl⟩
  rw [← ett, ← edt] at h0
  refine ⟨dt, un, h, (boX 4 0), tt, tt, ro, ot, ?_⟩
  refine PX3_turned (Nat.le_of_ble_eq_true rfl) ?_
  intro G hT hC hR
  refine mB hT 1 rfl ?_
  refine hC.1 _ [_] _ _ _ _ (m_isBasket_t hb) rfl (Nat.le_of_ble_eq_true rfl) rfl ?_
  refine mB hT 2 rfl ?_
  refine hC.2.1 _ 0 [] _ _ _ _ _ (show KX3_layNow l D ca ad _ _ none (MW 4 (Int32.ofNat vs) dt un h (boX 4 0) tt tt ro ot Bm bk) from (by rw [edt, ett]; exact m_layNow (n := 4) (by decide))) rfl rfl (Nat.le_of_ble_eq_true rfl) rfl ?_
  refine mB hT 5 rfl ?_
  refine mIf (fun _ => ?_) (fun hn => absurd (lc_eq.mpr h0) hn)
  refine mB hT 1 rfl ?_
  exact hR _ (by decide) _ _ _ rfl rfl
set_option maxRecDepth 20000 in
theorem m_turned_4 {vs : Nat} {wo un h : Int64} {bo : Nat → Int32} {ta tr ro ot : Nat → Int64} {Bm : Nat → Nat → Nat → Int32} {bk : Nat → Nat → Int32} {b : Nat} (hb : b < 4) (h0 : ¬ dtM (TnM 4 Bm 4 0) = 0) : ∃ (wo2 un2 h2 : Int64) (bo2 : Nat → Int32) (ta2 tr2 ro2 ot2 : Nat → Int64), KX3_turned l D ca ad [.ref 0, .int (Int32.ofNat b)] (MW 4 (Int32.ofNat vs) wo un h bo ta tr ro ot Bm bk) (some (.int (tnF 4 0 (rdM 4 (TnM 4 Bm 4 0) (dtM (TnM 4 Bm 4 0)) (fun j => (bk b j).toInt64))))) (MW 4 (Int32.ofNat vs) wo2 un2 h2 bo2 ta2 tr2 ro2 ot2 Bm bk) := by
  obtain ⟨tt, ett⟩ : ∃ z, z = (TnM 4 Bm 4 0) := ⟨_, rfl⟩
  obtain ⟨dt, edt⟩ : ∃ z, z = dtM tt := ⟨_, rfl⟩
  rw [← ett, ← edt] at h0
  obtain ⟨rr, err⟩ : ∃ z, z = rdM 4 tt dt (fun j => (bk b j).toInt64) := ⟨_, rfl⟩
  obtain ⟨ts, ets⟩ : ∃ z, z = tsM 4 tt 3 (fun j => (bk b j).toInt64) := ⟨_, rfl⟩
  rw [← ett, ← edt, ← err]
  refine ⟨dt, (absX dt), h, (boX 4 0), tt, ts, rr, ot, ?_⟩
  refine PX3_turned (Nat.le_of_ble_eq_true rfl) ?_
  intro G hT hC hR
  refine mB hT 1 rfl ?_
  refine hC.1 _ [_] _ _ _ _ (m_isBasket_t hb) rfl (Nat.le_of_ble_eq_true rfl) rfl ?_
  refine mB hT 2 rfl ?_
  refine hC.2.1 _ 0 [] _ _ _ _ _ (show KX3_layNow l D ca ad _ _ none (MW 4 (Int32.ofNat vs) dt un h (boX 4 0) tt tt ro ot Bm bk) from (by rw [edt, ett]; exact m_layNow (n := 4) (by decide))) rfl rfl (Nat.le_of_ble_eq_true rfl) rfl ?_
  refine mB hT 5 rfl ?_
  refine mIf (fun hp => absurd hp (fun q => h0 (lc_eq.mp q))) (fun _ => ?_)
  refine mB hT 2 rfl ?_
  refine hC.2.2 _ 0 [_] _ _ _ _ _ (show KX3_solve l D ca ad _ _ none (MW 4 (Int32.ofNat vs) dt (absX dt) h (boX 4 0) tt ts rr ot Bm bk) from (by rw [err, ets]; exact m_solve (n := 4) (by decide) hb)) rfl rfl (Nat.le_of_ble_eq_true rfl) rfl ?_
  refine mB hT 13 rfl ?_
  refine mIf (fun h1 => ?_) (fun h1 => ?_)
  · refine mB hT 6 rfl ?_
    exact hR _ (by decide) _ _ _ (by simp only [tnF, if_pos (lc_lt.mp h1)]; rfl) rfl
  · refine mB hT 13 rfl ?_
    refine mIf (fun h2 => ?_) (fun h2 => ?_)
    · refine mNf (lv2 := [(2, .int 1), (0, .ref 0), (1, .int (Int32.ofNat b))]) (st2 := []) rfl rfl ?_
      refine mB hT 6 rfl ?_
      exact hR _ (by decide) _ _ _ (by simp only [tnF, if_neg (fun q => h1 (lc_lt.mpr q)), if_pos (lc_lt.mp h2)]; rfl) rfl
    · refine mNf (lv2 := [(2, .int 1), (0, .ref 0), (1, .int (Int32.ofNat b))]) (st2 := []) rfl rfl ?_
      refine mB hT 13 rfl ?_
      refine mIf (fun h3 => ?_) (fun h3 => ?_)
      · refine mB hT 6 rfl ?_
        exact hR _ (by decide) _ _ _ (by simp only [tnF, if_neg (fun q => h1 (lc_lt.mpr q)), if_neg (fun q => h2 (lc_lt.mpr q)), if_pos (lc_lt.mp h3)]; rfl) rfl
      · refine mB hT 13 rfl ?_
        refine mIf (fun h4 => ?_) (fun h4 => ?_)
        · refine mNf (lv2 := [(2, .int 3), (0, .ref 0), (1, .int (Int32.ofNat b))]) (st2 := []) rfl rfl ?_
          refine mB hT 6 rfl ?_
          exact hR _ (by decide) _ _ _ (by simp only [tnF, if_neg (fun q => h1 (lc_lt.mpr q)), if_neg (fun q => h2 (lc_lt.mpr q)), if_neg (fun q => h3 (lc_lt.mpr q)), if_pos (lc_lt.mp h4)]; rfl) rfl
        · refine mNf (lv2 := [(2, .int 3), (0, .ref 0), (1, .int (Int32.ofNat b))]) (st2 := []) rfl rfl ?_
          refine mB hT 11 rfl ?_
          exact hR _ (by decide) _ _ _ (by simp only [tnF, if_neg (fun q => h1 (lc_lt.mpr q)), if_neg (fun q => h2 (lc_lt.mpr q)), if_neg (fun q => h3 (lc_lt.mpr q)), if_neg (fun q => h4 (lc_lt.mpr q))]; rfl) rfl
set_option maxRecDepth 20000 in
theorem m_most_B_4 {vs : Nat} {wo un h : Int64} {bo : Nat → Int32} {ta tr ro ot : Nat → Int64} {Bm : Nat → Nat → Nat → Int32} {bk : Nat → Nat → Int32} {b : Nat} (hb : b < 4) {k : Nat} (hk : k < 3) (h0 : dtM (TnM 4 Bm 4 0) = 0) : ∃ (wo2 un2 h2 : Int64) (bo2 : Nat → Int32) (ta2 tr2 ro2 ot2 : Nat → Int64), KX3_most l D ca ad [.ref 0, .int (Int32.ofNat b), .int (Int32.ofNat k)] (MW 4 (Int32.ofNat vs) wo un h bo ta tr ro ot Bm bk) (some (.int (-104))) (MW 4 (Int32.ofNat vs) wo2 un2 h2 bo2 ta2 tr2 ro2 ot2 Bm bk) := by
  obtain ⟨tt, ett⟩ : ∃ z, z = (TnM 4 Bm 4 0) := ⟨_, rfl⟩
  obtain ⟨dt, edt⟩ : ∃ z, z = dtM tt := ⟨_, rfl⟩
  rw [← ett, ← edt] at h0
  refine ⟨dt, un, h, (boX 4 0), tt, tt, ro, ot, ?_⟩
  refine PX3_most (Nat.le_of_ble_eq_true rfl) ?_
  intro G hT hC hR
  refine mB hT 1 rfl ?_
  refine hC.1 _ [_] _ _ _ _ (m_isBasket_t hb) rfl (Nat.le_of_ble_eq_true rfl) rfl ?_
  refine mB hT 2 rfl ?_
  refine hC.2.1 _ [_] _ _ _ _ (m_isStuff_t hk) rfl (Nat.le_of_ble_eq_true rfl) rfl ?_
  refine mB hT 2 rfl ?_
  refine hC.2.2.1 _ 0 [] _ _ _ _ _ (show KX3_layNow l D ca ad _ _ none (MW 4 (Int32.ofNat vs) dt un h (boX 4 0) tt tt ro ot Bm bk) from (by rw [edt, ett]; exact m_layNow (n := 4) (by decide))) rfl rfl (Nat.le_of_ble_eq_true rfl) rfl ?_
  refine mB hT 5 rfl ?_
  refine mIf (fun _ => ?_) (fun hn => absurd (lc_eq.mpr h0) hn)
  refine mB hT 1 rfl ?_
  exact hR _ (by decide) _ _ _ rfl rfl
set_option maxRecDepth 20000 in
theorem m_most_4 {vs : Nat} {wo un h : Int64} {bo : Nat → Int32} {ta tr ro ot : Nat → Int64} {Bm : Nat → Nat → Nat → Int32} {bk : Nat → Nat → Int32} {b : Nat} (hb : b < 4) {k : Nat} (hk : k < 3) (h0 : ¬ dtM (TnM 4 Bm 4 0) = 0) : ∃ (wo2 un2 h2 : Int64) (bo2 : Nat → Int32) (ta2 tr2 ro2 ot2 : Nat → Int64), KX3_most l D ca ad [.ref 0, .int (Int32.ofNat b), .int (Int32.ofNat k)] (MW 4 (Int32.ofNat vs) wo un h bo ta tr ro ot Bm bk) (some (.int (mbX 4 (fun i => emM (Bm (bkM 4 0 i) i) k 1 * (rdM 4 (TnM 4 Bm 4 0) (dtM (TnM 4 Bm 4 0)) (fun j => (bk b j).toInt64)) i)).1)) (MW 4 (Int32.ofNat vs) wo2 un2 h2 bo2 ta2 tr2 ro2 ot2 Bm bk) := by
  obtain ⟨tt, ett⟩ : ∃ z, z = (TnM 4 Bm 4 0) := ⟨_, rfl⟩
  obtain ⟨dt, edt⟩ : ∃ z, z = dtM tt := ⟨_, rfl⟩
  rw [← ett, ← edt] at h0
  obtain ⟨rr, err⟩ : ∃ z, z = rdM 4 tt dt (fun j => (bk b j).toInt64) := ⟨_, rfl⟩
  obtain ⟨ts, ets⟩ : ∃ z, z = tsM 4 tt 3 (fun j => (bk b j).toInt64) := ⟨_, rfl⟩
  obtain ⟨g, eg⟩ : ∃ z : Nat → Int64, z = fun i => emM (Bm (bkM 4 0 i) i) k 1 := ⟨_, rfl⟩
  rw [← ett, ← edt, ← err]
  rw [show (fun i => emM (Bm (bkM 4 0 i) i) k 1 * rr i) = fun i => g i * rr i by rw [eg]]
  refine ⟨dt, (absX dt), h, (boX 4 0), tt, ts, rr, ot, ?_⟩
  refine PX3_most (Nat.le_of_ble_eq_true rfl) ?_
  intro G hT hC hR
  refine mB hT 1 rfl ?_
  refine hC.1 _ [_] _ _ _ _ (m_isBasket_t hb) rfl (Nat.le_of_ble_eq_true rfl) rfl ?_
  refine mB hT 2 rfl ?_
  refine hC.2.1 _ [_] _ _ _ _ (m_isStuff_t hk) rfl (Nat.le_of_ble_eq_true rfl) rfl ?_
  refine mB hT 2 rfl ?_
  refine hC.2.2.1 _ 0 [] _ _ _ _ _ (show KX3_layNow l D ca ad _ _ none (MW 4 (Int32.ofNat vs) dt un h (boX 4 0) tt tt ro ot Bm bk) from (by rw [edt, ett]; exact m_layNow (n := 4) (by decide))) rfl rfl (Nat.le_of_ble_eq_true rfl) rfl ?_
  refine mB hT 5 rfl ?_
  refine mIf (fun hp => absurd hp (fun q => h0 (lc_eq.mp q))) (fun _ => ?_)
  refine mB hT 2 rfl ?_
  refine hC.2.2.2.1 _ 0 [_] _ _ _ _ _ (show KX3_solve l D ca ad _ _ none (MW 4 (Int32.ofNat vs) dt (absX dt) h (boX 4 0) tt ts rr ot Bm bk) from (by rw [err, ets]; exact m_solve (n := 4) (by decide) hb)) rfl rfl (Nat.le_of_ble_eq_true rfl) rfl ?_
  refine mB hT 27 rfl ?_
  refine mNf (lv2 := [(4, .int 1), (3, .int 0), (0, .ref 0), (1, .int (Int32.ofNat b)), (2, .int (Int32.ofNat k))]) (st2 := [.int 1, .int (Int32.ofNat k), .int 1, .ref 0]) rfl rfl ?_
  refine hC.2.2.2.2.1 _ 0 [_, _, _] _ _ _ _ _ (show KX3_emission l D ca ad _ _ (some (.long (g 1))) _ from (by rw [eg]; exact m_emi_4_0 (n := 4) k hk 1 1 (by decide) (by decide))) rfl rfl (Nat.le_of_ble_eq_true rfl) rfl ?_
  refine mB hT 9 rfl ?_
  refine hC.2.2.2.2.2 _ 0 [_, _, _] _ _ _ _ _ (show KX3_emission l D ca ad _ _ (some (.long (g 0))) _ from (by rw [eg]; exact m_emi_4_0 (n := 4) k hk 0 1 (by decide) (by decide))) rfl rfl (Nat.le_of_ble_eq_true rfl) rfl ?_
  refine mB hT 7 rfl ?_
  refine mIf (fun h1 => ?_) (fun h1 => ?_)
  · refine mB hT 15 rfl ?_
    refine mNf (lv2 := [(4, .int 2), (3, .int 0), (0, .ref 0), (1, .int (Int32.ofNat b)), (2, .int (Int32.ofNat k))]) (st2 := [.int 1, .int (Int32.ofNat k), .int 2, .ref 0]) rfl rfl ?_
    refine hC.2.2.2.2.1 _ 0 [_, _, _] _ _ _ _ _ (show KX3_emission l D ca ad _ _ (some (.long (g 2))) _ from (by rw [eg]; exact m_emi_4_0 (n := 4) k hk 2 1 (by decide) (by decide))) rfl rfl (Nat.le_of_ble_eq_true rfl) rfl ?_
    refine mB hT 9 rfl ?_
    refine hC.2.2.2.2.2 _ 0 [_, _, _] _ _ _ _ _ (show KX3_emission l D ca ad _ _ (some (.long (g 0))) _ from (by rw [eg]; exact m_emi_4_0 (n := 4) k hk 0 1 (by decide) (by decide))) rfl rfl (Nat.le_of_ble_eq_true rfl) rfl ?_
    refine mB hT 7 rfl ?_
    refine mIf (fun h2 => ?_) (fun h2 => ?_)
    · refine mB hT 15 rfl ?_
      refine mNf (lv2 := [(4, .int 3), (3, .int 0), (0, .ref 0), (1, .int (Int32.ofNat b)), (2, .int (Int32.ofNat k))]) (st2 := [.int 1, .int (Int32.ofNat k), .int 3, .ref 0]) rfl rfl ?_
      refine hC.2.2.2.2.1 _ 0 [_, _, _] _ _ _ _ _ (show KX3_emission l D ca ad _ _ (some (.long (g 3))) _ from (by rw [eg]; exact m_emi_4_0 (n := 4) k hk 3 1 (by decide) (by decide))) rfl rfl (Nat.le_of_ble_eq_true rfl) rfl ?_
      refine mB hT 9 rfl ?_
      refine hC.2.2.2.2.2 _ 0 [_, _, _] _ _ _ _ _ (show KX3_emission l D ca ad _ _ (some (.long (g 0))) _ from (by rw [eg]; exact m_emi_4_0 (n := 4) k hk 0 1 (by decide) (by decide))) rfl rfl (Nat.le_of_ble_eq_true rfl) rfl ?_
      refine mB hT 7 rfl ?_
      refine mIf (fun h3 => ?_) (fun h3 => ?_)
      · refine mB hT 9 rfl ?_
        exact hR _ (by decide) _ _ _ (by have e1 : mbX 1 (fun i => g i * rr i) = (0, g 0 * rr 0) := rfl; have e2 : mbX 2 (fun i => g i * rr i) = (0, g 0 * rr 0) := (by show (if (mbX 1 (fun i => g i * rr i)).2 < g 1 * rr 1 then ((Int32.ofNat 1, g 1 * rr 1) : Int32 × Int64) else mbX 1 (fun i => g i * rr i)) = _; rw [e1]; exact if_neg (Int64.not_lt.mpr (lc_le.mp h1))); have e3 : mbX 3 (fun i => g i * rr i) = (0, g 0 * rr 0) := (by show (if (mbX 2 (fun i => g i * rr i)).2 < g 2 * rr 2 then ((Int32.ofNat 2, g 2 * rr 2) : Int32 × Int64) else mbX 2 (fun i => g i * rr i)) = _; rw [e2]; exact if_neg (Int64.not_lt.mpr (lc_le.mp h2))); have e4 : mbX 4 (fun i => g i * rr i) = (0, g 0 * rr 0) := (by show (if (mbX 3 (fun i => g i * rr i)).2 < g 3 * rr 3 then ((Int32.ofNat 3, g 3 * rr 3) : Int32 × Int64) else mbX 3 (fun i => g i * rr i)) = _; rw [e3]; exact if_neg (Int64.not_lt.mpr (lc_le.mp h3))); rw [e4]; rfl) rfl
      · refine mB hT 10 rfl ?_
        exact hR _ (by decide) _ _ _ (by have e1 : mbX 1 (fun i => g i * rr i) = (0, g 0 * rr 0) := rfl; have e2 : mbX 2 (fun i => g i * rr i) = (0, g 0 * rr 0) := (by show (if (mbX 1 (fun i => g i * rr i)).2 < g 1 * rr 1 then ((Int32.ofNat 1, g 1 * rr 1) : Int32 × Int64) else mbX 1 (fun i => g i * rr i)) = _; rw [e1]; exact if_neg (Int64.not_lt.mpr (lc_le.mp h1))); have e3 : mbX 3 (fun i => g i * rr i) = (0, g 0 * rr 0) := (by show (if (mbX 2 (fun i => g i * rr i)).2 < g 2 * rr 2 then ((Int32.ofNat 2, g 2 * rr 2) : Int32 × Int64) else mbX 2 (fun i => g i * rr i)) = _; rw [e2]; exact if_neg (Int64.not_lt.mpr (lc_le.mp h2))); have e4 : mbX 4 (fun i => g i * rr i) = (3, g 3 * rr 3) := (by show (if (mbX 3 (fun i => g i * rr i)).2 < g 3 * rr 3 then ((Int32.ofNat 3, g 3 * rr 3) : Int32 × Int64) else mbX 3 (fun i => g i * rr i)) = _; rw [e3]; exact if_pos (Int64.not_le.mp (fun q => h3 (lc_le.mpr q)))); rw [e4]; rfl) rfl
    · refine mB hT 16 rfl ?_
      refine mNf (lv2 := [(4, .int 3), (3, .int 2), (0, .ref 0), (1, .int (Int32.ofNat b)), (2, .int (Int32.ofNat k))]) (st2 := [.int 1, .int (Int32.ofNat k), .int 3, .ref 0]) rfl rfl ?_
      refine hC.2.2.2.2.1 _ 0 [_, _, _] _ _ _ _ _ (show KX3_emission l D ca ad _ _ (some (.long (g 3))) _ from (by rw [eg]; exact m_emi_4_0 (n := 4) k hk 3 1 (by decide) (by decide))) rfl rfl (Nat.le_of_ble_eq_true rfl) rfl ?_
      refine mB hT 9 rfl ?_
      refine hC.2.2.2.2.2 _ 0 [_, _, _] _ _ _ _ _ (show KX3_emission l D ca ad _ _ (some (.long (g 2))) _ from (by rw [eg]; exact m_emi_4_0 (n := 4) k hk 2 1 (by decide) (by decide))) rfl rfl (Nat.le_of_ble_eq_true rfl) rfl ?_
      refine mB hT 7 rfl ?_
      refine mIf (fun h4 => ?_) (fun h4 => ?_)
      · refine mB hT 9 rfl ?_
        exact hR _ (by decide) _ _ _ (by have e1 : mbX 1 (fun i => g i * rr i) = (0, g 0 * rr 0) := rfl; have e2 : mbX 2 (fun i => g i * rr i) = (0, g 0 * rr 0) := (by show (if (mbX 1 (fun i => g i * rr i)).2 < g 1 * rr 1 then ((Int32.ofNat 1, g 1 * rr 1) : Int32 × Int64) else mbX 1 (fun i => g i * rr i)) = _; rw [e1]; exact if_neg (Int64.not_lt.mpr (lc_le.mp h1))); have e3 : mbX 3 (fun i => g i * rr i) = (2, g 2 * rr 2) := (by show (if (mbX 2 (fun i => g i * rr i)).2 < g 2 * rr 2 then ((Int32.ofNat 2, g 2 * rr 2) : Int32 × Int64) else mbX 2 (fun i => g i * rr i)) = _; rw [e2]; exact if_pos (Int64.not_le.mp (fun q => h2 (lc_le.mpr q)))); have e4 : mbX 4 (fun i => g i * rr i) = (2, g 2 * rr 2) := (by show (if (mbX 3 (fun i => g i * rr i)).2 < g 3 * rr 3 then ((Int32.ofNat 3, g 3 * rr 3) : Int32 × Int64) else mbX 3 (fun i => g i * rr i)) = _; rw [e3]; exact if_neg (Int64.not_lt.mpr (lc_le.mp h4))); rw [e4]; rfl) rfl
      · refine mB hT 10 rfl ?_
        exact hR _ (by decide) _ _ _ (by have e1 : mbX 1 (fun i => g i * rr i) = (0, g 0 * rr 0) := rfl; have e2 : mbX 2 (fun i => g i * rr i) = (0, g 0 * rr 0) := (by show (if (mbX 1 (fun i => g i * rr i)).2 < g 1 * rr 1 then ((Int32.ofNat 1, g 1 * rr 1) : Int32 × Int64) else mbX 1 (fun i => g i * rr i)) = _; rw [e1]; exact if_neg (Int64.not_lt.mpr (lc_le.mp h1))); have e3 : mbX 3 (fun i => g i * rr i) = (2, g 2 * rr 2) := (by show (if (mbX 2 (fun i => g i * rr i)).2 < g 2 * rr 2 then ((Int32.ofNat 2, g 2 * rr 2) : Int32 × Int64) else mbX 2 (fun i => g i * rr i)) = _; rw [e2]; exact if_pos (Int64.not_le.mp (fun q => h2 (lc_le.mpr q)))); have e4 : mbX 4 (fun i => g i * rr i) = (3, g 3 * rr 3) := (by show (if (mbX 3 (fun i => g i * rr i)).2 < g 3 * rr 3 then ((Int32.ofNat 3, g 3 * rr 3) : Int32 × Int64) else mbX 3 (fun i => g i * rr i)) = _; rw [e3]; exact if_pos (Int64.not_le.mp (fun q => h4 (lc_le.mpr q)))); rw [e4]; rfl) rfl
  · refine mB hT 16 rfl ?_
    refine mNf (lv2 := [(4, .int 2), (3, .int 1), (0, .ref 0), (1, .int (Int32.ofNat b)), (2, .int (Int32.ofNat k))]) (st2 := [.int 1, .int (Int32.ofNat k), .int 2, .ref 0]) rfl rfl ?_
    refine hC.2.2.2.2.1 _ 0 [_, _, _] _ _ _ _ _ (show KX3_emission l D ca ad _ _ (some (.long (g 2))) _ from (by rw [eg]; exact m_emi_4_0 (n := 4) k hk 2 1 (by decide) (by decide))) rfl rfl (Nat.le_of_ble_eq_true rfl) rfl ?_
    refine mB hT 9 rfl ?_
    refine hC.2.2.2.2.2 _ 0 [_, _, _] _ _ _ _ _ (show KX3_emission l D ca ad _ _ (some (.long (g 1))) _ from (by rw [eg]; exact m_emi_4_0 (n := 4) k hk 1 1 (by decide) (by decide))) rfl rfl (Nat.le_of_ble_eq_true rfl) rfl ?_
    refine mB hT 7 rfl ?_
    refine mIf (fun h5 => ?_) (fun h5 => ?_)
    · refine mB hT 15 rfl ?_
      refine mNf (lv2 := [(4, .int 3), (3, .int 1), (0, .ref 0), (1, .int (Int32.ofNat b)), (2, .int (Int32.ofNat k))]) (st2 := [.int 1, .int (Int32.ofNat k), .int 3, .ref 0]) rfl rfl ?_
      refine hC.2.2.2.2.1 _ 0 [_, _, _] _ _ _ _ _ (show KX3_emission l D ca ad _ _ (some (.long (g 3))) _ from (by rw [eg]; exact m_emi_4_0 (n := 4) k hk 3 1 (by decide) (by decide))) rfl rfl (Nat.le_of_ble_eq_true rfl) rfl ?_
      refine mB hT 9 rfl ?_
      refine hC.2.2.2.2.2 _ 0 [_, _, _] _ _ _ _ _ (show KX3_emission l D ca ad _ _ (some (.long (g 1))) _ from (by rw [eg]; exact m_emi_4_0 (n := 4) k hk 1 1 (by decide) (by decide))) rfl rfl (Nat.le_of_ble_eq_true rfl) rfl ?_
      refine mB hT 7 rfl ?_
      refine mIf (fun h6 => ?_) (fun h6 => ?_)
      · refine mB hT 9 rfl ?_
        exact hR _ (by decide) _ _ _ (by have e1 : mbX 1 (fun i => g i * rr i) = (0, g 0 * rr 0) := rfl; have e2 : mbX 2 (fun i => g i * rr i) = (1, g 1 * rr 1) := (by show (if (mbX 1 (fun i => g i * rr i)).2 < g 1 * rr 1 then ((Int32.ofNat 1, g 1 * rr 1) : Int32 × Int64) else mbX 1 (fun i => g i * rr i)) = _; rw [e1]; exact if_pos (Int64.not_le.mp (fun q => h1 (lc_le.mpr q)))); have e3 : mbX 3 (fun i => g i * rr i) = (1, g 1 * rr 1) := (by show (if (mbX 2 (fun i => g i * rr i)).2 < g 2 * rr 2 then ((Int32.ofNat 2, g 2 * rr 2) : Int32 × Int64) else mbX 2 (fun i => g i * rr i)) = _; rw [e2]; exact if_neg (Int64.not_lt.mpr (lc_le.mp h5))); have e4 : mbX 4 (fun i => g i * rr i) = (1, g 1 * rr 1) := (by show (if (mbX 3 (fun i => g i * rr i)).2 < g 3 * rr 3 then ((Int32.ofNat 3, g 3 * rr 3) : Int32 × Int64) else mbX 3 (fun i => g i * rr i)) = _; rw [e3]; exact if_neg (Int64.not_lt.mpr (lc_le.mp h6))); rw [e4]; rfl) rfl
      · refine mB hT 10 rfl ?_
        exact hR _ (by decide) _ _ _ (by have e1 : mbX 1 (fun i => g i * rr i) = (0, g 0 * rr 0) := rfl; have e2 : mbX 2 (fun i => g i * rr i) = (1, g 1 * rr 1) := (by show (if (mbX 1 (fun i => g i * rr i)).2 < g 1 * rr 1 then ((Int32.ofNat 1, g 1 * rr 1) : Int32 × Int64) else mbX 1 (fun i => g i * rr i)) = _; rw [e1]; exact if_pos (Int64.not_le.mp (fun q => h1 (lc_le.mpr q)))); have e3 : mbX 3 (fun i => g i * rr i) = (1, g 1 * rr 1) := (by show (if (mbX 2 (fun i => g i * rr i)).2 < g 2 * rr 2 then ((Int32.ofNat 2, g 2 * rr 2) : Int32 × Int64) else mbX 2 (fun i => g i * rr i)) = _; rw [e2]; exact if_neg (Int64.not_lt.mpr (lc_le.mp h5))); have e4 : mbX 4 (fun i => g i * rr i) = (3, g 3 * rr 3) := (by show (if (mbX 3 (fun i => g i * rr i)).2 < g 3 * rr 3 then ((Int32.ofNat 3, g 3 * rr 3) : Int32 × Int64) else mbX 3 (fun i => g i * rr i)) = _; rw [e3]; exact if_pos (Int64.not_le.mp (fun q => h6 (lc_le.mpr q)))); rw [e4]; rfl) rfl
    · refine mB hT 16 rfl ?_
      refine mNf (lv2 := [(4, .int 3), (3, .int 2), (0, .ref 0), (1, .int (Int32.ofNat b)), (2, .int (Int32.ofNat k))]) (st2 := [.int 1, .int (Int32.ofNat k), .int 3, .ref 0]) rfl rfl ?_
      refine hC.2.2.2.2.1 _ 0 [_, _, _] _ _ _ _ _ (show KX3_emission l D ca ad _ _ (some (.long (g 3))) _ from (by rw [eg]; exact m_emi_4_0 (n := 4) k hk 3 1 (by decide) (by decide))) rfl rfl (Nat.le_of_ble_eq_true rfl) rfl ?_
      refine mB hT 9 rfl ?_
      refine hC.2.2.2.2.2 _ 0 [_, _, _] _ _ _ _ _ (show KX3_emission l D ca ad _ _ (some (.long (g 2))) _ from (by rw [eg]; exact m_emi_4_0 (n := 4) k hk 2 1 (by decide) (by decide))) rfl rfl (Nat.le_of_ble_eq_true rfl) rfl ?_
      refine mB hT 7 rfl ?_
      refine mIf (fun h7 => ?_) (fun h7 => ?_)
      · refine mB hT 9 rfl ?_
        exact hR _ (by decide) _ _ _ (by have e1 : mbX 1 (fun i => g i * rr i) = (0, g 0 * rr 0) := rfl; have e2 : mbX 2 (fun i => g i * rr i) = (1, g 1 * rr 1) := (by show (if (mbX 1 (fun i => g i * rr i)).2 < g 1 * rr 1 then ((Int32.ofNat 1, g 1 * rr 1) : Int32 × Int64) else mbX 1 (fun i => g i * rr i)) = _; rw [e1]; exact if_pos (Int64.not_le.mp (fun q => h1 (lc_le.mpr q)))); have e3 : mbX 3 (fun i => g i * rr i) = (2, g 2 * rr 2) := (by show (if (mbX 2 (fun i => g i * rr i)).2 < g 2 * rr 2 then ((Int32.ofNat 2, g 2 * rr 2) : Int32 × Int64) else mbX 2 (fun i => g i * rr i)) = _; rw [e2]; exact if_pos (Int64.not_le.mp (fun q => h5 (lc_le.mpr q)))); have e4 : mbX 4 (fun i => g i * rr i) = (2, g 2 * rr 2) := (by show (if (mbX 3 (fun i => g i * rr i)).2 < g 3 * rr 3 then ((Int32.ofNat 3, g 3 * rr 3) : Int32 × Int64) else mbX 3 (fun i => g i * rr i)) = _; rw [e3]; exact if_neg (Int64.not_lt.mpr (lc_le.mp h7))); rw [e4]; rfl) rfl
      · refine mB hT 10 rfl ?_
        exact hR _ (by decide) _ _ _ (by have e1 : mbX 1 (fun i => g i * rr i) = (0, g 0 * rr 0) := rfl; have e2 : mbX 2 (fun i => g i * rr i) = (1, g 1 * rr 1) := (by show (if (mbX 1 (fun i => g i * rr i)).2 < g 1 * rr 1 then ((Int32.ofNat 1, g 1 * rr 1) : Int32 × Int64) else mbX 1 (fun i => g i * rr i)) = _; rw [e1]; exact if_pos (Int64.not_le.mp (fun q => h1 (lc_le.mpr q)))); have e3 : mbX 3 (fun i => g i * rr i) = (2, g 2 * rr 2) := (by show (if (mbX 2 (fun i => g i * rr i)).2 < g 2 * rr 2 then ((Int32.ofNat 2, g 2 * rr 2) : Int32 × Int64) else mbX 2 (fun i => g i * rr i)) = _; rw [e2]; exact if_pos (Int64.not_le.mp (fun q => h5 (lc_le.mpr q)))); have e4 : mbX 4 (fun i => g i * rr i) = (3, g 3 * rr 3) := (by show (if (mbX 3 (fun i => g i * rr i)).2 < g 3 * rr 3 then ((Int32.ofNat 3, g 3 * rr 3) : Int32 × Int64) else mbX 3 (fun i => g i * rr i)) = _; rw [e3]; exact if_pos (Int64.not_le.mp (fun q => h7 (lc_le.mpr q)))); rw [e4]; rfl) rfl
set_option maxRecDepth 20000 in
theorem m_sure_B_4 {vs : Nat} {wo un h : Int64} {bo : Nat → Int32} {ta tr ro ot : Nat → Int64} {Bm : Nat → Nat → Nat → Int32} {bk : Nat → Nat → Int32} {a : Nat} (ha : a < 4) {b : Nat} (hb : b < 4) {k : Nat} (hk : k < 3) (h0 : dtM (TnM 4 Bm 4 0) = 0) : ∃ (wo2 un2 h2 : Int64) (bo2 : Nat → Int32) (ta2 tr2 ro2 ot2 : Nat → Int64), KX3_sure l D ca ad [.ref 0, .int (Int32.ofNat a), .int (Int32.ofNat b), .int (Int32.ofNat k)] (MW 4 (Int32.ofNat vs) wo un h bo ta tr ro ot Bm bk) (some (.int (-104))) (MW 4 (Int32.ofNat vs) wo2 un2 h2 bo2 ta2 tr2 ro2 ot2 Bm bk) := by
  obtain ⟨tt, ett⟩ : ∃ z, z = (TnM 4 Bm 4 0) := ⟨_, rfl⟩
  obtain ⟨dt, edt⟩ : ∃ z, z = dtM tt := ⟨_, rfl⟩
  rw [← ett, ← edt] at h0
  refine ⟨dt, un, h, (boX 4 0), tt, tt, ro, ot, ?_⟩
  refine PX3_sure (Nat.le_of_ble_eq_true rfl) ?_
  intro G hT hC hR
  refine mB hT 1 rfl ?_
  refine hC.1 _ [_] _ _ _ _ (m_isBasket_t ha) rfl (Nat.le_of_ble_eq_true rfl) rfl ?_
  refine mB hT 2 rfl ?_
  refine hC.2.1 _ [_] _ _ _ _ (m_isBasket_t hb) rfl (Nat.le_of_ble_eq_true rfl) rfl ?_
  refine mB hT 2 rfl ?_
  refine hC.2.2.1 _ [_] _ _ _ _ (m_isStuff_t hk) rfl (Nat.le_of_ble_eq_true rfl) rfl ?_
  refine mB hT 2 rfl ?_
  refine hC.2.2.2.1 _ 0 [] _ _ _ _ _ (show KX3_layNow l D ca ad _ _ none (MW 4 (Int32.ofNat vs) dt un h (boX 4 0) tt tt ro ot Bm bk) from (by rw [edt, ett]; exact m_layNow (n := 4) (by decide))) rfl rfl (Nat.le_of_ble_eq_true rfl) rfl ?_
  refine mB hT 5 rfl ?_
  refine mIf (fun _ => ?_) (fun hn => absurd (lc_eq.mpr h0) hn)
  refine mB hT 1 rfl ?_
  exact hR _ (by decide) _ _ _ rfl rfl
set_option maxRecDepth 20000 in
theorem m_sure_4 {vs : Nat} {wo un h : Int64} {bo : Nat → Int32} {ta tr ro ot : Nat → Int64} {Bm : Nat → Nat → Nat → Int32} {bk : Nat → Nat → Int32} {a : Nat} (ha : a < 4) {b : Nat} (hb : b < 4) {k : Nat} (hk : k < 3) (h0 : ¬ dtM (TnM 4 Bm 4 0) = 0) : ∃ (wo2 un2 h2 : Int64) (bo2 : Nat → Int32) (ta2 tr2 ro2 ot2 : Nat → Int64), KX3_sure l D ca ad [.ref 0, .int (Int32.ofNat a), .int (Int32.ofNat b), .int (Int32.ofNat k)] (MW 4 (Int32.ofNat vs) wo un h bo ta tr ro ot Bm bk) (some (.int (if 0 < suM 4 (fun i s => emM (Bm (bkM 4 0 i) i) k s) (fun i => (rdM 4 (TnM 4 Bm 4 0) (dtM (TnM 4 Bm 4 0)) (fun j => (bk a j).toInt64)) i - (rdM 4 (TnM 4 Bm 4 0) (dtM (TnM 4 Bm 4 0)) (fun j => (bk b j).toInt64)) i) then 0 else 1))) (MW 4 (Int32.ofNat vs) wo2 un2 h2 bo2 ta2 tr2 ro2 ot2 Bm bk) := by
  obtain ⟨tt, ett⟩ : ∃ z, z = (TnM 4 Bm 4 0) := ⟨_, rfl⟩
  obtain ⟨dt, edt⟩ : ∃ z, z = dtM tt := ⟨_, rfl⟩
  rw [← ett, ← edt] at h0
  obtain ⟨rr, err⟩ : ∃ z, z = rdM 4 tt dt (fun j => (bk b j).toInt64) := ⟨_, rfl⟩
  obtain ⟨ts, ets⟩ : ∃ z, z = tsM 4 tt 3 (fun j => (bk b j).toInt64) := ⟨_, rfl⟩
  obtain ⟨ra, era⟩ : ∃ z, z = rdM 4 tt dt (fun j => (bk a j).toInt64) := ⟨_, rfl⟩
  obtain ⟨ta3, eta3⟩ : ∃ z, z = tsM 4 tt 3 (fun j => (bk a j).toInt64) := ⟨_, rfl⟩
  obtain ⟨g, eg⟩ : ∃ z : Nat → Nat → Int64, z = fun i s => emM (Bm (bkM 4 0 i) i) k s := ⟨_, rfl⟩
  rw [← ett, ← edt, ← err, ← era, ← eg]
  refine ⟨dt, (absX dt), h, (boX 4 0), tt, ta3, ra, rr, ?_⟩
  refine PX3_sure (Nat.le_of_ble_eq_true rfl) ?_
  intro G hT hC hR
  refine mB hT 1 rfl ?_
  refine hC.1 _ [_] _ _ _ _ (m_isBasket_t ha) rfl (Nat.le_of_ble_eq_true rfl) rfl ?_
  refine mB hT 2 rfl ?_
  refine hC.2.1 _ [_] _ _ _ _ (m_isBasket_t hb) rfl (Nat.le_of_ble_eq_true rfl) rfl ?_
  refine mB hT 2 rfl ?_
  refine hC.2.2.1 _ [_] _ _ _ _ (m_isStuff_t hk) rfl (Nat.le_of_ble_eq_true rfl) rfl ?_
  refine mB hT 2 rfl ?_
  refine hC.2.2.2.1 _ 0 [] _ _ _ _ _ (show KX3_layNow l D ca ad _ _ none (MW 4 (Int32.ofNat vs) dt un h (boX 4 0) tt tt ro ot Bm bk) from (by rw [edt, ett]; exact m_layNow (n := 4) (by decide))) rfl rfl (Nat.le_of_ble_eq_true rfl) rfl ?_
  refine mB hT 5 rfl ?_
  refine mIf (fun hp => absurd hp (fun q => h0 (lc_eq.mp q))) (fun _ => ?_)
  refine mB hT 2 rfl ?_
  refine hC.2.2.2.2.1 _ 0 [_] _ _ _ _ _ (show KX3_solve l D ca ad _ _ none (MW 4 (Int32.ofNat vs) dt (absX dt) h (boX 4 0) tt ts rr ot Bm bk) from (by rw [err, ets]; exact m_solve (n := 4) (by decide) hb)) rfl rfl (Nat.le_of_ble_eq_true rfl) rfl ?_
  refine mB hT 39 rfl ?_
  refine mNf (lv2 := [(4, .int 2), (0, .ref 0), (1, .int (Int32.ofNat a)), (2, .int (Int32.ofNat b)), (3, .int (Int32.ofNat k))]) (st2 := []) rfl rfl ?_
  refine mWd (w2 := (MW 4 (Int32.ofNat vs) dt (absX dt) h (boX 4 0) tt ts rr (up (up (up ot 0 (rr 0)) 1 (rr 1)) 2 (rr 2)) Bm bk)) rfl ?_
  refine mB hT 20 rfl ?_
  refine mNf (lv2 := [(4, .int 4), (0, .ref 0), (1, .int (Int32.ofNat a)), (2, .int (Int32.ofNat b)), (3, .int (Int32.ofNat k))]) (st2 := [.int (Int32.ofNat a), .ref 0]) rfl rfl ?_
  refine mWd (w2 := (MW 4 (Int32.ofNat vs) dt (absX dt) h (boX 4 0) tt ts rr (up (up (up (up ot 0 (rr 0)) 1 (rr 1)) 2 (rr 2)) 3 (rr 3)) Bm bk)) rfl ?_
  refine mWd (w2 := (MW 4 (Int32.ofNat vs) dt (absX dt) h (boX 4 0) tt ts rr rr Bm bk)) rfl ?_
  refine hC.2.2.2.2.2.1 _ 0 [_] _ _ _ _ _ (show KX3_solve l D ca ad _ _ none (MW 4 (Int32.ofNat vs) dt (absX dt) h (boX 4 0) tt ta3 ra rr Bm bk) from (by rw [era, eta3]; exact m_solve (n := 4) (by decide) ha)) rfl rfl (Nat.le_of_ble_eq_true rfl) rfl ?_
  refine mB hT 26 rfl ?_
  have J0 : ∀ t0 : Nat, t0 < 3 → t0 = (if 0 < ra 0 - rr 0 then 2 else 0) → G (129, [(7, .long ((ra 0) - (rr 0))), (6, .int 0), (4, .long 0), (0, .ref 0), (1, .int (Int32.ofNat a)), (2, .int (Int32.ofNat b)), (3, .int (Int32.ofNat k))], [.int (Int32.ofNat t0), .int (Int32.ofNat k), .int 0, .ref 0, .long 0], (MW 4 (Int32.ofNat vs) dt (absX dt) h (boX 4 0) tt ta3 ra rr Bm bk)) := by
    intro t0 ht0 et0
    refine hC.2.2.2.2.2.2 _ 0 [_, _, _] _ _ _ _ _ (show KX3_emission l D ca ad _ _ (some (.long (g 0 t0))) _ from (by rw [eg]; exact m_emi_4_0 (n := 4) k hk 0 t0 (by decide) ht0)) rfl rfl (Nat.le_of_ble_eq_true rfl) rfl ?_
    refine mB hT 28 rfl ?_
    have J1 : ∀ t1 : Nat, t1 < 3 → t1 = (if 0 < ra 1 - rr 1 then 2 else 0) → G (129, [(7, .long ((ra 1) - (rr 1))), (6, .int 1), (4, .long (0 + ((g 0 t0) * ((ra 0) - (rr 0))))), (0, .ref 0), (1, .int (Int32.ofNat a)), (2, .int (Int32.ofNat b)), (3, .int (Int32.ofNat k))], [.int (Int32.ofNat t1), .int (Int32.ofNat k), .int 1, .ref 0, .long (0 + ((g 0 t0) * ((ra 0) - (rr 0))))], (MW 4 (Int32.ofNat vs) dt (absX dt) h (boX 4 0) tt ta3 ra rr Bm bk)) := by
      intro t1 ht1 et1
      refine hC.2.2.2.2.2.2 _ 0 [_, _, _] _ _ _ _ _ (show KX3_emission l D ca ad _ _ (some (.long (g 1 t1))) _ from (by rw [eg]; exact m_emi_4_0 (n := 4) k hk 1 t1 (by decide) ht1)) rfl rfl (Nat.le_of_ble_eq_true rfl) rfl ?_
      refine mB hT 28 rfl ?_
      have J2 : ∀ t2 : Nat, t2 < 3 → t2 = (if 0 < ra 2 - rr 2 then 2 else 0) → G (129, [(7, .long ((ra 2) - (rr 2))), (6, .int 2), (4, .long ((0 + ((g 0 t0) * ((ra 0) - (rr 0)))) + ((g 1 t1) * ((ra 1) - (rr 1))))), (0, .ref 0), (1, .int (Int32.ofNat a)), (2, .int (Int32.ofNat b)), (3, .int (Int32.ofNat k))], [.int (Int32.ofNat t2), .int (Int32.ofNat k), .int 2, .ref 0, .long ((0 + ((g 0 t0) * ((ra 0) - (rr 0)))) + ((g 1 t1) * ((ra 1) - (rr 1))))], (MW 4 (Int32.ofNat vs) dt (absX dt) h (boX 4 0) tt ta3 ra rr Bm bk)) := by
        intro t2 ht2 et2
        refine hC.2.2.2.2.2.2 _ 0 [_, _, _] _ _ _ _ _ (show KX3_emission l D ca ad _ _ (some (.long (g 2 t2))) _ from (by rw [eg]; exact m_emi_4_0 (n := 4) k hk 2 t2 (by decide) ht2)) rfl rfl (Nat.le_of_ble_eq_true rfl) rfl ?_
        refine mB hT 28 rfl ?_
        have J3 : ∀ t3 : Nat, t3 < 3 → t3 = (if 0 < ra 3 - rr 3 then 2 else 0) → G (129, [(7, .long ((ra 3) - (rr 3))), (6, .int 3), (4, .long (((0 + ((g 0 t0) * ((ra 0) - (rr 0)))) + ((g 1 t1) * ((ra 1) - (rr 1)))) + ((g 2 t2) * ((ra 2) - (rr 2))))), (0, .ref 0), (1, .int (Int32.ofNat a)), (2, .int (Int32.ofNat b)), (3, .int (Int32.ofNat k))], [.int (Int32.ofNat t3), .int (Int32.ofNat k), .int 3, .ref 0, .long (((0 + ((g 0 t0) * ((ra 0) - (rr 0)))) + ((g 1 t1) * ((ra 1) - (rr 1)))) + ((g 2 t2) * ((ra 2) - (rr 2))))], (MW 4 (Int32.ofNat vs) dt (absX dt) h (boX 4 0) tt ta3 ra rr Bm bk)) := by
          intro t3 ht3 et3
          refine hC.2.2.2.2.2.2 _ 0 [_, _, _] _ _ _ _ _ (show KX3_emission l D ca ad _ _ (some (.long (g 3 t3))) _ from (by rw [eg]; exact m_emi_4_0 (n := 4) k hk 3 t3 (by decide) ht3)) rfl rfl (Nat.le_of_ble_eq_true rfl) rfl ?_
          refine mB hT 14 rfl ?_
          refine mIf (fun h1 => ?_) (fun h1 => ?_)
          · refine mNf (lv2 := [(6, .int 4), (4, .long ((((0 + ((g 0 t0) * ((ra 0) - (rr 0)))) + ((g 1 t1) * ((ra 1) - (rr 1)))) + ((g 2 t2) * ((ra 2) - (rr 2)))) + ((g 3 t3) * ((ra 3) - (rr 3))))), (7, .long ((ra 3) - (rr 3))), (0, .ref 0), (1, .int (Int32.ofNat a)), (2, .int (Int32.ofNat b)), (3, .int (Int32.ofNat k))]) (st2 := []) rfl rfl ?_
            refine mB hT 1 rfl ?_
            exact hR _ (by decide) _ _ _ (by subst et0 et1 et2 et3; exact congrArg (fun z => [Value.int z]) (if_pos (lc_gt.mp h1)).symm) rfl
          · refine mNf (lv2 := [(6, .int 4), (4, .long ((((0 + ((g 0 t0) * ((ra 0) - (rr 0)))) + ((g 1 t1) * ((ra 1) - (rr 1)))) + ((g 2 t2) * ((ra 2) - (rr 2)))) + ((g 3 t3) * ((ra 3) - (rr 3))))), (7, .long ((ra 3) - (rr 3))), (0, .ref 0), (1, .int (Int32.ofNat a)), (2, .int (Int32.ofNat b)), (3, .int (Int32.ofNat k))]) (st2 := []) rfl rfl ?_
            refine mB hT 2 rfl ?_
            exact hR _ (by decide) _ _ _ (by subst et0 et1 et2 et3; exact congrArg (fun z => [Value.int z]) (if_neg (fun q => h1 (lc_gt.mpr q))).symm) rfl
        refine mIf (fun h => ?_) (fun h => ?_)
        · refine mB hT 1 rfl ?_
          exact J3 0 (by decide) (if_neg (Int64.not_lt.mpr (lc_le.mp h))).symm
        · refine mB hT 2 rfl ?_
          exact J3 2 (by decide) (if_pos (Int64.not_le.mp (fun q => h (lc_le.mpr q)))).symm
      refine mIf (fun h => ?_) (fun h => ?_)
      · refine mB hT 1 rfl ?_
        exact J2 0 (by decide) (if_neg (Int64.not_lt.mpr (lc_le.mp h))).symm
      · refine mB hT 2 rfl ?_
        exact J2 2 (by decide) (if_pos (Int64.not_le.mp (fun q => h (lc_le.mpr q)))).symm
    refine mIf (fun h => ?_) (fun h => ?_)
    · refine mB hT 1 rfl ?_
      exact J1 0 (by decide) (if_neg (Int64.not_lt.mpr (lc_le.mp h))).symm
    · refine mB hT 2 rfl ?_
      exact J1 2 (by decide) (if_pos (Int64.not_le.mp (fun q => h (lc_le.mpr q)))).symm
  refine mIf (fun h => ?_) (fun h => ?_)
  · refine mB hT 1 rfl ?_
    exact J0 0 (by decide) (if_neg (Int64.not_lt.mpr (lc_le.mp h))).symm
  · refine mB hT 2 rfl ?_
    exact J0 2 (by decide) (if_pos (Int64.not_le.mp (fun q => h (lc_le.mpr q)))).symm
theorem m_turned {n vs : Nat} {wo un h : Int64} {bo : Nat → Int32} {ta tr ro ot : Nat → Int64} {Bm : Nat → Nat → Nat → Int32} {bk : Nat → Nat → Int32} (hn : n ≤ 4) {b : Nat} (hb : b < 4) (h0 : ¬ dtM (TnM n Bm 4 0) = 0) : ∃ (wo2 un2 h2 : Int64) (bo2 : Nat → Int32) (ta2 tr2 ro2 ot2 : Nat → Int64), KX3_turned l D ca ad [.ref 0, .int (Int32.ofNat b)] (MW (Int32.ofNat n) (Int32.ofNat vs) wo un h bo ta tr ro ot Bm bk) (some (.int (tnF n 0 (rdM n (TnM n Bm 4 0) (dtM (TnM n Bm 4 0)) (fun j => (bk b j).toInt64))))) (MW (Int32.ofNat n) (Int32.ofNat vs) wo2 un2 h2 bo2 ta2 tr2 ro2 ot2 Bm bk) := by
  rcases (show n = 0 ∨ n = 1 ∨ n = 2 ∨ n = 3 ∨ n = 4 by omega) with e | e | e | e | e
  · subst e; exact m_turned_0 hb h0
  · subst e; exact m_turned_1 hb h0
  · subst e; exact m_turned_2 hb h0
  · subst e; exact m_turned_3 hb h0
  · subst e; exact m_turned_4 hb h0
theorem m_turned_B {n vs : Nat} {wo un h : Int64} {bo : Nat → Int32} {ta tr ro ot : Nat → Int64} {Bm : Nat → Nat → Nat → Int32} {bk : Nat → Nat → Int32} (hn : n ≤ 4) {b : Nat} (hb : b < 4) (h0 : dtM (TnM n Bm 4 0) = 0) : ∃ (wo2 un2 h2 : Int64) (bo2 : Nat → Int32) (ta2 tr2 ro2 ot2 : Nat → Int64), KX3_turned l D ca ad [.ref 0, .int (Int32.ofNat b)] (MW (Int32.ofNat n) (Int32.ofNat vs) wo un h bo ta tr ro ot Bm bk) (some (.int (-104))) (MW (Int32.ofNat n) (Int32.ofNat vs) wo2 un2 h2 bo2 ta2 tr2 ro2 ot2 Bm bk) := by
  rcases (show n = 0 ∨ n = 1 ∨ n = 2 ∨ n = 3 ∨ n = 4 by omega) with e | e | e | e | e
  · subst e; exact m_turned_B_0 hb h0
  · subst e; exact m_turned_B_1 hb h0
  · subst e; exact m_turned_B_2 hb h0
  · subst e; exact m_turned_B_3 hb h0
  · subst e; exact m_turned_B_4 hb h0
theorem m_most {n vs : Nat} {wo un h : Int64} {bo : Nat → Int32} {ta tr ro ot : Nat → Int64} {Bm : Nat → Nat → Nat → Int32} {bk : Nat → Nat → Int32} (hn : n ≤ 4) {b : Nat} (hb : b < 4) {k : Nat} (hk : k < 3) (h0 : ¬ dtM (TnM n Bm 4 0) = 0) : ∃ (wo2 un2 h2 : Int64) (bo2 : Nat → Int32) (ta2 tr2 ro2 ot2 : Nat → Int64), KX3_most l D ca ad [.ref 0, .int (Int32.ofNat b), .int (Int32.ofNat k)] (MW (Int32.ofNat n) (Int32.ofNat vs) wo un h bo ta tr ro ot Bm bk) (some (.int (mbX n (fun i => emM (Bm (bkM 4 0 i) i) k 1 * (rdM n (TnM n Bm 4 0) (dtM (TnM n Bm 4 0)) (fun j => (bk b j).toInt64)) i)).1)) (MW (Int32.ofNat n) (Int32.ofNat vs) wo2 un2 h2 bo2 ta2 tr2 ro2 ot2 Bm bk) := by
  rcases (show n = 0 ∨ n = 1 ∨ n = 2 ∨ n = 3 ∨ n = 4 by omega) with e | e | e | e | e
  · subst e; exact m_most_0 hb hk h0
  · subst e; exact m_most_1 hb hk h0
  · subst e; exact m_most_2 hb hk h0
  · subst e; exact m_most_3 hb hk h0
  · subst e; exact m_most_4 hb hk h0
theorem m_most_B {n vs : Nat} {wo un h : Int64} {bo : Nat → Int32} {ta tr ro ot : Nat → Int64} {Bm : Nat → Nat → Nat → Int32} {bk : Nat → Nat → Int32} (hn : n ≤ 4) {b : Nat} (hb : b < 4) {k : Nat} (hk : k < 3) (h0 : dtM (TnM n Bm 4 0) = 0) : ∃ (wo2 un2 h2 : Int64) (bo2 : Nat → Int32) (ta2 tr2 ro2 ot2 : Nat → Int64), KX3_most l D ca ad [.ref 0, .int (Int32.ofNat b), .int (Int32.ofNat k)] (MW (Int32.ofNat n) (Int32.ofNat vs) wo un h bo ta tr ro ot Bm bk) (some (.int (-104))) (MW (Int32.ofNat n) (Int32.ofNat vs) wo2 un2 h2 bo2 ta2 tr2 ro2 ot2 Bm bk) := by
  rcases (show n = 0 ∨ n = 1 ∨ n = 2 ∨ n = 3 ∨ n = 4 by omega) with e | e | e | e | e
  · subst e; exact m_most_B_0 hb hk h0
  · subst e; exact m_most_B_1 hb hk h0
  · subst e; exact m_most_B_2 hb hk h0
  · subst e; exact m_most_B_3 hb hk h0
  · subst e; exact m_most_B_4 hb hk h0
theorem m_sure {n vs : Nat} {wo un h : Int64} {bo : Nat → Int32} {ta tr ro ot : Nat → Int64} {Bm : Nat → Nat → Nat → Int32} {bk : Nat → Nat → Int32} (hn : n ≤ 4) {a : Nat} (ha : a < 4) {b : Nat} (hb : b < 4) {k : Nat} (hk : k < 3) (h0 : ¬ dtM (TnM n Bm 4 0) = 0) : ∃ (wo2 un2 h2 : Int64) (bo2 : Nat → Int32) (ta2 tr2 ro2 ot2 : Nat → Int64), KX3_sure l D ca ad [.ref 0, .int (Int32.ofNat a), .int (Int32.ofNat b), .int (Int32.ofNat k)] (MW (Int32.ofNat n) (Int32.ofNat vs) wo un h bo ta tr ro ot Bm bk) (some (.int (if 0 < suM n (fun i s => emM (Bm (bkM 4 0 i) i) k s) (fun i => (rdM n (TnM n Bm 4 0) (dtM (TnM n Bm 4 0)) (fun j => (bk a j).toInt64)) i - (rdM n (TnM n Bm 4 0) (dtM (TnM n Bm 4 0)) (fun j => (bk b j).toInt64)) i) then 0 else 1))) (MW (Int32.ofNat n) (Int32.ofNat vs) wo2 un2 h2 bo2 ta2 tr2 ro2 ot2 Bm bk) := by
  rcases (show n = 0 ∨ n = 1 ∨ n = 2 ∨ n = 3 ∨ n = 4 by omega) with e | e | e | e | e
  · subst e; exact m_sure_0 ha hb hk h0
  · subst e; exact m_sure_1 ha hb hk h0
  · subst e; exact m_sure_2 ha hb hk h0
  · subst e; exact m_sure_3 ha hb hk h0
  · subst e; exact m_sure_4 ha hb hk h0
theorem m_sure_B {n vs : Nat} {wo un h : Int64} {bo : Nat → Int32} {ta tr ro ot : Nat → Int64} {Bm : Nat → Nat → Nat → Int32} {bk : Nat → Nat → Int32} (hn : n ≤ 4) {a : Nat} (ha : a < 4) {b : Nat} (hb : b < 4) {k : Nat} (hk : k < 3) (h0 : dtM (TnM n Bm 4 0) = 0) : ∃ (wo2 un2 h2 : Int64) (bo2 : Nat → Int32) (ta2 tr2 ro2 ot2 : Nat → Int64), KX3_sure l D ca ad [.ref 0, .int (Int32.ofNat a), .int (Int32.ofNat b), .int (Int32.ofNat k)] (MW (Int32.ofNat n) (Int32.ofNat vs) wo un h bo ta tr ro ot Bm bk) (some (.int (-104))) (MW (Int32.ofNat n) (Int32.ofNat vs) wo2 un2 h2 bo2 ta2 tr2 ro2 ot2 Bm bk) := by
  rcases (show n = 0 ∨ n = 1 ∨ n = 2 ∨ n = 3 ∨ n = 4 by omega) with e | e | e | e | e
  · subst e; exact m_sure_B_0 ha hb hk h0
  · subst e; exact m_sure_B_1 ha hb hk h0
  · subst e; exact m_sure_B_2 ha hb hk h0
  · subst e; exact m_sure_B_3 ha hb hk h0
  · subst e; exact m_sure_B_4 ha hb hk h0
end
