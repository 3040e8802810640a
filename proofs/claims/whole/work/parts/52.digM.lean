section
variable {l : Launch} {D : va_G} {ca : Nat → ClassId} {ad : Nat → Nat}

set_option maxRecDepth 20000 in
theorem m_mix {n vs : Int32} {wo un h : Int64} {bo : Nat → Int32} {ta tr ro ot : Nat → Int64} {Bm : Nat → Nat → Nat → Int32} {bk : Nat → Nat → Int32} (v : Int64) : KX3_mix l D ca ad [.ref 0, .long v] (MW n vs wo un h bo ta tr ro ot Bm bk) none (MW n vs wo un (31 * h + v) bo ta tr ro ot Bm bk) := by
  refine PX3_mix (Nat.le_of_ble_eq_true rfl) ?_
  intro G hT hC hR
  refine mB hT 8 rfl ?_
  exact hR _ (by decide) _ _ _ rfl rfl
theorem m_worthE {n vs : Nat} {wo un h : Int64} {bo : Nat → Int32} {ta tr ro ot : Nat → Int64} {Bm : Nat → Nat → Nat → Int32} {bk : Nat → Nat → Int32} (hn : n ≤ 4) : KX3_worth l D ca ad [.ref 0] (MW (Int32.ofNat n) (Int32.ofNat vs) wo un h bo ta tr ro ot Bm bk) (some (.long (dtM (TnM n Bm 4 0)))) (MW (Int32.ofNat n) (Int32.ofNat vs) (dtM (TnM n Bm 4 0)) un h (boX 4 0) (TnM n Bm 4 0) (TnM n Bm 4 0) ro ot Bm bk) := by
  obtain ⟨tt, ett⟩ : ∃ z, z = TnM n Bm 4 0 := ⟨_, rfl⟩
  obtain ⟨dt, edt⟩ : ∃ z, z = dtM tt := ⟨_, rfl⟩
  rw [← ett, ← edt]
  refine PX3_worth (Nat.le_of_ble_eq_true rfl) ?_
  intro G hT hC hR
  refine mB hT 1 rfl ?_
  refine hC _ 0 [] _ _ _ _ _ (show KX3_layNow l D ca ad _ _ none (MW (Int32.ofNat n) (Int32.ofNat vs) dt un h (boX 4 0) tt tt ro ot Bm bk) from (by rw [edt, ett]; exact m_layNow hn)) rfl rfl (Nat.le_of_ble_eq_true rfl) rfl ?_
  refine mB hT 2 rfl ?_
  exact hR _ (by decide) _ _ _ rfl rfl
set_option maxRecDepth 100000 in
set_option maxHeartbeats 4000000 in
theorem m_digest_0 {vs : Nat} {wo un h : Int64} {bo : Nat → Int32} {ta tr ro ot : Nat → Int64} {Bm : Nat → Nat → Nat → Int32} {bk : Nat → Nat → Int32} : KX3_digest l D ca ad [.ref 0] (MW 0 (Int32.ofNat vs) wo un h bo ta tr ro ot Bm bk) (some (.long (dgS 151 (dgL 0 (tdM 0 (Bm 6)) bk (Int32.ofNat vs) (dtM (TnM 0 Bm 4 0)))))) (MW 0 (Int32.ofNat vs) (dtM (TnM 0 Bm 4 0)) un (dgS 151 (dgL 0 (tdM 0 (Bm 6)) bk (Int32.ofNat vs) (dtM (TnM 0 Bm 4 0)))) (boX 4 0) (TnM 0 Bm 4 0) (TnM 0 Bm 4 0) ro ot Bm bk) := by
  obtain ⟨tt, ett⟩ : ∃ z, z = (TnM 0 Bm 4 0) := ⟨_, rfl⟩
  obtain ⟨dt, edt⟩ : ∃ z, z = dtM tt := ⟨_, rfl⟩
  rw [← ett, ← edt]
  refine PX3_digest (Nat.le_of_ble_eq_true rfl) ?_
  intro G hT hC hR
  refine mB hT 40 rfl ?_
  refine mNf (lv2 := [(2, .int 0), (1, .int 2), (0, .ref 0)]) (st2 := [.ref 0, .int 0]) rfl rfl ?_
  refine mB hT 22 rfl ?_
  refine mNf (lv2 := [(1, .int 4), (2, .int 0), (0, .ref 0)]) (st2 := [.long ((Int32.ofNat vs).toInt64), .ref 0]) rfl rfl ?_
  refine mWd (w2 := (MW 0 (Int32.ofNat vs) wo un 151 bo ta tr ro ot Bm bk)) rfl ?_
  obtain ⟨h1, eh1⟩ : ∃ z, z = 31 * 151 + ((Int32.ofNat vs).toInt64) := ⟨_, rfl⟩
  refine hC.2.2.2.1 _ 0 [_] _ _ _ _ _ (show KX3_mix l D ca ad _ _ none (MW 0 (Int32.ofNat vs) wo un h1 bo ta tr ro ot Bm bk) from (by rw [eh1]; exact m_mix _)) rfl rfl (Nat.le_of_ble_eq_true rfl) rfl ?_
  refine mB hT 2 rfl ?_
  refine hC.2.2.2.2.1 _ 0 [] _ _ _ _ _ (show KX3_worth l D ca ad _ _ (some (.long dt)) (MW 0 (Int32.ofNat vs) dt un h1 (boX 4 0) tt tt ro ot Bm bk) from (by rw [edt, ett]; exact m_worthE (n := 0) (by decide))) rfl rfl (Nat.le_of_ble_eq_true rfl) rfl ?_
  obtain ⟨h2, eh2⟩ : ∃ z, z = 31 * h1 + dt := ⟨_, rfl⟩
  refine hC.2.2.2.2.2 _ 0 [_] _ _ _ _ _ (show KX3_mix l D ca ad _ _ none (MW 0 (Int32.ofNat vs) dt un h2 (boX 4 0) tt tt ro ot Bm bk) from (by rw [eh2]; exact m_mix _)) rfl rfl (Nat.le_of_ble_eq_true rfl) rfl ?_
  refine mB hT 2 rfl ?_
  have eL : h2 = dgS 151 (dgL 0 (tdM 0 (Bm 6)) bk (Int32.ofNat vs) dt) := (by subst eh1 eh2; rfl)
  rw [← eL] at hR
  exact hR _ (by decide) _ _ _ rfl rfl
set_option maxRecDepth 100000 in
set_option maxHeartbeats 4000000 in
theorem m_digest_1 {vs : Nat} {wo un h : Int64} {bo : Nat → Int32} {ta tr ro ot : Nat → Int64} {Bm : Nat → Nat → Nat → Int32} {bk : Nat → Nat → Int32} : KX3_digest l D ca ad [.ref 0] (MW 1 (Int32.ofNat vs) wo un h bo ta tr ro ot Bm bk) (some (.long (dgS 151 (dgL 1 (tdM 1 (Bm 6)) bk (Int32.ofNat vs) (dtM (TnM 1 Bm 4 0)))))) (MW 1 (Int32.ofNat vs) (dtM (TnM 1 Bm 4 0)) un (dgS 151 (dgL 1 (tdM 1 (Bm 6)) bk (Int32.ofNat vs) (dtM (TnM 1 Bm 4 0)))) (boX 4 0) (TnM 1 Bm 4 0) (TnM 1 Bm 4 0) ro ot Bm bk) := by
  obtain ⟨tt, ett⟩ : ∃ z, z = (TnM 1 Bm 4 0) := ⟨_, rfl⟩
  obtain ⟨dt, edt⟩ : ∃ z, z = dtM tt := ⟨_, rfl⟩
  rw [← ett, ← edt]
  refine PX3_digest (Nat.le_of_ble_eq_true rfl) ?_
  intro G hT hC hR
  refine mB hT 18 rfl ?_
  refine mNf (lv2 := [(2, .int 0), (1, .int 0), (0, .ref 0)]) (st2 := [.int 0, .int 0, .ref 0, .ref 0]) rfl rfl ?_
  refine mWd (w2 := (MW 1 (Int32.ofNat vs) wo un 151 bo ta tr ro ot Bm bk)) rfl ?_
  refine hC.1 _ 0 [_, _] _ _ _ _ _ (m_toldOf_0_0 (n := 1) (by decide)) rfl rfl (Nat.le_of_ble_eq_true rfl) rfl ?_
  refine mB hT 1 rfl ?_
  obtain ⟨h1, eh1⟩ : ∃ z, z = 31 * 151 + ((tdM 1 (Bm 6) 0 0).toInt64) := ⟨_, rfl⟩
  refine hC.2.1 _ 0 [_] _ _ _ _ _ (show KX3_mix l D ca ad _ _ none (MW 1 (Int32.ofNat vs) wo un h1 bo ta tr ro ot Bm bk) from (by rw [eh1]; exact m_mix _)) rfl rfl (Nat.le_of_ble_eq_true rfl) rfl ?_
  refine mB hT 9 rfl ?_
  refine hC.1 _ 0 [_, _] _ _ _ _ _ (m_toldOf_0_1 (n := 1) (by decide)) rfl rfl (Nat.le_of_ble_eq_true rfl) rfl ?_
  refine mB hT 1 rfl ?_
  obtain ⟨h2, eh2⟩ : ∃ z, z = 31 * h1 + ((tdM 1 (Bm 6) 0 1).toInt64) := ⟨_, rfl⟩
  refine hC.2.1 _ 0 [_] _ _ _ _ _ (show KX3_mix l D ca ad _ _ none (MW 1 (Int32.ofNat vs) wo un h2 bo ta tr ro ot Bm bk) from (by rw [eh2]; exact m_mix _)) rfl rfl (Nat.le_of_ble_eq_true rfl) rfl ?_
  refine mB hT 9 rfl ?_
  refine mNf (lv2 := [(2, .int 2), (1, .int 0), (0, .ref 0)]) (st2 := [.int 2, .int 0, .ref 0, .ref 0]) rfl rfl ?_
  refine hC.1 _ 0 [_, _] _ _ _ _ _ (m_toldOf_0_2 (n := 1) (by decide)) rfl rfl (Nat.le_of_ble_eq_true rfl) rfl ?_
  refine mB hT 1 rfl ?_
  obtain ⟨h3, eh3⟩ : ∃ z, z = 31 * h2 + ((tdM 1 (Bm 6) 0 2).toInt64) := ⟨_, rfl⟩
  refine hC.2.1 _ 0 [_] _ _ _ _ _ (show KX3_mix l D ca ad _ _ none (MW 1 (Int32.ofNat vs) wo un h3 bo ta tr ro ot Bm bk) from (by rw [eh3]; exact m_mix _)) rfl rfl (Nat.le_of_ble_eq_true rfl) rfl ?_
  refine mB hT 9 rfl ?_
  refine hC.1 _ 0 [_, _] _ _ _ _ _ (m_toldOf_0_3 (n := 1) (by decide)) rfl rfl (Nat.le_of_ble_eq_true rfl) rfl ?_
  refine mB hT 1 rfl ?_
  obtain ⟨h4, eh4⟩ : ∃ z, z = 31 * h3 + ((tdM 1 (Bm 6) 0 3).toInt64) := ⟨_, rfl⟩
  refine hC.2.1 _ 0 [_] _ _ _ _ _ (show KX3_mix l D ca ad _ _ none (MW 1 (Int32.ofNat vs) wo un h4 bo ta tr ro ot Bm bk) from (by rw [eh4]; exact m_mix _)) rfl rfl (Nat.le_of_ble_eq_true rfl) rfl ?_
  refine mB hT 9 rfl ?_
  refine mNf (lv2 := [(2, .int 4), (1, .int 0), (0, .ref 0)]) (st2 := [.int 4, .int 0, .ref 0, .ref 0]) rfl rfl ?_
  refine hC.1 _ 0 [_, _] _ _ _ _ _ (m_toldOf_0_4 (n := 1) (by decide)) rfl rfl (Nat.le_of_ble_eq_true rfl) rfl ?_
  refine mB hT 1 rfl ?_
  obtain ⟨h5, eh5⟩ : ∃ z, z = 31 * h4 + ((tdM 1 (Bm 6) 0 4).toInt64) := ⟨_, rfl⟩
  refine hC.2.1 _ 0 [_] _ _ _ _ _ (show KX3_mix l D ca ad _ _ none (MW 1 (Int32.ofNat vs) wo un h5 bo ta tr ro ot Bm bk) from (by rw [eh5]; exact m_mix _)) rfl rfl (Nat.le_of_ble_eq_true rfl) rfl ?_
  refine mB hT 9 rfl ?_
  refine hC.1 _ 0 [_, _] _ _ _ _ _ (m_toldOf_0_5 (n := 1) (by decide)) rfl rfl (Nat.le_of_ble_eq_true rfl) rfl ?_
  refine mB hT 1 rfl ?_
  obtain ⟨h6, eh6⟩ : ∃ z, z = 31 * h5 + ((tdM 1 (Bm 6) 0 5).toInt64) := ⟨_, rfl⟩
  refine hC.2.1 _ 0 [_] _ _ _ _ _ (show KX3_mix l D ca ad _ _ none (MW 1 (Int32.ofNat vs) wo un h6 bo ta tr ro ot Bm bk) from (by rw [eh6]; exact m_mix _)) rfl rfl (Nat.le_of_ble_eq_true rfl) rfl ?_
  refine mB hT 9 rfl ?_
  refine mNf (lv2 := [(2, .int 6), (1, .int 0), (0, .ref 0)]) (st2 := [.int 6, .int 0, .ref 0, .ref 0]) rfl rfl ?_
  refine hC.1 _ 0 [_, _] _ _ _ _ _ (m_toldOf_0_6 (n := 1) (by decide)) rfl rfl (Nat.le_of_ble_eq_true rfl) rfl ?_
  refine mB hT 1 rfl ?_
  obtain ⟨h7, eh7⟩ : ∃ z, z = 31 * h6 + ((tdM 1 (Bm 6) 0 6).toInt64) := ⟨_, rfl⟩
  refine hC.2.1 _ 0 [_] _ _ _ _ _ (show KX3_mix l D ca ad _ _ none (MW 1 (Int32.ofNat vs) wo un h7 bo ta tr ro ot Bm bk) from (by rw [eh7]; exact m_mix _)) rfl rfl (Nat.le_of_ble_eq_true rfl) rfl ?_
  refine mB hT 9 rfl ?_
  refine hC.1 _ 0 [_, _] _ _ _ _ _ (m_toldOf_0_7 (n := 1) (by decide)) rfl rfl (Nat.le_of_ble_eq_true rfl) rfl ?_
  refine mB hT 1 rfl ?_
  obtain ⟨h8, eh8⟩ : ∃ z, z = 31 * h7 + ((tdM 1 (Bm 6) 0 7).toInt64) := ⟨_, rfl⟩
  refine hC.2.1 _ 0 [_] _ _ _ _ _ (show KX3_mix l D ca ad _ _ none (MW 1 (Int32.ofNat vs) wo un h8 bo ta tr ro ot Bm bk) from (by rw [eh8]; exact m_mix _)) rfl rfl (Nat.le_of_ble_eq_true rfl) rfl ?_
  refine mB hT 9 rfl ?_
  refine mNf (lv2 := [(2, .int 8), (1, .int 0), (0, .ref 0)]) (st2 := [.int 8, .int 0, .ref 0, .ref 0]) rfl rfl ?_
  refine hC.1 _ 0 [_, _] _ _ _ _ _ (m_toldOf_0_8 (n := 1) (by decide)) rfl rfl (Nat.le_of_ble_eq_true rfl) rfl ?_
  refine mB hT 1 rfl ?_
  obtain ⟨h9, eh9⟩ : ∃ z, z = 31 * h8 + ((tdM 1 (Bm 6) 0 8).toInt64) := ⟨_, rfl⟩
  refine hC.2.1 _ 0 [_] _ _ _ _ _ (show KX3_mix l D ca ad _ _ none (MW 1 (Int32.ofNat vs) wo un h9 bo ta tr ro ot Bm bk) from (by rw [eh9]; exact m_mix _)) rfl rfl (Nat.le_of_ble_eq_true rfl) rfl ?_
  refine mB hT 9 rfl ?_
  refine hC.1 _ 0 [_, _] _ _ _ _ _ (m_toldOf_0_9 (n := 1) (by decide)) rfl rfl (Nat.le_of_ble_eq_true rfl) rfl ?_
  refine mB hT 1 rfl ?_
  obtain ⟨h10, eh10⟩ : ∃ z, z = 31 * h9 + ((tdM 1 (Bm 6) 0 9).toInt64) := ⟨_, rfl⟩
  refine hC.2.1 _ 0 [_] _ _ _ _ _ (show KX3_mix l D ca ad _ _ none (MW 1 (Int32.ofNat vs) wo un h10 bo ta tr ro ot Bm bk) from (by rw [eh10]; exact m_mix _)) rfl rfl (Nat.le_of_ble_eq_true rfl) rfl ?_
  refine mB hT 9 rfl ?_
  refine mNf (lv2 := [(2, .int 10), (1, .int 0), (0, .ref 0)]) (st2 := [.int 10, .int 0, .ref 0, .ref 0]) rfl rfl ?_
  refine hC.1 _ 0 [_, _] _ _ _ _ _ (m_toldOf_0_10 (n := 1) (by decide)) rfl rfl (Nat.le_of_ble_eq_true rfl) rfl ?_
  refine mB hT 1 rfl ?_
  obtain ⟨h11, eh11⟩ : ∃ z, z = 31 * h10 + ((tdM 1 (Bm 6) 0 10).toInt64) := ⟨_, rfl⟩
  refine hC.2.1 _ 0 [_] _ _ _ _ _ (show KX3_mix l D ca ad _ _ none (MW 1 (Int32.ofNat vs) wo un h11 bo ta tr ro ot Bm bk) from (by rw [eh11]; exact m_mix _)) rfl rfl (Nat.le_of_ble_eq_true rfl) rfl ?_
  refine mB hT 9 rfl ?_
  refine hC.1 _ 0 [_, _] _ _ _ _ _ (m_toldOf_0_11 (n := 1) (by decide)) rfl rfl (Nat.le_of_ble_eq_true rfl) rfl ?_
  refine mB hT 1 rfl ?_
  obtain ⟨h12, eh12⟩ : ∃ z, z = 31 * h11 + ((tdM 1 (Bm 6) 0 11).toInt64) := ⟨_, rfl⟩
  refine hC.2.1 _ 0 [_] _ _ _ _ _ (show KX3_mix l D ca ad _ _ none (MW 1 (Int32.ofNat vs) wo un h12 bo ta tr ro ot Bm bk) from (by rw [eh12]; exact m_mix _)) rfl rfl (Nat.le_of_ble_eq_true rfl) rfl ?_
  refine mB hT 9 rfl ?_
  refine mNf (lv2 := [(2, .int 12), (1, .int 0), (0, .ref 0)]) (st2 := [.int 12, .int 0, .ref 0, .ref 0]) rfl rfl ?_
  refine hC.1 _ 0 [_, _] _ _ _ _ _ (m_toldOf_0_12 (n := 1) (by decide)) rfl rfl (Nat.le_of_ble_eq_true rfl) rfl ?_
  refine mB hT 1 rfl ?_
  obtain ⟨h13, eh13⟩ : ∃ z, z = 31 * h12 + ((tdM 1 (Bm 6) 0 12).toInt64) := ⟨_, rfl⟩
  refine hC.2.1 _ 0 [_] _ _ _ _ _ (show KX3_mix l D ca ad _ _ none (MW 1 (Int32.ofNat vs) wo un h13 bo ta tr ro ot Bm bk) from (by rw [eh13]; exact m_mix _)) rfl rfl (Nat.le_of_ble_eq_true rfl) rfl ?_
  refine mB hT 9 rfl ?_
  refine hC.1 _ 0 [_, _] _ _ _ _ _ (m_toldOf_0_13 (n := 1) (by decide)) rfl rfl (Nat.le_of_ble_eq_true rfl) rfl ?_
  refine mB hT 1 rfl ?_
  obtain ⟨h14, eh14⟩ : ∃ z, z = 31 * h13 + ((tdM 1 (Bm 6) 0 13).toInt64) := ⟨_, rfl⟩
  refine hC.2.1 _ 0 [_] _ _ _ _ _ (show KX3_mix l D ca ad _ _ none (MW 1 (Int32.ofNat vs) wo un h14 bo ta tr ro ot Bm bk) from (by rw [eh14]; exact m_mix _)) rfl rfl (Nat.le_of_ble_eq_true rfl) rfl ?_
  refine mB hT 9 rfl ?_
  refine mNf (lv2 := [(2, .int 14), (1, .int 0), (0, .ref 0)]) (st2 := [.int 14, .int 0, .ref 0, .ref 0]) rfl rfl ?_
  refine hC.1 _ 0 [_, _] _ _ _ _ _ (m_toldOf_0_14 (n := 1) (by decide)) rfl rfl (Nat.le_of_ble_eq_true rfl) rfl ?_
  refine mB hT 1 rfl ?_
  obtain ⟨h15, eh15⟩ : ∃ z, z = 31 * h14 + ((tdM 1 (Bm 6) 0 14).toInt64) := ⟨_, rfl⟩
  refine hC.2.1 _ 0 [_] _ _ _ _ _ (show KX3_mix l D ca ad _ _ none (MW 1 (Int32.ofNat vs) wo un h15 bo ta tr ro ot Bm bk) from (by rw [eh15]; exact m_mix _)) rfl rfl (Nat.le_of_ble_eq_true rfl) rfl ?_
  refine mB hT 9 rfl ?_
  refine hC.1 _ 0 [_, _] _ _ _ _ _ (m_toldOf_0_15 (n := 1) (by decide)) rfl rfl (Nat.le_of_ble_eq_true rfl) rfl ?_
  refine mB hT 1 rfl ?_
  obtain ⟨h16, eh16⟩ : ∃ z, z = 31 * h15 + ((tdM 1 (Bm 6) 0 15).toInt64) := ⟨_, rfl⟩
  refine hC.2.1 _ 0 [_] _ _ _ _ _ (show KX3_mix l D ca ad _ _ none (MW 1 (Int32.ofNat vs) wo un h16 bo ta tr ro ot Bm bk) from (by rw [eh16]; exact m_mix _)) rfl rfl (Nat.le_of_ble_eq_true rfl) rfl ?_
  refine mB hT 9 rfl ?_
  refine mNf (lv2 := [(2, .int 16), (1, .int 0), (0, .ref 0)]) (st2 := [.int 16, .int 0, .ref 0, .ref 0]) rfl rfl ?_
  refine hC.1 _ 0 [_, _] _ _ _ _ _ (m_toldOf_0_16 (n := 1) (by decide)) rfl rfl (Nat.le_of_ble_eq_true rfl) rfl ?_
  refine mB hT 1 rfl ?_
  obtain ⟨h17, eh17⟩ : ∃ z, z = 31 * h16 + ((tdM 1 (Bm 6) 0 16).toInt64) := ⟨_, rfl⟩
  refine hC.2.1 _ 0 [_] _ _ _ _ _ (show KX3_mix l D ca ad _ _ none (MW 1 (Int32.ofNat vs) wo un h17 bo ta tr ro ot Bm bk) from (by rw [eh17]; exact m_mix _)) rfl rfl (Nat.le_of_ble_eq_true rfl) rfl ?_
  refine mB hT 9 rfl ?_
  refine hC.1 _ 0 [_, _] _ _ _ _ _ (m_toldOf_0_17 (n := 1) (by decide)) rfl rfl (Nat.le_of_ble_eq_true rfl) rfl ?_
  refine mB hT 1 rfl ?_
  obtain ⟨h18, eh18⟩ : ∃ z, z = 31 * h17 + ((tdM 1 (Bm 6) 0 17).toInt64) := ⟨_, rfl⟩
  refine hC.2.1 _ 0 [_] _ _ _ _ _ (show KX3_mix l D ca ad _ _ none (MW 1 (Int32.ofNat vs) wo un h18 bo ta tr ro ot Bm bk) from (by rw [eh18]; exact m_mix _)) rfl rfl (Nat.le_of_ble_eq_true rfl) rfl ?_
  refine mB hT 9 rfl ?_
  refine mNf (lv2 := [(2, .int 18), (1, .int 0), (0, .ref 0)]) (st2 := [.int 18, .int 0, .ref 0, .ref 0]) rfl rfl ?_
  refine hC.1 _ 0 [_, _] _ _ _ _ _ (m_toldOf_0_18 (n := 1) (by decide)) rfl rfl (Nat.le_of_ble_eq_true rfl) rfl ?_
  refine mB hT 1 rfl ?_
  obtain ⟨h19, eh19⟩ : ∃ z, z = 31 * h18 + ((tdM 1 (Bm 6) 0 18).toInt64) := ⟨_, rfl⟩
  refine hC.2.1 _ 0 [_] _ _ _ _ _ (show KX3_mix l D ca ad _ _ none (MW 1 (Int32.ofNat vs) wo un h19 bo ta tr ro ot Bm bk) from (by rw [eh19]; exact m_mix _)) rfl rfl (Nat.le_of_ble_eq_true rfl) rfl ?_
  refine mB hT 9 rfl ?_
  refine hC.1 _ 0 [_, _] _ _ _ _ _ (m_toldOf_0_19 (n := 1) (by decide)) rfl rfl (Nat.le_of_ble_eq_true rfl) rfl ?_
  refine mB hT 1 rfl ?_
  obtain ⟨h20, eh20⟩ : ∃ z, z = 31 * h19 + ((tdM 1 (Bm 6) 0 19).toInt64) := ⟨_, rfl⟩
  refine hC.2.1 _ 0 [_] _ _ _ _ _ (show KX3_mix l D ca ad _ _ none (MW 1 (Int32.ofNat vs) wo un h20 bo ta tr ro ot Bm bk) from (by rw [eh20]; exact m_mix _)) rfl rfl (Nat.le_of_ble_eq_true rfl) rfl ?_
  refine mB hT 9 rfl ?_
  refine mNf (lv2 := [(2, .int 20), (1, .int 0), (0, .ref 0)]) (st2 := [.int 20, .int 0, .ref 0, .ref 0]) rfl rfl ?_
  refine hC.1 _ 0 [_, _] _ _ _ _ _ (m_toldOf_0_20 (n := 1) (by decide)) rfl rfl (Nat.le_of_ble_eq_true rfl) rfl ?_
  refine mB hT 1 rfl ?_
  obtain ⟨h21, eh21⟩ : ∃ z, z = 31 * h20 + ((tdM 1 (Bm 6) 0 20).toInt64) := ⟨_, rfl⟩
  refine hC.2.1 _ 0 [_] _ _ _ _ _ (show KX3_mix l D ca ad _ _ none (MW 1 (Int32.ofNat vs) wo un h21 bo ta tr ro ot Bm bk) from (by rw [eh21]; exact m_mix _)) rfl rfl (Nat.le_of_ble_eq_true rfl) rfl ?_
  refine mB hT 9 rfl ?_
  refine hC.1 _ 0 [_, _] _ _ _ _ _ (m_toldOf_0_21 (n := 1) (by decide)) rfl rfl (Nat.le_of_ble_eq_true rfl) rfl ?_
  refine mB hT 1 rfl ?_
  obtain ⟨h22, eh22⟩ : ∃ z, z = 31 * h21 + ((tdM 1 (Bm 6) 0 21).toInt64) := ⟨_, rfl⟩
  refine hC.2.1 _ 0 [_] _ _ _ _ _ (show KX3_mix l D ca ad _ _ none (MW 1 (Int32.ofNat vs) wo un h22 bo ta tr ro ot Bm bk) from (by rw [eh22]; exact m_mix _)) rfl rfl (Nat.le_of_ble_eq_true rfl) rfl ?_
  refine mB hT 9 rfl ?_
  refine mNf (lv2 := [(2, .int 22), (1, .int 0), (0, .ref 0)]) (st2 := [.int 22, .int 0, .ref 0, .ref 0]) rfl rfl ?_
  refine hC.1 _ 0 [_, _] _ _ _ _ _ (m_toldOf_0_22 (n := 1) (by decide)) rfl rfl (Nat.le_of_ble_eq_true rfl) rfl ?_
  refine mB hT 1 rfl ?_
  obtain ⟨h23, eh23⟩ : ∃ z, z = 31 * h22 + ((tdM 1 (Bm 6) 0 22).toInt64) := ⟨_, rfl⟩
  refine hC.2.1 _ 0 [_] _ _ _ _ _ (show KX3_mix l D ca ad _ _ none (MW 1 (Int32.ofNat vs) wo un h23 bo ta tr ro ot Bm bk) from (by rw [eh23]; exact m_mix _)) rfl rfl (Nat.le_of_ble_eq_true rfl) rfl ?_
  refine mB hT 32 rfl ?_
  refine mNf (lv2 := [(2, .int 0), (1, .int 0), (0, .ref 0)]) (st2 := [.long ((bk 0 0).toInt64), .ref 0]) rfl rfl ?_
  obtain ⟨h24, eh24⟩ : ∃ z, z = 31 * h23 + ((bk 0 0).toInt64) := ⟨_, rfl⟩
  refine hC.2.2.1 _ 0 [_] _ _ _ _ _ (show KX3_mix l D ca ad _ _ none (MW 1 (Int32.ofNat vs) wo un h24 bo ta tr ro ot Bm bk) from (by rw [eh24]; exact m_mix _)) rfl rfl (Nat.le_of_ble_eq_true rfl) rfl ?_
  refine mB hT 27 rfl ?_
  refine mNf (lv2 := [(2, .int 0), (1, .int 1), (0, .ref 0)]) (st2 := [.long ((bk 1 0).toInt64), .ref 0]) rfl rfl ?_
  obtain ⟨h25, eh25⟩ : ∃ z, z = 31 * h24 + ((bk 1 0).toInt64) := ⟨_, rfl⟩
  refine hC.2.2.1 _ 0 [_] _ _ _ _ _ (show KX3_mix l D ca ad _ _ none (MW 1 (Int32.ofNat vs) wo un h25 bo ta tr ro ot Bm bk) from (by rw [eh25]; exact m_mix _)) rfl rfl (Nat.le_of_ble_eq_true rfl) rfl ?_
  refine mB hT 27 rfl ?_
  refine mNf (lv2 := [(2, .int 0), (1, .int 2), (0, .ref 0)]) (st2 := [.long ((bk 2 0).toInt64), .ref 0]) rfl rfl ?_
  obtain ⟨h26, eh26⟩ : ∃ z, z = 31 * h25 + ((bk 2 0).toInt64) := ⟨_, rfl⟩
  refine hC.2.2.1 _ 0 [_] _ _ _ _ _ (show KX3_mix l D ca ad _ _ none (MW 1 (Int32.ofNat vs) wo un h26 bo ta tr ro ot Bm bk) from (by rw [eh26]; exact m_mix _)) rfl rfl (Nat.le_of_ble_eq_true rfl) rfl ?_
  refine mB hT 27 rfl ?_
  refine mNf (lv2 := [(2, .int 0), (1, .int 3), (0, .ref 0)]) (st2 := [.long ((bk 3 0).toInt64), .ref 0]) rfl rfl ?_
  obtain ⟨h27, eh27⟩ : ∃ z, z = 31 * h26 + ((bk 3 0).toInt64) := ⟨_, rfl⟩
  refine hC.2.2.1 _ 0 [_] _ _ _ _ _ (show KX3_mix l D ca ad _ _ none (MW 1 (Int32.ofNat vs) wo un h27 bo ta tr ro ot Bm bk) from (by rw [eh27]; exact m_mix _)) rfl rfl (Nat.le_of_ble_eq_true rfl) rfl ?_
  refine mB hT 15 rfl ?_
  refine mNf (lv2 := [(1, .int 4), (2, .int 1), (0, .ref 0)]) (st2 := [.long ((Int32.ofNat vs).toInt64), .ref 0]) rfl rfl ?_
  obtain ⟨h28, eh28⟩ : ∃ z, z = 31 * h27 + ((Int32.ofNat vs).toInt64) := ⟨_, rfl⟩
  refine hC.2.2.2.1 _ 0 [_] _ _ _ _ _ (show KX3_mix l D ca ad _ _ none (MW 1 (Int32.ofNat vs) wo un h28 bo ta tr ro ot Bm bk) from (by rw [eh28]; exact m_mix _)) rfl rfl (Nat.le_of_ble_eq_true rfl) rfl ?_
  refine mB hT 2 rfl ?_
  refine hC.2.2.2.2.1 _ 0 [] _ _ _ _ _ (show KX3_worth l D ca ad _ _ (some (.long dt)) (MW 1 (Int32.ofNat vs) dt un h28 (boX 4 0) tt tt ro ot Bm bk) from (by rw [edt, ett]; exact m_worthE (n := 1) (by decide))) rfl rfl (Nat.le_of_ble_eq_true rfl) rfl ?_
  obtain ⟨h29, eh29⟩ : ∃ z, z = 31 * h28 + dt := ⟨_, rfl⟩
  refine hC.2.2.2.2.2 _ 0 [_] _ _ _ _ _ (show KX3_mix l D ca ad _ _ none (MW 1 (Int32.ofNat vs) dt un h29 (boX 4 0) tt tt ro ot Bm bk) from (by rw [eh29]; exact m_mix _)) rfl rfl (Nat.le_of_ble_eq_true rfl) rfl ?_
  refine mB hT 2 rfl ?_
  have eL : h29 = dgS 151 (dgL 1 (tdM 1 (Bm 6)) bk (Int32.ofNat vs) dt) := (by subst eh1 eh2 eh3 eh4 eh5 eh6 eh7 eh8 eh9 eh10 eh11 eh12 eh13 eh14 eh15 eh16 eh17 eh18 eh19 eh20 eh21 eh22 eh23 eh24 eh25 eh26 eh27 eh28 eh29; rfl)
  rw [← eL] at hR
  exact hR _ (by decide) _ _ _ rfl rfl
set_option maxRecDepth 100000 in
set_option maxHeartbeats 4000000 in
theorem m_digest_2 {vs : Nat} {wo un h : Int64} {bo : Nat → Int32} {ta tr ro ot : Nat → Int64} {Bm : Nat → Nat → Nat → Int32} {bk : Nat → Nat → Int32} : KX3_digest l D ca ad [.ref 0] (MW 2 (Int32.ofNat vs) wo un h bo ta tr ro ot Bm bk) (some (.long (dgS 151 (dgL 2 (tdM 2 (Bm 6)) bk (Int32.ofNat vs) (dtM (TnM 2 Bm 4 0)))))) (MW 2 (Int32.ofNat vs) (dtM (TnM 2 Bm 4 0)) un (dgS 151 (dgL 2 (tdM 2 (Bm 6)) bk (Int32.ofNat vs) (dtM (TnM 2 Bm 4 0)))) (boX 4 0) (TnM 2 Bm 4 0) (TnM 2 Bm 4 0) ro ot Bm bk) := by
  obtain ⟨tt, ett⟩ : ∃ z, z = (TnM 2 Bm 4 0) := ⟨_, rfl⟩
  obtain ⟨dt, edt⟩ : ∃ z, z = dtM tt := ⟨_, rfl⟩
  rw [← ett, ← edt]
  refine PX3_digest (Nat.le_of_ble_eq_true rfl) ?_
  intro G hT hC hR
  refine mB hT 18 rfl ?_
  refine mNf (lv2 := [(2, .int 0), (1, .int 0), (0, .ref 0)]) (st2 := [.int 0, .int 0, .ref 0, .ref 0]) rfl rfl ?_
  refine mWd (w2 := (MW 2 (Int32.ofNat vs) wo un 151 bo ta tr ro ot Bm bk)) rfl ?_
  refine hC.1 _ 0 [_, _] _ _ _ _ _ (m_toldOf_0_0 (n := 2) (by decide)) rfl rfl (Nat.le_of_ble_eq_true rfl) rfl ?_
  refine mB hT 1 rfl ?_
  obtain ⟨h1, eh1⟩ : ∃ z, z = 31 * 151 + ((tdM 2 (Bm 6) 0 0).toInt64) := ⟨_, rfl⟩
  refine hC.2.1 _ 0 [_] _ _ _ _ _ (show KX3_mix l D ca ad _ _ none (MW 2 (Int32.ofNat vs) wo un h1 bo ta tr ro ot Bm bk) from (by rw [eh1]; exact m_mix _)) rfl rfl (Nat.le_of_ble_eq_true rfl) rfl ?_
  refine mB hT 9 rfl ?_
  refine hC.1 _ 0 [_, _] _ _ _ _ _ (m_toldOf_0_1 (n := 2) (by decide)) rfl rfl (Nat.le_of_ble_eq_true rfl) rfl ?_
  refine mB hT 1 rfl ?_
  obtain ⟨h2, eh2⟩ : ∃ z, z = 31 * h1 + ((tdM 2 (Bm 6) 0 1).toInt64) := ⟨_, rfl⟩
  refine hC.2.1 _ 0 [_] _ _ _ _ _ (show KX3_mix l D ca ad _ _ none (MW 2 (Int32.ofNat vs) wo un h2 bo ta tr ro ot Bm bk) from (by rw [eh2]; exact m_mix _)) rfl rfl (Nat.le_of_ble_eq_true rfl) rfl ?_
  refine mB hT 9 rfl ?_
  refine mNf (lv2 := [(2, .int 2), (1, .int 0), (0, .ref 0)]) (st2 := [.int 2, .int 0, .ref 0, .ref 0]) rfl rfl ?_
  refine hC.1 _ 0 [_, _] _ _ _ _ _ (m_toldOf_0_2 (n := 2) (by decide)) rfl rfl (Nat.le_of_ble_eq_true rfl) rfl ?_
  refine mB hT 1 rfl ?_
  obtain ⟨h3, eh3⟩ : ∃ z, z = 31 * h2 + ((tdM 2 (Bm 6) 0 2).toInt64) := ⟨_, rfl⟩
  refine hC.2.1 _ 0 [_] _ _ _ _ _ (show KX3_mix l D ca ad _ _ none (MW 2 (Int32.ofNat vs) wo un h3 bo ta tr ro ot Bm bk) from (by rw [eh3]; exact m_mix _)) rfl rfl (Nat.le_of_ble_eq_true rfl) rfl ?_
  refine mB hT 9 rfl ?_
  refine hC.1 _ 0 [_, _] _ _ _ _ _ (m_toldOf_0_3 (n := 2) (by decide)) rfl rfl (Nat.le_of_ble_eq_true rfl) rfl ?_
  refine mB hT 1 rfl ?_
  obtain ⟨h4, eh4⟩ : ∃ z, z = 31 * h3 + ((tdM 2 (Bm 6) 0 3).toInt64) := ⟨_, rfl⟩
  refine hC.2.1 _ 0 [_] _ _ _ _ _ (show KX3_mix l D ca ad _ _ none (MW 2 (Int32.ofNat vs) wo un h4 bo ta tr ro ot Bm bk) from (by rw [eh4]; exact m_mix _)) rfl rfl (Nat.le_of_ble_eq_true rfl) rfl ?_
  refine mB hT 9 rfl ?_
  refine mNf (lv2 := [(2, .int 4), (1, .int 0), (0, .ref 0)]) (st2 := [.int 4, .int 0, .ref 0, .ref 0]) rfl rfl ?_
  refine hC.1 _ 0 [_, _] _ _ _ _ _ (m_toldOf_0_4 (n := 2) (by decide)) rfl rfl (Nat.le_of_ble_eq_true rfl) rfl ?_
  refine mB hT 1 rfl ?_
  obtain ⟨h5, eh5⟩ : ∃ z, z = 31 * h4 + ((tdM 2 (Bm 6) 0 4).toInt64) := ⟨_, rfl⟩
  refine hC.2.1 _ 0 [_] _ _ _ _ _ (show KX3_mix l D ca ad _ _ none (MW 2 (Int32.ofNat vs) wo un h5 bo ta tr ro ot Bm bk) from (by rw [eh5]; exact m_mix _)) rfl rfl (Nat.le_of_ble_eq_true rfl) rfl ?_
  refine mB hT 9 rfl ?_
  refine hC.1 _ 0 [_, _] _ _ _ _ _ (m_toldOf_0_5 (n := 2) (by decide)) rfl rfl (Nat.le_of_ble_eq_true rfl) rfl ?_
  refine mB hT 1 rfl ?_
  obtain ⟨h6, eh6⟩ : ∃ z, z = 31 * h5 + ((tdM 2 (Bm 6) 0 5).toInt64) := ⟨_, rfl⟩
  refine hC.2.1 _ 0 [_] _ _ _ _ _ (show KX3_mix l D ca ad _ _ none (MW 2 (Int32.ofNat vs) wo un h6 bo ta tr ro ot Bm bk) from (by rw [eh6]; exact m_mix _)) rfl rfl (Nat.le_of_ble_eq_true rfl) rfl ?_
  refine mB hT 9 rfl ?_
  refine mNf (lv2 := [(2, .int 6), (1, .int 0), (0, .ref 0)]) (st2 := [.int 6, .int 0, .ref 0, .ref 0]) rfl rfl ?_
  refine hC.1 _ 0 [_, _] _ _ _ _ _ (m_toldOf_0_6 (n := 2) (by decide)) rfl rfl (Nat.le_of_ble_eq_true rfl) rfl ?_
  refine mB hT 1 rfl ?_
  obtain ⟨h7, eh7⟩ : ∃ z, z = 31 * h6 + ((tdM 2 (Bm 6) 0 6).toInt64) := ⟨_, rfl⟩
  refine hC.2.1 _ 0 [_] _ _ _ _ _ (show KX3_mix l D ca ad _ _ none (MW 2 (Int32.ofNat vs) wo un h7 bo ta tr ro ot Bm bk) from (by rw [eh7]; exact m_mix _)) rfl rfl (Nat.le_of_ble_eq_true rfl) rfl ?_
  refine mB hT 9 rfl ?_
  refine hC.1 _ 0 [_, _] _ _ _ _ _ (m_toldOf_0_7 (n := 2) (by decide)) rfl rfl (Nat.le_of_ble_eq_true rfl) rfl ?_
  refine mB hT 1 rfl ?_
  obtain ⟨h8, eh8⟩ : ∃ z, z = 31 * h7 + ((tdM 2 (Bm 6) 0 7).toInt64) := ⟨_, rfl⟩
  refine hC.2.1 _ 0 [_] _ _ _ _ _ (show KX3_mix l D ca ad _ _ none (MW 2 (Int32.ofNat vs) wo un h8 bo ta tr ro ot Bm bk) from (by rw [eh8]; exact m_mix _)) rfl rfl (Nat.le_of_ble_eq_true rfl) rfl ?_
  refine mB hT 9 rfl ?_
  refine mNf (lv2 := [(2, .int 8), (1, .int 0), (0, .ref 0)]) (st2 := [.int 8, .int 0, .ref 0, .ref 0]) rfl rfl ?_
  refine hC.1 _ 0 [_, _] _ _ _ _ _ (m_toldOf_0_8 (n := 2) (by decide)) rfl rfl (Nat.le_of_ble_eq_true rfl) rfl ?_
  refine mB hT 1 rfl ?_
  obtain ⟨h9, eh9⟩ : ∃ z, z = 31 * h8 + ((tdM 2 (Bm 6) 0 8).toInt64) := ⟨_, rfl⟩
  refine hC.2.1 _ 0 [_] _ _ _ _ _ (show KX3_mix l D ca ad _ _ none (MW 2 (Int32.ofNat vs) wo un h9 bo ta tr ro ot Bm bk) from (by rw [eh9]; exact m_mix _)) rfl rfl (Nat.le_of_ble_eq_true rfl) rfl ?_
  refine mB hT 9 rfl ?_
  refine hC.1 _ 0 [_, _] _ _ _ _ _ (m_toldOf_0_9 (n := 2) (by decide)) rfl rfl (Nat.le_of_ble_eq_true rfl) rfl ?_
  refine mB hT 1 rfl ?_
  obtain ⟨h10, eh10⟩ : ∃ z, z = 31 * h9 + ((tdM 2 (Bm 6) 0 9).toInt64) := ⟨_, rfl⟩
  refine hC.2.1 _ 0 [_] _ _ _ _ _ (show KX3_mix l D ca ad _ _ none (MW 2 (Int32.ofNat vs) wo un h10 bo ta tr ro ot Bm bk) from (by rw [eh10]; exact m_mix _)) rfl rfl (Nat.le_of_ble_eq_true rfl) rfl ?_
  refine mB hT 9 rfl ?_
  refine mNf (lv2 := [(2, .int 10), (1, .int 0), (0, .ref 0)]) (st2 := [.int 10, .int 0, .ref 0, .ref 0]) rfl rfl ?_
  refine hC.1 _ 0 [_, _] _ _ _ _ _ (m_toldOf_0_10 (n := 2) (by decide)) rfl rfl (Nat.le_of_ble_eq_true rfl) rfl ?_
  refine mB hT 1 rfl ?_
  obtain ⟨h11, eh11⟩ : ∃ z, z = 31 * h10 + ((tdM 2 (Bm 6) 0 10).toInt64) := ⟨_, rfl⟩
  refine hC.2.1 _ 0 [_] _ _ _ _ _ (show KX3_mix l D ca ad _ _ none (MW 2 (Int32.ofNat vs) wo un h11 bo ta tr ro ot Bm bk) from (by rw [eh11]; exact m_mix _)) rfl rfl (Nat.le_of_ble_eq_true rfl) rfl ?_
  refine mB hT 9 rfl ?_
  refine hC.1 _ 0 [_, _] _ _ _ _ _ (m_toldOf_0_11 (n := 2) (by decide)) rfl rfl (Nat.le_of_ble_eq_true rfl) rfl ?_
  refine mB hT 1 rfl ?_
  obtain ⟨h12, eh12⟩ : ∃ z, z = 31 * h11 + ((tdM 2 (Bm 6) 0 11).toInt64) := ⟨_, rfl⟩
  refine hC.2.1 _ 0 [_] _ _ _ _ _ (show KX3_mix l D ca ad _ _ none (MW 2 (Int32.ofNat vs) wo un h12 bo ta tr ro ot Bm bk) from (by rw [eh12]; exact m_mix _)) rfl rfl (Nat.le_of_ble_eq_true rfl) rfl ?_
  refine mB hT 9 rfl ?_
  refine mNf (lv2 := [(2, .int 12), (1, .int 0), (0, .ref 0)]) (st2 := [.int 12, .int 0, .ref 0, .ref 0]) rfl rfl ?_
  refine hC.1 _ 0 [_, _] _ _ _ _ _ (m_toldOf_0_12 (n := 2) (by decide)) rfl rfl (Nat.le_of_ble_eq_true rfl) rfl ?_
  refine mB hT 1 rfl ?_
  obtain ⟨h13, eh13⟩ : ∃ z, z = 31 * h12 + ((tdM 2 (Bm 6) 0 12).toInt64) := ⟨_, rfl⟩
  refine hC.2.1 _ 0 [_] _ _ _ _ _ (show KX3_mix l D ca ad _ _ none (MW 2 (Int32.ofNat vs) wo un h13 bo ta tr ro ot Bm bk) from (by rw [eh13]; exact m_mix _)) rfl rfl (Nat.le_of_ble_eq_true rfl) rfl ?_
  refine mB hT 9 rfl ?_
  refine hC.1 _ 0 [_, _] _ _ _ _ _ (m_toldOf_0_13 (n := 2) (by decide)) rfl rfl (Nat.le_of_ble_eq_true rfl) rfl ?_
  refine mB hT 1 rfl ?_
  obtain ⟨h14, eh14⟩ : ∃ z, z = 31 * h13 + ((tdM 2 (Bm 6) 0 13).toInt64) := ⟨_, rfl⟩
  refine hC.2.1 _ 0 [_] _ _ _ _ _ (show KX3_mix l D ca ad _ _ none (MW 2 (Int32.ofNat vs) wo un h14 bo ta tr ro ot Bm bk) from (by rw [eh14]; exact m_mix _)) rfl rfl (Nat.le_of_ble_eq_true rfl) rfl ?_
  refine mB hT 9 rfl ?_
  refine mNf (lv2 := [(2, .int 14), (1, .int 0), (0, .ref 0)]) (st2 := [.int 14, .int 0, .ref 0, .ref 0]) rfl rfl ?_
  refine hC.1 _ 0 [_, _] _ _ _ _ _ (m_toldOf_0_14 (n := 2) (by decide)) rfl rfl (Nat.le_of_ble_eq_true rfl) rfl ?_
  refine mB hT 1 rfl ?_
  obtain ⟨h15, eh15⟩ : ∃ z, z = 31 * h14 + ((tdM 2 (Bm 6) 0 14).toInt64) := ⟨_, rfl⟩
  refine hC.2.1 _ 0 [_] _ _ _ _ _ (show KX3_mix l D ca ad _ _ none (MW 2 (Int32.ofNat vs) wo un h15 bo ta tr ro ot Bm bk) from (by rw [eh15]; exact m_mix _)) rfl rfl (Nat.le_of_ble_eq_true rfl) rfl ?_
  refine mB hT 9 rfl ?_
  refine hC.1 _ 0 [_, _] _ _ _ _ _ (m_toldOf_0_15 (n := 2) (by decide)) rfl rfl (Nat.le_of_ble_eq_true rfl) rfl ?_
  refine mB hT 1 rfl ?_
  obtain ⟨h16, eh16⟩ : ∃ z, z = 31 * h15 + ((tdM 2 (Bm 6) 0 15).toInt64) := ⟨_, rfl⟩
  refine hC.2.1 _ 0 [_] _ _ _ _ _ (show KX3_mix l D ca ad _ _ none (MW 2 (Int32.ofNat vs) wo un h16 bo ta tr ro ot Bm bk) from (by rw [eh16]; exact m_mix _)) rfl rfl (Nat.le_of_ble_eq_true rfl) rfl ?_
  refine mB hT 9 rfl ?_
  refine mNf (lv2 := [(2, .int 16), (1, .int 0), (0, .ref 0)]) (st2 := [.int 16, .int 0, .ref 0, .ref 0]) rfl rfl ?_
  refine hC.1 _ 0 [_, _] _ _ _ _ _ (m_toldOf_0_16 (n := 2) (by decide)) rfl rfl (Nat.le_of_ble_eq_true rfl) rfl ?_
  refine mB hT 1 rfl ?_
  obtain ⟨h17, eh17⟩ : ∃ z, z = 31 * h16 + ((tdM 2 (Bm 6) 0 16).toInt64) := ⟨_, rfl⟩
  refine hC.2.1 _ 0 [_] _ _ _ _ _ (show KX3_mix l D ca ad _ _ none (MW 2 (Int32.ofNat vs) wo un h17 bo ta tr ro ot Bm bk) from (by rw [eh17]; exact m_mix _)) rfl rfl (Nat.le_of_ble_eq_true rfl) rfl ?_
  refine mB hT 9 rfl ?_
  refine hC.1 _ 0 [_, _] _ _ _ _ _ (m_toldOf_0_17 (n := 2) (by decide)) rfl rfl (Nat.le_of_ble_eq_true rfl) rfl ?_
  refine mB hT 1 rfl ?_
  obtain ⟨h18, eh18⟩ : ∃ z, z = 31 * h17 + ((tdM 2 (Bm 6) 0 17).toInt64) := ⟨_, rfl⟩
  refine hC.2.1 _ 0 [_] _ _ _ _ _ (show KX3_mix l D ca ad _ _ none (MW 2 (Int32.ofNat vs) wo un h18 bo ta tr ro ot Bm bk) from (by rw [eh18]; exact m_mix _)) rfl rfl (Nat.le_of_ble_eq_true rfl) rfl ?_
  refine mB hT 9 rfl ?_
  refine mNf (lv2 := [(2, .int 18), (1, .int 0), (0, .ref 0)]) (st2 := [.int 18, .int 0, .ref 0, .ref 0]) rfl rfl ?_
  refine hC.1 _ 0 [_, _] _ _ _ _ _ (m_toldOf_0_18 (n := 2) (by decide)) rfl rfl (Nat.le_of_ble_eq_true rfl) rfl ?_
  refine mB hT 1 rfl ?_
  obtain ⟨h19, eh19⟩ : ∃ z, z = 31 * h18 + ((tdM 2 (Bm 6) 0 18).toInt64) := ⟨_, rfl⟩
  refine hC.2.1 _ 0 [_] _ _ _ _ _ (show KX3_mix l D ca ad _ _ none (MW 2 (Int32.ofNat vs) wo un h19 bo ta tr ro ot Bm bk) from (by rw [eh19]; exact m_mix _)) rfl rfl (Nat.le_of_ble_eq_true rfl) rfl ?_
  refine mB hT 9 rfl ?_
  refine hC.1 _ 0 [_, _] _ _ _ _ _ (m_toldOf_0_19 (n := 2) (by decide)) rfl rfl (Nat.le_of_ble_eq_true rfl) rfl ?_
  refine mB hT 1 rfl ?_
  obtain ⟨h20, eh20⟩ : ∃ z, z = 31 * h19 + ((tdM 2 (Bm 6) 0 19).toInt64) := ⟨_, rfl⟩
  refine hC.2.1 _ 0 [_] _ _ _ _ _ (show KX3_mix l D ca ad _ _ none (MW 2 (Int32.ofNat vs) wo un h20 bo ta tr ro ot Bm bk) from (by rw [eh20]; exact m_mix _)) rfl rfl (Nat.le_of_ble_eq_true rfl) rfl ?_
  refine mB hT 9 rfl ?_
  refine mNf (lv2 := [(2, .int 20), (1, .int 0), (0, .ref 0)]) (st2 := [.int 20, .int 0, .ref 0, .ref 0]) rfl rfl ?_
  refine hC.1 _ 0 [_, _] _ _ _ _ _ (m_toldOf_0_20 (n := 2) (by decide)) rfl rfl (Nat.le_of_ble_eq_true rfl) rfl ?_
  refine mB hT 1 rfl ?_
  obtain ⟨h21, eh21⟩ : ∃ z, z = 31 * h20 + ((tdM 2 (Bm 6) 0 20).toInt64) := ⟨_, rfl⟩
  refine hC.2.1 _ 0 [_] _ _ _ _ _ (show KX3_mix l D ca ad _ _ none (MW 2 (Int32.ofNat vs) wo un h21 bo ta tr ro ot Bm bk) from (by rw [eh21]; exact m_mix _)) rfl rfl (Nat.le_of_ble_eq_true rfl) rfl ?_
  refine mB hT 9 rfl ?_
  refine hC.1 _ 0 [_, _] _ _ _ _ _ (m_toldOf_0_21 (n := 2) (by decide)) rfl rfl (Nat.le_of_ble_eq_true rfl) rfl ?_
  refine mB hT 1 rfl ?_
  obtain ⟨h22, eh22⟩ : ∃ z, z = 31 * h21 + ((tdM 2 (Bm 6) 0 21).toInt64) := ⟨_, rfl⟩
  refine hC.2.1 _ 0 [_] _ _ _ _ _ (show KX3_mix l D ca ad _ _ none (MW 2 (Int32.ofNat vs) wo un h22 bo ta tr ro ot Bm bk) from (by rw [eh22]; exact m_mix _)) rfl rfl (Nat.le_of_ble_eq_true rfl) rfl ?_
  refine mB hT 9 rfl ?_
  refine mNf (lv2 := [(2, .int 22), (1, .int 0), (0, .ref 0)]) (st2 := [.int 22, .int 0, .ref 0, .ref 0]) rfl rfl ?_
  refine hC.1 _ 0 [_, _] _ _ _ _ _ (m_toldOf_0_22 (n := 2) (by decide)) rfl rfl (Nat.le_of_ble_eq_true rfl) rfl ?_
  refine mB hT 1 rfl ?_
  obtain ⟨h23, eh23⟩ : ∃ z, z = 31 * h22 + ((tdM 2 (Bm 6) 0 22).toInt64) := ⟨_, rfl⟩
  refine hC.2.1 _ 0 [_] _ _ _ _ _ (show KX3_mix l D ca ad _ _ none (MW 2 (Int32.ofNat vs) wo un h23 bo ta tr ro ot Bm bk) from (by rw [eh23]; exact m_mix _)) rfl rfl (Nat.le_of_ble_eq_true rfl) rfl ?_
  refine mB hT 20 rfl ?_
  refine mNf (lv2 := [(2, .int 0), (1, .int 1), (0, .ref 0)]) (st2 := [.int 0, .int 1, .ref 0, .ref 0]) rfl rfl ?_
  refine hC.1 _ 0 [_, _] _ _ _ _ _ (m_toldOf_1_0 (n := 2) (by decide)) rfl rfl (Nat.le_of_ble_eq_true rfl) rfl ?_
  refine mB hT 1 rfl ?_
  obtain ⟨h24, eh24⟩ : ∃ z, z = 31 * h23 + ((tdM 2 (Bm 6) 1 0).toInt64) := ⟨_, rfl⟩
  refine hC.2.1 _ 0 [_] _ _ _ _ _ (show KX3_mix l D ca ad _ _ none (MW 2 (Int32.ofNat vs) wo un h24 bo ta tr ro ot Bm bk) from (by rw [eh24]; exact m_mix _)) rfl rfl (Nat.le_of_ble_eq_true rfl) rfl ?_
  refine mB hT 9 rfl ?_
  refine hC.1 _ 0 [_, _] _ _ _ _ _ (m_toldOf_1_1 (n := 2) (by decide)) rfl rfl (Nat.le_of_ble_eq_true rfl) rfl ?_
  refine mB hT 1 rfl ?_
  obtain ⟨h25, eh25⟩ : ∃ z, z = 31 * h24 + ((tdM 2 (Bm 6) 1 1).toInt64) := ⟨_, rfl⟩
  refine hC.2.1 _ 0 [_] _ _ _ _ _ (show KX3_mix l D ca ad _ _ none (MW 2 (Int32.ofNat vs) wo un h25 bo ta tr ro ot Bm bk) from (by rw [eh25]; exact m_mix _)) rfl rfl (Nat.le_of_ble_eq_true rfl) rfl ?_
  refine mB hT 9 rfl ?_
  refine mNf (lv2 := [(2, .int 2), (1, .int 1), (0, .ref 0)]) (st2 := [.int 2, .int 1, .ref 0, .ref 0]) rfl rfl ?_
  refine hC.1 _ 0 [_, _] _ _ _ _ _ (m_toldOf_1_2 (n := 2) (by decide)) rfl rfl (Nat.le_of_ble_eq_true rfl) rfl ?_
  refine mB hT 1 rfl ?_
  obtain ⟨h26, eh26⟩ : ∃ z, z = 31 * h25 + ((tdM 2 (Bm 6) 1 2).toInt64) := ⟨_, rfl⟩
  refine hC.2.1 _ 0 [_] _ _ _ _ _ (show KX3_mix l D ca ad _ _ none (MW 2 (Int32.ofNat vs) wo un h26 bo ta tr ro ot Bm bk) from (by rw [eh26]; exact m_mix _)) rfl rfl (Nat.le_of_ble_eq_true rfl) rfl ?_
  refine mB hT 9 rfl ?_
  refine hC.1 _ 0 [_, _] _ _ _ _ _ (m_toldOf_1_3 (n := 2) (by decide)) rfl rfl (Nat.le_of_ble_eq_true rfl) rfl ?_
  refine mB hT 1 rfl ?_
  obtain ⟨h27, eh27⟩ : ∃ z, z = 31 * h26 + ((tdM 2 (Bm 6) 1 3).toInt64) := ⟨_, rfl⟩
  refine hC.2.1 _ 0 [_] _ _ _ _ _ (show KX3_mix l D ca ad _ _ none (MW 2 (Int32.ofNat vs) wo un h27 bo ta tr ro ot Bm bk) from (by rw [eh27]; exact m_mix _)) rfl rfl (Nat.le_of_ble_eq_true rfl) rfl ?_
  refine mB hT 9 rfl ?_
  refine mNf (lv2 := [(2, .int 4), (1, .int 1), (0, .ref 0)]) (st2 := [.int 4, .int 1, .ref 0, .ref 0]) rfl rfl ?_
  refine hC.1 _ 0 [_, _] _ _ _ _ _ (m_toldOf_1_4 (n := 2) (by decide)) rfl rfl (Nat.le_of_ble_eq_true rfl) rfl ?_
  refine mB hT 1 rfl ?_
  obtain ⟨h28, eh28⟩ : ∃ z, z = 31 * h27 + ((tdM 2 (Bm 6) 1 4).toInt64) := ⟨_, rfl⟩
  refine hC.2.1 _ 0 [_] _ _ _ _ _ (show KX3_mix l D ca ad _ _ none (MW 2 (Int32.ofNat vs) wo un h28 bo ta tr ro ot Bm bk) from (by rw [eh28]; exact m_mix _)) rfl rfl (Nat.le_of_ble_eq_true rfl) rfl ?_
  refine mB hT 9 rfl ?_
  refine hC.1 _ 0 [_, _] _ _ _ _ _ (m_toldOf_1_5 (n := 2) (by decide)) rfl rfl (Nat.le_of_ble_eq_true rfl) rfl ?_
  refine mB hT 1 rfl ?_
  obtain ⟨h29, eh29⟩ : ∃ z, z = 31 * h28 + ((tdM 2 (Bm 6) 1 5).toInt64) := ⟨_, rfl⟩
  refine hC.2.1 _ 0 [_] _ _ _ _ _ (show KX3_mix l D ca ad _ _ none (MW 2 (Int32.ofNat vs) wo un h29 bo ta tr ro ot Bm bk) from (by rw [eh29]; exact m_mix _)) rfl rfl (Nat.le_of_ble_eq_true rfl) rfl ?_
  refine mB hT 9 rfl ?_
  refine mNf (lv2 := [(2, .int 6), (1, .int 1), (0, .ref 0)]) (st2 := [.int 6, .int 1, .ref 0, .ref 0]) rfl rfl ?_
  refine hC.1 _ 0 [_, _] _ _ _ _ _ (m_toldOf_1_6 (n := 2) (by decide)) rfl rfl (Nat.le_of_ble_eq_true rfl) rfl ?_
  refine mB hT 1 rfl ?_
  obtain ⟨h30, eh30⟩ : ∃ z, z = 31 * h29 + ((tdM 2 (Bm 6) 1 6).toInt64) := ⟨_, rfl⟩
  refine hC.2.1 _ 0 [_] _ _ _ _ _ (show KX3_mix l D ca ad _ _ none (MW 2 (Int32.ofNat vs) wo un h30 bo ta tr ro ot Bm bk) from (by rw [eh30]; exact m_mix _)) rfl rfl (Nat.le_of_ble_eq_true rfl) rfl ?_
  refine mB hT 9 rfl ?_
  refine hC.1 _ 0 [_, _] _ _ _ _ _ (m_toldOf_1_7 (n := 2) (by decide)) rfl rfl (Nat.le_of_ble_eq_true rfl) rfl ?_
  refine mB hT 1 rfl ?_
  obtain ⟨h31, eh31⟩ : ∃ z, z = 31 * h30 + ((tdM 2 (Bm 6) 1 7).toInt64) := ⟨_, rfl⟩
  refine hC.2.1 _ 0 [_] _ _ _ _ _ (show KX3_mix l D ca ad _ _ none (MW 2 (Int32.ofNat vs) wo un h31 bo ta tr ro ot Bm bk) from (by rw [eh31]; exact m_mix _)) rfl rfl (Nat.le_of_ble_eq_true rfl) rfl ?_
  refine mB hT 9 rfl ?_
  refine mNf (lv2 := [(2, .int 8), (1, .int 1), (0, .ref 0)]) (st2 := [.int 8, .int 1, .ref 0, .ref 0]) rfl rfl ?_
  refine hC.1 _ 0 [_, _] _ _ _ _ _ (m_toldOf_1_8 (n := 2) (by decide)) rfl rfl (Nat.le_of_ble_eq_true rfl) rfl ?_
  refine mB hT 1 rfl ?_
  obtain ⟨h32, eh32⟩ : ∃ z, z = 31 * h31 + ((tdM 2 (Bm 6) 1 8).toInt64) := ⟨_, rfl⟩
  refine hC.2.1 _ 0 [_] _ _ _ _ _ (show KX3_mix l D ca ad _ _ none (MW 2 (Int32.ofNat vs) wo un h32 bo ta tr ro ot Bm bk) from (by rw [eh32]; exact m_mix _)) rfl rfl (Nat.le_of_ble_eq_true rfl) rfl ?_
  refine mB hT 9 rfl ?_
  refine hC.1 _ 0 [_, _] _ _ _ _ _ (m_toldOf_1_9 (n := 2) (by decide)) rfl rfl (Nat.le_of_ble_eq_true rfl) rfl ?_
  refine mB hT 1 rfl ?_
  obtain ⟨h33, eh33⟩ : ∃ z, z = 31 * h32 + ((tdM 2 (Bm 6) 1 9).toInt64) := ⟨_, rfl⟩
  refine hC.2.1 _ 0 [_] _ _ _ _ _ (show KX3_mix l D ca ad _ _ none (MW 2 (Int32.ofNat vs) wo un h33 bo ta tr ro ot Bm bk) from (by rw [eh33]; exact m_mix _)) rfl rfl (Nat.le_of_ble_eq_true rfl) rfl ?_
  refine mB hT 9 rfl ?_
  refine mNf (lv2 := [(2, .int 10), (1, .int 1), (0, .ref 0)]) (st2 := [.int 10, .int 1, .ref 0, .ref 0]) rfl rfl ?_
  refine hC.1 _ 0 [_, _] _ _ _ _ _ (m_toldOf_1_10 (n := 2) (by decide)) rfl rfl (Nat.le_of_ble_eq_true rfl) rfl ?_
  refine mB hT 1 rfl ?_
  obtain ⟨h34, eh34⟩ : ∃ z, z = 31 * h33 + ((tdM 2 (Bm 6) 1 10).toInt64) := ⟨_, rfl⟩
  refine hC.2.1 _ 0 [_] _ _ _ _ _ (show KX3_mix l D ca ad _ _ none (MW 2 (Int32.ofNat vs) wo un h34 bo ta tr ro ot Bm bk) from (by rw [eh34]; exact m_mix _)) rfl rfl (Nat.le_of_ble_eq_true rfl) rfl ?_
  refine mB hT 9 rfl ?_
  refine hC.1 _ 0 [_, _] _ _ _ _ _ (m_toldOf_1_11 (n := 2) (by decide)) rfl rfl (Nat.le_of_ble_eq_true rfl) rfl ?_
  refine mB hT 1 rfl ?_
  obtain ⟨h35, eh35⟩ : ∃ z, z = 31 * h34 + ((tdM 2 (Bm 6) 1 11).toInt64) := ⟨_, rfl⟩
  refine hC.2.1 _ 0 [_] _ _ _ _ _ (show KX3_mix l D ca ad _ _ none (MW 2 (Int32.ofNat vs) wo un h35 bo ta tr ro ot Bm bk) from (by rw [eh35]; exact m_mix _)) rfl rfl (Nat.le_of_ble_eq_true rfl) rfl ?_
  refine mB hT 9 rfl ?_
  refine mNf (lv2 := [(2, .int 12), (1, .int 1), (0, .ref 0)]) (st2 := [.int 12, .int 1, .ref 0, .ref 0]) rfl rfl ?_
  refine hC.1 _ 0 [_, _] _ _ _ _ _ (m_toldOf_1_12 (n := 2) (by decide)) rfl rfl (Nat.le_of_ble_eq_true rfl) rfl ?_
  refine mB hT 1 rfl ?_
  obtain ⟨h36, eh36⟩ : ∃ z, z = 31 * h35 + ((tdM 2 (Bm 6) 1 12).toInt64) := ⟨_, rfl⟩
  refine hC.2.1 _ 0 [_] _ _ _ _ _ (show KX3_mix l D ca ad _ _ none (MW 2 (Int32.ofNat vs) wo un h36 bo ta tr ro ot Bm bk) from (by rw [eh36]; exact m_mix _)) rfl rfl (Nat.le_of_ble_eq_true rfl) rfl ?_
  refine mB hT 9 rfl ?_
  refine hC.1 _ 0 [_, _] _ _ _ _ _ (m_toldOf_1_13 (n := 2) (by decide)) rfl rfl (Nat.le_of_ble_eq_true rfl) rfl ?_
  refine mB hT 1 rfl ?_
  obtain ⟨h37, eh37⟩ : ∃ z, z = 31 * h36 + ((tdM 2 (Bm 6) 1 13).toInt64) := ⟨_, rfl⟩
  refine hC.2.1 _ 0 [_] _ _ _ _ _ (show KX3_mix l D ca ad _ _ none (MW 2 (Int32.ofNat vs) wo un h37 bo ta tr ro ot Bm bk) from (by rw [eh37]; exact m_mix _)) rfl rfl (Nat.le_of_ble_eq_true rfl) rfl ?_
  refine mB hT 9 rfl ?_
  refine mNf (lv2 := [(2, .int 14), (1, .int 1), (0, .ref 0)]) (st2 := [.int 14, .int 1, .ref 0, .ref 0]) rfl rfl ?_
  refine hC.1 _ 0 [_, _] _ _ _ _ _ (m_toldOf_1_14 (n := 2) (by decide)) rfl rfl (Nat.le_of_ble_eq_true rfl) rfl ?_
  refine mB hT 1 rfl ?_
  obtain ⟨h38, eh38⟩ : ∃ z, z = 31 * h37 + ((tdM 2 (Bm 6) 1 14).toInt64) := ⟨_, rfl⟩
  refine hC.2.1 _ 0 [_] _ _ _ _ _ (show KX3_mix l D ca ad _ _ none (MW 2 (Int32.ofNat vs) wo un h38 bo ta tr ro ot Bm bk) from (by rw [eh38]; exact m_mix _)) rfl rfl (Nat.le_of_ble_eq_true rfl) rfl ?_
  refine mB hT 9 rfl ?_
  refine hC.1 _ 0 [_, _] _ _ _ _ _ (m_toldOf_1_15 (n := 2) (by decide)) rfl rfl (Nat.le_of_ble_eq_true rfl) rfl ?_
  refine mB hT 1 rfl ?_
  obtain ⟨h39, eh39⟩ : ∃ z, z = 31 * h38 + ((tdM 2 (Bm 6) 1 15).toInt64) := ⟨_, rfl⟩
  refine hC.2.1 _ 0 [_] _ _ _ _ _ (show KX3_mix l D ca ad _ _ none (MW 2 (Int32.ofNat vs) wo un h39 bo ta tr ro ot Bm bk) from (by rw [eh39]; exact m_mix _)) rfl rfl (Nat.le_of_ble_eq_true rfl) rfl ?_
  refine mB hT 9 rfl ?_
  refine mNf (lv2 := [(2, .int 16), (1, .int 1), (0, .ref 0)]) (st2 := [.int 16, .int 1, .ref 0, .ref 0]) rfl rfl ?_
  refine hC.1 _ 0 [_, _] _ _ _ _ _ (m_toldOf_1_16 (n := 2) (by decide)) rfl rfl (Nat.le_of_ble_eq_true rfl) rfl ?_
  refine mB hT 1 rfl ?_
  obtain ⟨h40, eh40⟩ : ∃ z, z = 31 * h39 + ((tdM 2 (Bm 6) 1 16).toInt64) := ⟨_, rfl⟩
  refine hC.2.1 _ 0 [_] _ _ _ _ _ (show KX3_mix l D ca ad _ _ none (MW 2 (Int32.ofNat vs) wo un h40 bo ta tr ro ot Bm bk) from (by rw [eh40]; exact m_mix _)) rfl rfl (Nat.le_of_ble_eq_true rfl) rfl ?_
  refine mB hT 9 rfl ?_
  refine hC.1 _ 0 [_, _] _ _ _ _ _ (m_toldOf_1_17 (n := 2) (by decide)) rfl rfl (Nat.le_of_ble_eq_true rfl) rfl ?_
  refine mB hT 1 rfl ?_
  obtain ⟨h41, eh41⟩ : ∃ z, z = 31 * h40 + ((tdM 2 (Bm 6) 1 17).toInt64) := ⟨_, rfl⟩
  refine hC.2.1 _ 0 [_] _ _ _ _ _ (show KX3_mix l D ca ad _ _ none (MW 2 (Int32.ofNat vs) wo un h41 bo ta tr ro ot Bm bk) from (by rw [eh41]; exact m_mix _)) rfl rfl (Nat.le_of_ble_eq_true rfl) rfl ?_
  refine mB hT 9 rfl ?_
  refine mNf (lv2 := [(2, .int 18), (1, .int 1), (0, .ref 0)]) (st2 := [.int 18, .int 1, .ref 0, .ref 0]) rfl rfl ?_
  refine hC.1 _ 0 [_, _] _ _ _ _ _ (m_toldOf_1_18 (n := 2) (by decide)) rfl rfl (Nat.le_of_ble_eq_true rfl) rfl ?_
  refine mB hT 1 rfl ?_
  obtain ⟨h42, eh42⟩ : ∃ z, z = 31 * h41 + ((tdM 2 (Bm 6) 1 18).toInt64) := ⟨_, rfl⟩
  refine hC.2.1 _ 0 [_] _ _ _ _ _ (show KX3_mix l D ca ad _ _ none (MW 2 (Int32.ofNat vs) wo un h42 bo ta tr ro ot Bm bk) from (by rw [eh42]; exact m_mix _)) rfl rfl (Nat.le_of_ble_eq_true rfl) rfl ?_
  refine mB hT 9 rfl ?_
  refine hC.1 _ 0 [_, _] _ _ _ _ _ (m_toldOf_1_19 (n := 2) (by decide)) rfl rfl (Nat.le_of_ble_eq_true rfl) rfl ?_
  refine mB hT 1 rfl ?_
  obtain ⟨h43, eh43⟩ : ∃ z, z = 31 * h42 + ((tdM 2 (Bm 6) 1 19).toInt64) := ⟨_, rfl⟩
  refine hC.2.1 _ 0 [_] _ _ _ _ _ (show KX3_mix l D ca ad _ _ none (MW 2 (Int32.ofNat vs) wo un h43 bo ta tr ro ot Bm bk) from (by rw [eh43]; exact m_mix _)) rfl rfl (Nat.le_of_ble_eq_true rfl) rfl ?_
  refine mB hT 9 rfl ?_
  refine mNf (lv2 := [(2, .int 20), (1, .int 1), (0, .ref 0)]) (st2 := [.int 20, .int 1, .ref 0, .ref 0]) rfl rfl ?_
  refine hC.1 _ 0 [_, _] _ _ _ _ _ (m_toldOf_1_20 (n := 2) (by decide)) rfl rfl (Nat.le_of_ble_eq_true rfl) rfl ?_
  refine mB hT 1 rfl ?_
  obtain ⟨h44, eh44⟩ : ∃ z, z = 31 * h43 + ((tdM 2 (Bm 6) 1 20).toInt64) := ⟨_, rfl⟩
  refine hC.2.1 _ 0 [_] _ _ _ _ _ (show KX3_mix l D ca ad _ _ none (MW 2 (Int32.ofNat vs) wo un h44 bo ta tr ro ot Bm bk) from (by rw [eh44]; exact m_mix _)) rfl rfl (Nat.le_of_ble_eq_true rfl) rfl ?_
  refine mB hT 9 rfl ?_
  refine hC.1 _ 0 [_, _] _ _ _ _ _ (m_toldOf_1_21 (n := 2) (by decide)) rfl rfl (Nat.le_of_ble_eq_true rfl) rfl ?_
  refine mB hT 1 rfl ?_
  obtain ⟨h45, eh45⟩ : ∃ z, z = 31 * h44 + ((tdM 2 (Bm 6) 1 21).toInt64) := ⟨_, rfl⟩
  refine hC.2.1 _ 0 [_] _ _ _ _ _ (show KX3_mix l D ca ad _ _ none (MW 2 (Int32.ofNat vs) wo un h45 bo ta tr ro ot Bm bk) from (by rw [eh45]; exact m_mix _)) rfl rfl (Nat.le_of_ble_eq_true rfl) rfl ?_
  refine mB hT 9 rfl ?_
  refine mNf (lv2 := [(2, .int 22), (1, .int 1), (0, .ref 0)]) (st2 := [.int 22, .int 1, .ref 0, .ref 0]) rfl rfl ?_
  refine hC.1 _ 0 [_, _] _ _ _ _ _ (m_toldOf_1_22 (n := 2) (by decide)) rfl rfl (Nat.le_of_ble_eq_true rfl) rfl ?_
  refine mB hT 1 rfl ?_
  obtain ⟨h46, eh46⟩ : ∃ z, z = 31 * h45 + ((tdM 2 (Bm 6) 1 22).toInt64) := ⟨_, rfl⟩
  refine hC.2.1 _ 0 [_] _ _ _ _ _ (show KX3_mix l D ca ad _ _ none (MW 2 (Int32.ofNat vs) wo un h46 bo ta tr ro ot Bm bk) from (by rw [eh46]; exact m_mix _)) rfl rfl (Nat.le_of_ble_eq_true rfl) rfl ?_
  refine mB hT 32 rfl ?_
  refine mNf (lv2 := [(2, .int 0), (1, .int 0), (0, .ref 0)]) (st2 := [.long ((bk 0 0).toInt64), .ref 0]) rfl rfl ?_
  obtain ⟨h47, eh47⟩ : ∃ z, z = 31 * h46 + ((bk 0 0).toInt64) := ⟨_, rfl⟩
  refine hC.2.2.1 _ 0 [_] _ _ _ _ _ (show KX3_mix l D ca ad _ _ none (MW 2 (Int32.ofNat vs) wo un h47 bo ta tr ro ot Bm bk) from (by rw [eh47]; exact m_mix _)) rfl rfl (Nat.le_of_ble_eq_true rfl) rfl ?_
  refine mB hT 16 rfl ?_
  obtain ⟨h48, eh48⟩ : ∃ z, z = 31 * h47 + ((bk 0 1).toInt64) := ⟨_, rfl⟩
  refine hC.2.2.1 _ 0 [_] _ _ _ _ _ (show KX3_mix l D ca ad _ _ none (MW 2 (Int32.ofNat vs) wo un h48 bo ta tr ro ot Bm bk) from (by rw [eh48]; exact m_mix _)) rfl rfl (Nat.le_of_ble_eq_true rfl) rfl ?_
  refine mB hT 27 rfl ?_
  refine mNf (lv2 := [(2, .int 0), (1, .int 1), (0, .ref 0)]) (st2 := [.long ((bk 1 0).toInt64), .ref 0]) rfl rfl ?_
  obtain ⟨h49, eh49⟩ : ∃ z, z = 31 * h48 + ((bk 1 0).toInt64) := ⟨_, rfl⟩
  refine hC.2.2.1 _ 0 [_] _ _ _ _ _ (show KX3_mix l D ca ad _ _ none (MW 2 (Int32.ofNat vs) wo un h49 bo ta tr ro ot Bm bk) from (by rw [eh49]; exact m_mix _)) rfl rfl (Nat.le_of_ble_eq_true rfl) rfl ?_
  refine mB hT 16 rfl ?_
  obtain ⟨h50, eh50⟩ : ∃ z, z = 31 * h49 + ((bk 1 1).toInt64) := ⟨_, rfl⟩
  refine hC.2.2.1 _ 0 [_] _ _ _ _ _ (show KX3_mix l D ca ad _ _ none (MW 2 (Int32.ofNat vs) wo un h50 bo ta tr ro ot Bm bk) from (by rw [eh50]; exact m_mix _)) rfl rfl (Nat.le_of_ble_eq_true rfl) rfl ?_
  refine mB hT 27 rfl ?_
  refine mNf (lv2 := [(2, .int 0), (1, .int 2), (0, .ref 0)]) (st2 := [.long ((bk 2 0).toInt64), .ref 0]) rfl rfl ?_
  obtain ⟨h51, eh51⟩ : ∃ z, z = 31 * h50 + ((bk 2 0).toInt64) := ⟨_, rfl⟩
  refine hC.2.2.1 _ 0 [_] _ _ _ _ _ (show KX3_mix l D ca ad _ _ none (MW 2 (Int32.ofNat vs) wo un h51 bo ta tr ro ot Bm bk) from (by rw [eh51]; exact m_mix _)) rfl rfl (Nat.le_of_ble_eq_true rfl) rfl ?_
  refine mB hT 16 rfl ?_
  obtain ⟨h52, eh52⟩ : ∃ z, z = 31 * h51 + ((bk 2 1).toInt64) := ⟨_, rfl⟩
  refine hC.2.2.1 _ 0 [_] _ _ _ _ _ (show KX3_mix l D ca ad _ _ none (MW 2 (Int32.ofNat vs) wo un h52 bo ta tr ro ot Bm bk) from (by rw [eh52]; exact m_mix _)) rfl rfl (Nat.le_of_ble_eq_true rfl) rfl ?_
  refine mB hT 27 rfl ?_
  refine mNf (lv2 := [(2, .int 0), (1, .int 3), (0, .ref 0)]) (st2 := [.long ((bk 3 0).toInt64), .ref 0]) rfl rfl ?_
  obtain ⟨h53, eh53⟩ : ∃ z, z = 31 * h52 + ((bk 3 0).toInt64) := ⟨_, rfl⟩
  refine hC.2.2.1 _ 0 [_] _ _ _ _ _ (show KX3_mix l D ca ad _ _ none (MW 2 (Int32.ofNat vs) wo un h53 bo ta tr ro ot Bm bk) from (by rw [eh53]; exact m_mix _)) rfl rfl (Nat.le_of_ble_eq_true rfl) rfl ?_
  refine mB hT 16 rfl ?_
  obtain ⟨h54, eh54⟩ : ∃ z, z = 31 * h53 + ((bk 3 1).toInt64) := ⟨_, rfl⟩
  refine hC.2.2.1 _ 0 [_] _ _ _ _ _ (show KX3_mix l D ca ad _ _ none (MW 2 (Int32.ofNat vs) wo un h54 bo ta tr ro ot Bm bk) from (by rw [eh54]; exact m_mix _)) rfl rfl (Nat.le_of_ble_eq_true rfl) rfl ?_
  refine mB hT 15 rfl ?_
  refine mNf (lv2 := [(1, .int 4), (2, .int 2), (0, .ref 0)]) (st2 := [.long ((Int32.ofNat vs).toInt64), .ref 0]) rfl rfl ?_
  obtain ⟨h55, eh55⟩ : ∃ z, z = 31 * h54 + ((Int32.ofNat vs).toInt64) := ⟨_, rfl⟩
  refine hC.2.2.2.1 _ 0 [_] _ _ _ _ _ (show KX3_mix l D ca ad _ _ none (MW 2 (Int32.ofNat vs) wo un h55 bo ta tr ro ot Bm bk) from (by rw [eh55]; exact m_mix _)) rfl rfl (Nat.le_of_ble_eq_true rfl) rfl ?_
  refine mB hT 2 rfl ?_
  refine hC.2.2.2.2.1 _ 0 [] _ _ _ _ _ (show KX3_worth l D ca ad _ _ (some (.long dt)) (MW 2 (Int32.ofNat vs) dt un h55 (boX 4 0) tt tt ro ot Bm bk) from (by rw [edt, ett]; exact m_worthE (n := 2) (by decide))) rfl rfl (Nat.le_of_ble_eq_true rfl) rfl ?_
  obtain ⟨h56, eh56⟩ : ∃ z, z = 31 * h55 + dt := ⟨_, rfl⟩
  refine hC.2.2.2.2.2 _ 0 [_] _ _ _ _ _ (show KX3_mix l D ca ad _ _ none (MW 2 (Int32.ofNat vs) dt un h56 (boX 4 0) tt tt ro ot Bm bk) from (by rw [eh56]; exact m_mix _)) rfl rfl (Nat.le_of_ble_eq_true rfl) rfl ?_
  refine mB hT 2 rfl ?_
  have eL : h56 = dgS 151 (dgL 2 (tdM 2 (Bm 6)) bk (Int32.ofNat vs) dt) := (by subst eh1 eh2 eh3 eh4 eh5 eh6 eh7 eh8 eh9 eh10 eh11 eh12 eh13 eh14 eh15 eh16 eh17 eh18 eh19 eh20 eh21 eh22 eh23 eh24 eh25 eh26 eh27 eh28 eh29 eh30 eh31 eh32 eh33 eh34 eh35 eh36 eh37 eh38 eh39 eh40 eh41 eh42 eh43 eh44 eh45 eh46 eh47 eh48 eh49 eh50 eh51 eh52 eh53 eh54 eh55 eh56; rfl)
  rw [← eL] at hR
  exact hR _ (by decide) _ _ _ rfl rfl
set_option maxRecDepth 100000 in
set_option maxHeartbeats 4000000 in
theorem m_digest_3 {vs : Nat} {wo un h : Int64} {bo : Nat → Int32} {ta tr ro ot : Nat → Int64} {Bm : Nat → Nat → Nat → Int32} {bk : Nat → Nat → Int32} : KX3_digest l D ca ad [.ref 0] (MW 3 (Int32.ofNat vs) wo un h bo ta tr ro ot Bm bk) (some (.long (dgS 151 (dgL 3 (tdM 3 (Bm 6)) bk (Int32.ofNat vs) (dtM (TnM 3 Bm 4 0)))))) (MW 3 (Int32.ofNat vs) (dtM (TnM 3 Bm 4 0)) un (dgS 151 (dgL 3 (tdM 3 (Bm 6)) bk (Int32.ofNat vs) (dtM (TnM 3 Bm 4 0)))) (boX 4 0) (TnM 3 Bm 4 0) (TnM 3 Bm 4 0) ro ot Bm bk) := by
  obtain ⟨tt, ett⟩ : ∃ z, z = (TnM 3 Bm 4 0) := ⟨_, rfl⟩
  obtain ⟨dt, edt⟩ : ∃ z, z = dtM tt := ⟨_, rfl⟩
  rw [← ett, ← edt]
  refine PX3_digest (Nat.le_of_ble_eq_true rfl) ?_
  intro G hT hC hR
  refine mB hT 18 rfl ?_
  refine mNf (lv2 := [(2, .int 0), (1, .int 0), (0, .ref 0)]) (st2 := [.int 0, .int 0, .ref 0, .ref 0]) rfl rfl ?_
  refine mWd (w2 := (MW 3 (Int32.ofNat vs) wo un 151 bo ta tr ro ot Bm bk)) rfl ?_
  refine hC.1 _ 0 [_, _] _ _ _ _ _ (m_toldOf_0_0 (n := 3) (by decide)) rfl rfl (Nat.le_of_ble_eq_true rfl) rfl ?_
  refine mB hT 1 rfl ?_
  obtain ⟨h1, eh1⟩ : ∃ z, z = 31 * 151 + ((tdM 3 (Bm 6) 0 0).toInt64) := ⟨_, rfl⟩
  refine hC.2.1 _ 0 [_] _ _ _ _ _ (show KX3_mix l D ca ad _ _ none (MW 3 (Int32.ofNat vs) wo un h1 bo ta tr ro ot Bm bk) from (by rw [eh1]; exact m_mix _)) rfl rfl (Nat.le_of_ble_eq_true rfl) rfl ?_
  refine mB hT 9 rfl ?_
  refine hC.1 _ 0 [_, _] _ _ _ _ _ (m_toldOf_0_1 (n := 3) (by decide)) rfl rfl (Nat.le_of_ble_eq_true rfl) rfl ?_
  refine mB hT 1 rfl ?_
  obtain ⟨h2, eh2⟩ : ∃ z, z = 31 * h1 + ((tdM 3 (Bm 6) 0 1).toInt64) := ⟨_, rfl⟩
  refine hC.2.1 _ 0 [_] _ _ _ _ _ (show KX3_mix l D ca ad _ _ none (MW 3 (Int32.ofNat vs) wo un h2 bo ta tr ro ot Bm bk) from (by rw [eh2]; exact m_mix _)) rfl rfl (Nat.le_of_ble_eq_true rfl) rfl ?_
  refine mB hT 9 rfl ?_
  refine mNf (lv2 := [(2, .int 2), (1, .int 0), (0, .ref 0)]) (st2 := [.int 2, .int 0, .ref 0, .ref 0]) rfl rfl ?_
  refine hC.1 _ 0 [_, _] _ _ _ _ _ (m_toldOf_0_2 (n := 3) (by decide)) rfl rfl (Nat.le_of_ble_eq_true rfl) rfl ?_
  refine mB hT 1 rfl ?_
  obtain ⟨h3, eh3⟩ : ∃ z, z = 31 * h2 + ((tdM 3 (Bm 6) 0 2).toInt64) := ⟨_, rfl⟩
  refine hC.2.1 _ 0 [_] _ _ _ _ _ (show KX3_mix l D ca ad _ _ none (MW 3 (Int32.ofNat vs) wo un h3 bo ta tr ro ot Bm bk) from (by rw [eh3]; exact m_mix _)) rfl rfl (Nat.le_of_ble_eq_true rfl) rfl ?_
  refine mB hT 9 rfl ?_
  refine hC.1 _ 0 [_, _] _ _ _ _ _ (m_toldOf_0_3 (n := 3) (by decide)) rfl rfl (Nat.le_of_ble_eq_true rfl) rfl ?_
  refine mB hT 1 rfl ?_
  obtain ⟨h4, eh4⟩ : ∃ z, z = 31 * h3 + ((tdM 3 (Bm 6) 0 3).toInt64) := ⟨_, rfl⟩
  refine hC.2.1 _ 0 [_] _ _ _ _ _ (show KX3_mix l D ca ad _ _ none (MW 3 (Int32.ofNat vs) wo un h4 bo ta tr ro ot Bm bk) from (by rw [eh4]; exact m_mix _)) rfl rfl (Nat.le_of_ble_eq_true rfl) rfl ?_
  refine mB hT 9 rfl ?_
  refine mNf (lv2 := [(2, .int 4), (1, .int 0), (0, .ref 0)]) (st2 := [.int 4, .int 0, .ref 0, .ref 0]) rfl rfl ?_
  refine hC.1 _ 0 [_, _] _ _ _ _ _ (m_toldOf_0_4 (n := 3) (by decide)) rfl rfl (Nat.le_of_ble_eq_true rfl) rfl ?_
  refine mB hT 1 rfl ?_
  obtain ⟨h5, eh5⟩ : ∃ z, z = 31 * h4 + ((tdM 3 (Bm 6) 0 4).toInt64) := ⟨_, rfl⟩
  refine hC.2.1 _ 0 [_] _ _ _ _ _ (show KX3_mix l D ca ad _ _ none (MW 3 (Int32.ofNat vs) wo un h5 bo ta tr ro ot Bm bk) from (by rw [eh5]; exact m_mix _)) rfl rfl (Nat.le_of_ble_eq_true rfl) rfl ?_
  refine mB hT 9 rfl ?_
  refine hC.1 _ 0 [_, _] _ _ _ _ _ (m_toldOf_0_5 (n := 3) (by decide)) rfl rfl (Nat.le_of_ble_eq_true rfl) rfl ?_
  refine mB hT 1 rfl ?_
  obtain ⟨h6, eh6⟩ : ∃ z, z = 31 * h5 + ((tdM 3 (Bm 6) 0 5).toInt64) := ⟨_, rfl⟩
  refine hC.2.1 _ 0 [_] _ _ _ _ _ (show KX3_mix l D ca ad _ _ none (MW 3 (Int32.ofNat vs) wo un h6 bo ta tr ro ot Bm bk) from (by rw [eh6]; exact m_mix _)) rfl rfl (Nat.le_of_ble_eq_true rfl) rfl ?_
  refine mB hT 9 rfl ?_
  refine mNf (lv2 := [(2, .int 6), (1, .int 0), (0, .ref 0)]) (st2 := [.int 6, .int 0, .ref 0, .ref 0]) rfl rfl ?_
  refine hC.1 _ 0 [_, _] _ _ _ _ _ (m_toldOf_0_6 (n := 3) (by decide)) rfl rfl (Nat.le_of_ble_eq_true rfl) rfl ?_
  refine mB hT 1 rfl ?_
  obtain ⟨h7, eh7⟩ : ∃ z, z = 31 * h6 + ((tdM 3 (Bm 6) 0 6).toInt64) := ⟨_, rfl⟩
  refine hC.2.1 _ 0 [_] _ _ _ _ _ (show KX3_mix l D ca ad _ _ none (MW 3 (Int32.ofNat vs) wo un h7 bo ta tr ro ot Bm bk) from (by rw [eh7]; exact m_mix _)) rfl rfl (Nat.le_of_ble_eq_true rfl) rfl ?_
  refine mB hT 9 rfl ?_
  refine hC.1 _ 0 [_, _] _ _ _ _ _ (m_toldOf_0_7 (n := 3) (by decide)) rfl rfl (Nat.le_of_ble_eq_true rfl) rfl ?_
  refine mB hT 1 rfl ?_
  obtain ⟨h8, eh8⟩ : ∃ z, z = 31 * h7 + ((tdM 3 (Bm 6) 0 7).toInt64) := ⟨_, rfl⟩
  refine hC.2.1 _ 0 [_] _ _ _ _ _ (show KX3_mix l D ca ad _ _ none (MW 3 (Int32.ofNat vs) wo un h8 bo ta tr ro ot Bm bk) from (by rw [eh8]; exact m_mix _)) rfl rfl (Nat.le_of_ble_eq_true rfl) rfl ?_
  refine mB hT 9 rfl ?_
  refine mNf (lv2 := [(2, .int 8), (1, .int 0), (0, .ref 0)]) (st2 := [.int 8, .int 0, .ref 0, .ref 0]) rfl rfl ?_
  refine hC.1 _ 0 [_, _] _ _ _ _ _ (m_toldOf_0_8 (n := 3) (by decide)) rfl rfl (Nat.le_of_ble_eq_true rfl) rfl ?_
  refine mB hT 1 rfl ?_
  obtain ⟨h9, eh9⟩ : ∃ z, z = 31 * h8 + ((tdM 3 (Bm 6) 0 8).toInt64) := ⟨_, rfl⟩
  refine hC.2.1 _ 0 [_] _ _ _ _ _ (show KX3_mix l D ca ad _ _ none (MW 3 (Int32.ofNat vs) wo un h9 bo ta tr ro ot Bm bk) from (by rw [eh9]; exact m_mix _)) rfl rfl (Nat.le_of_ble_eq_true rfl) rfl ?_
  refine mB hT 9 rfl ?_
  refine hC.1 _ 0 [_, _] _ _ _ _ _ (m_toldOf_0_9 (n := 3) (by decide)) rfl rfl (Nat.le_of_ble_eq_true rfl) rfl ?_
  refine mB hT 1 rfl ?_
  obtain ⟨h10, eh10⟩ : ∃ z, z = 31 * h9 + ((tdM 3 (Bm 6) 0 9).toInt64) := ⟨_, rfl⟩
  refine hC.2.1 _ 0 [_] _ _ _ _ _ (show KX3_mix l D ca ad _ _ none (MW 3 (Int32.ofNat vs) wo un h10 bo ta tr ro ot Bm bk) from (by rw [eh10]; exact m_mix _)) rfl rfl (Nat.le_of_ble_eq_true rfl) rfl ?_
  refine mB hT 9 rfl ?_
  refine mNf (lv2 := [(2, .int 10), (1, .int 0), (0, .ref 0)]) (st2 := [.int 10, .int 0, .ref 0, .ref 0]) rfl rfl ?_
  refine hC.1 _ 0 [_, _] _ _ _ _ _ (m_toldOf_0_10 (n := 3) (by decide)) rfl rfl (Nat.le_of_ble_eq_true rfl) rfl ?_
  refine mB hT 1 rfl ?_
  obtain ⟨h11, eh11⟩ : ∃ z, z = 31 * h10 + ((tdM 3 (Bm 6) 0 10).toInt64) := ⟨_, rfl⟩
  refine hC.2.1 _ 0 [_] _ _ _ _ _ (show KX3_mix l D ca ad _ _ none (MW 3 (Int32.ofNat vs) wo un h11 bo ta tr ro ot Bm bk) from (by rw [eh11]; exact m_mix _)) rfl rfl (Nat.le_of_ble_eq_true rfl) rfl ?_
  refine mB hT 9 rfl ?_
  refine hC.1 _ 0 [_, _] _ _ _ _ _ (m_toldOf_0_11 (n := 3) (by decide)) rfl rfl (Nat.le_of_ble_eq_true rfl) rfl ?_
  refine mB hT 1 rfl ?_
  obtain ⟨h12, eh12⟩ : ∃ z, z = 31 * h11 + ((tdM 3 (Bm 6) 0 11).toInt64) := ⟨_, rfl⟩
  refine hC.2.1 _ 0 [_] _ _ _ _ _ (show KX3_mix l D ca ad _ _ none (MW 3 (Int32.ofNat vs) wo un h12 bo ta tr ro ot Bm bk) from (by rw [eh12]; exact m_mix _)) rfl rfl (Nat.le_of_ble_eq_true rfl) rfl ?_
  refine mB hT 9 rfl ?_
  refine mNf (lv2 := [(2, .int 12), (1, .int 0), (0, .ref 0)]) (st2 := [.int 12, .int 0, .ref 0, .ref 0]) rfl rfl ?_
  refine hC.1 _ 0 [_, _] _ _ _ _ _ (m_toldOf_0_12 (n := 3) (by decide)) rfl rfl (Nat.le_of_ble_eq_true rfl) rfl ?_
  refine mB hT 1 rfl ?_
  obtain ⟨h13, eh13⟩ : ∃ z, z = 31 * h12 + ((tdM 3 (Bm 6) 0 12).toInt64) := ⟨_, rfl⟩
  refine hC.2.1 _ 0 [_] _ _ _ _ _ (show KX3_mix l D ca ad _ _ none (MW 3 (Int32.ofNat vs) wo un h13 bo ta tr ro ot Bm bk) from (by rw [eh13]; exact m_mix _)) rfl rfl (Nat.le_of_ble_eq_true rfl) rfl ?_
  refine mB hT 9 rfl ?_
  refine hC.1 _ 0 [_, _] _ _ _ _ _ (m_toldOf_0_13 (n := 3) (by decide)) rfl rfl (Nat.le_of_ble_eq_true rfl) rfl ?_
  refine mB hT 1 rfl ?_
  obtain ⟨h14, eh14⟩ : ∃ z, z = 31 * h13 + ((tdM 3 (Bm 6) 0 13).toInt64) := ⟨_, rfl⟩
  refine hC.2.1 _ 0 [_] _ _ _ _ _ (show KX3_mix l D ca ad _ _ none (MW 3 (Int32.ofNat vs) wo un h14 bo ta tr ro ot Bm bk) from (by rw [eh14]; exact m_mix _)) rfl rfl (Nat.le_of_ble_eq_true rfl) rfl ?_
  refine mB hT 9 rfl ?_
  refine mNf (lv2 := [(2, .int 14), (1, .int 0), (0, .ref 0)]) (st2 := [.int 14, .int 0, .ref 0, .ref 0]) rfl rfl ?_
  refine hC.1 _ 0 [_, _] _ _ _ _ _ (m_toldOf_0_14 (n := 3) (by decide)) rfl rfl (Nat.le_of_ble_eq_true rfl) rfl ?_
  refine mB hT 1 rfl ?_
  obtain ⟨h15, eh15⟩ : ∃ z, z = 31 * h14 + ((tdM 3 (Bm 6) 0 14).toInt64) := ⟨_, rfl⟩
  refine hC.2.1 _ 0 [_] _ _ _ _ _ (show KX3_mix l D ca ad _ _ none (MW 3 (Int32.ofNat vs) wo un h15 bo ta tr ro ot Bm bk) from (by rw [eh15]; exact m_mix _)) rfl rfl (Nat.le_of_ble_eq_true rfl) rfl ?_
  refine mB hT 9 rfl ?_
  refine hC.1 _ 0 [_, _] _ _ _ _ _ (m_toldOf_0_15 (n := 3) (by decide)) rfl rfl (Nat.le_of_ble_eq_true rfl) rfl ?_
  refine mB hT 1 rfl ?_
  obtain ⟨h16, eh16⟩ : ∃ z, z = 31 * h15 + ((tdM 3 (Bm 6) 0 15).toInt64) := ⟨_, rfl⟩
  refine hC.2.1 _ 0 [_] _ _ _ _ _ (show KX3_mix l D ca ad _ _ none (MW 3 (Int32.ofNat vs) wo un h16 bo ta tr ro ot Bm bk) from (by rw [eh16]; exact m_mix _)) rfl rfl (Nat.le_of_ble_eq_true rfl) rfl ?_
  refine mB hT 9 rfl ?_
  refine mNf (lv2 := [(2, .int 16), (1, .int 0), (0, .ref 0)]) (st2 := [.int 16, .int 0, .ref 0, .ref 0]) rfl rfl ?_
  refine hC.1 _ 0 [_, _] _ _ _ _ _ (m_toldOf_0_16 (n := 3) (by decide)) rfl rfl (Nat.le_of_ble_eq_true rfl) rfl ?_
  refine mB hT 1 rfl ?_
  obtain ⟨h17, eh17⟩ : ∃ z, z = 31 * h16 + ((tdM 3 (Bm 6) 0 16).toInt64) := ⟨_, rfl⟩
  refine hC.2.1 _ 0 [_] _ _ _ _ _ (show KX3_mix l D ca ad _ _ none (MW 3 (Int32.ofNat vs) wo un h17 bo ta tr ro ot Bm bk) from (by rw [eh17]; exact m_mix _)) rfl rfl (Nat.le_of_ble_eq_true rfl) rfl ?_
  refine mB hT 9 rfl ?_
  refine hC.1 _ 0 [_, _] _ _ _ _ _ (m_toldOf_0_17 (n := 3) (by decide)) rfl rfl (Nat.le_of_ble_eq_true rfl) rfl ?_
  refine mB hT 1 rfl ?_
  obtain ⟨h18, eh18⟩ : ∃ z, z = 31 * h17 + ((tdM 3 (Bm 6) 0 17).toInt64) := ⟨_, rfl⟩
  refine hC.2.1 _ 0 [_] _ _ _ _ _ (show KX3_mix l D ca ad _ _ none (MW 3 (Int32.ofNat vs) wo un h18 bo ta tr ro ot Bm bk) from (by rw [eh18]; exact m_mix _)) rfl rfl (Nat.le_of_ble_eq_true rfl) rfl ?_
  refine mB hT 9 rfl ?_
  refine mNf (lv2 := [(2, .int 18), (1, .int 0), (0, .ref 0)]) (st2 := [.int 18, .int 0, .ref 0, .ref 0]) rfl rfl ?_
  refine hC.1 _ 0 [_, _] _ _ _ _ _ (m_toldOf_0_18 (n := 3) (by decide)) rfl rfl (Nat.le_of_ble_eq_true rfl) rfl ?_
  refine mB hT 1 rfl ?_
  obtain ⟨h19, eh19⟩ : ∃ z, z = 31 * h18 + ((tdM 3 (Bm 6) 0 18).toInt64) := ⟨_, rfl⟩
  refine hC.2.1 _ 0 [_] _ _ _ _ _ (show KX3_mix l D ca ad _ _ none (MW 3 (Int32.ofNat vs) wo un h19 bo ta tr ro ot Bm bk) from (by rw [eh19]; exact m_mix _)) rfl rfl (Nat.le_of_ble_eq_true rfl) rfl ?_
  refine mB hT 9 rfl ?_
  refine hC.1 _ 0 [_, _] _ _ _ _ _ (m_toldOf_0_19 (n := 3) (by decide)) rfl rfl (Nat.le_of_ble_eq_true rfl) rfl ?_
  refine mB hT 1 rfl ?_
  obtain ⟨h20, eh20⟩ : ∃ z, z = 31 * h19 + ((tdM 3 (Bm 6) 0 19).toInt64) := ⟨_, rfl⟩
  refine hC.2.1 _ 0 [_] _ _ _ _ _ (show KX3_mix l D ca ad _ _ none (MW 3 (Int32.ofNat vs) wo un h20 bo ta tr ro ot Bm bk) from (by rw [eh20]; exact m_mix _)) rfl rfl (Nat.le_of_ble_eq_true rfl) rfl ?_
  refine mB hT 9 rfl ?_
  refine mNf (lv2 := [(2, .int 20), (1, .int 0), (0, .ref 0)]) (st2 := [.int 20, .int 0, .ref 0, .ref 0]) rfl rfl ?_
  refine hC.1 _ 0 [_, _] _ _ _ _ _ (m_toldOf_0_20 (n := 3) (by decide)) rfl rfl (Nat.le_of_ble_eq_true rfl) rfl ?_
  refine mB hT 1 rfl ?_
  obtain ⟨h21, eh21⟩ : ∃ z, z = 31 * h20 + ((tdM 3 (Bm 6) 0 20).toInt64) := ⟨_, rfl⟩
  refine hC.2.1 _ 0 [_] _ _ _ _ _ (show KX3_mix l D ca ad _ _ none (MW 3 (Int32.ofNat vs) wo un h21 bo ta tr ro ot Bm bk) from (by rw [eh21]; exact m_mix _)) rfl rfl (Nat.le_of_ble_eq_true rfl) rfl ?_
  refine mB hT 9 rfl ?_
  refine hC.1 _ 0 [_, _] _ _ _ _ _ (m_toldOf_0_21 (n := 3) (by decide)) rfl rfl (Nat.le_of_ble_eq_true rfl) rfl ?_
  refine mB hT 1 rfl ?_
  obtain ⟨h22, eh22⟩ : ∃ z, z = 31 * h21 + ((tdM 3 (Bm 6) 0 21).toInt64) := ⟨_, rfl⟩
  refine hC.2.1 _ 0 [_] _ _ _ _ _ (show KX3_mix l D ca ad _ _ none (MW 3 (Int32.ofNat vs) wo un h22 bo ta tr ro ot Bm bk) from (by rw [eh22]; exact m_mix _)) rfl rfl (Nat.le_of_ble_eq_true rfl) rfl ?_
  refine mB hT 9 rfl ?_
  refine mNf (lv2 := [(2, .int 22), (1, .int 0), (0, .ref 0)]) (st2 := [.int 22, .int 0, .ref 0, .ref 0]) rfl rfl ?_
  refine hC.1 _ 0 [_, _] _ _ _ _ _ (m_toldOf_0_22 (n := 3) (by decide)) rfl rfl (Nat.le_of_ble_eq_true rfl) rfl ?_
  refine mB hT 1 rfl ?_
  obtain ⟨h23, eh23⟩ : ∃ z, z = 31 * h22 + ((tdM 3 (Bm 6) 0 22).toInt64) := ⟨_, rfl⟩
  refine hC.2.1 _ 0 [_] _ _ _ _ _ (show KX3_mix l D ca ad _ _ none (MW 3 (Int32.ofNat vs) wo un h23 bo ta tr ro ot Bm bk) from (by rw [eh23]; exact m_mix _)) rfl rfl (Nat.le_of_ble_eq_true rfl) rfl ?_
  refine mB hT 20 rfl ?_
  refine mNf (lv2 := [(2, .int 0), (1, .int 1), (0, .ref 0)]) (st2 := [.int 0, .int 1, .ref 0, .ref 0]) rfl rfl ?_
  refine hC.1 _ 0 [_, _] _ _ _ _ _ (m_toldOf_1_0 (n := 3) (by decide)) rfl rfl (Nat.le_of_ble_eq_true rfl) rfl ?_
  refine mB hT 1 rfl ?_
  obtain ⟨h24, eh24⟩ : ∃ z, z = 31 * h23 + ((tdM 3 (Bm 6) 1 0).toInt64) := ⟨_, rfl⟩
  refine hC.2.1 _ 0 [_] _ _ _ _ _ (show KX3_mix l D ca ad _ _ none (MW 3 (Int32.ofNat vs) wo un h24 bo ta tr ro ot Bm bk) from (by rw [eh24]; exact m_mix _)) rfl rfl (Nat.le_of_ble_eq_true rfl) rfl ?_
  refine mB hT 9 rfl ?_
  refine hC.1 _ 0 [_, _] _ _ _ _ _ (m_toldOf_1_1 (n := 3) (by decide)) rfl rfl (Nat.le_of_ble_eq_true rfl) rfl ?_
  refine mB hT 1 rfl ?_
  obtain ⟨h25, eh25⟩ : ∃ z, z = 31 * h24 + ((tdM 3 (Bm 6) 1 1).toInt64) := ⟨_, rfl⟩
  refine hC.2.1 _ 0 [_] _ _ _ _ _ (show KX3_mix l D ca ad _ _ none (MW 3 (Int32.ofNat vs) wo un h25 bo ta tr ro ot Bm bk) from (by rw [eh25]; exact m_mix _)) rfl rfl (Nat.le_of_ble_eq_true rfl) rfl ?_
  refine mB hT 9 rfl ?_
  refine mNf (lv2 := [(2, .int 2), (1, .int 1), (0, .ref 0)]) (st2 := [.int 2, .int 1, .ref 0, .ref 0]) rfl rfl ?_
  refine hC.1 _ 0 [_, _] _ _ _ _ _ (m_toldOf_1_2 (n := 3) (by decide)) rfl rfl (Nat.le_of_ble_eq_true rfl) rfl ?_
  refine mB hT 1 rfl ?_
  obtain ⟨h26, eh26⟩ : ∃ z, z = 31 * h25 + ((tdM 3 (Bm 6) 1 2).toInt64) := ⟨_, rfl⟩
  refine hC.2.1 _ 0 [_] _ _ _ _ _ (show KX3_mix l D ca ad _ _ none (MW 3 (Int32.ofNat vs) wo un h26 bo ta tr ro ot Bm bk) from (by rw [eh26]; exact m_mix _)) rfl rfl (Nat.le_of_ble_eq_true rfl) rfl ?_
  refine mB hT 9 rfl ?_
  refine hC.1 _ 0 [_, _] _ _ _ _ _ (m_toldOf_1_3 (n := 3) (by decide)) rfl rfl (Nat.le_of_ble_eq_true rfl) rfl ?_
  refine mB hT 1 rfl ?_
  obtain ⟨h27, eh27⟩ : ∃ z, z = 31 * h26 + ((tdM 3 (Bm 6) 1 3).toInt64) := ⟨_, rfl⟩
  refine hC.2.1 _ 0 [_] _ _ _ _ _ (show KX3_mix l D ca ad _ _ none (MW 3 (Int32.ofNat vs) wo un h27 bo ta tr ro ot Bm bk) from (by rw [eh27]; exact m_mix _)) rfl rfl (Nat.le_of_ble_eq_true rfl) rfl ?_
  refine mB hT 9 rfl ?_
  refine mNf (lv2 := [(2, .int 4), (1, .int 1), (0, .ref 0)]) (st2 := [.int 4, .int 1, .ref 0, .ref 0]) rfl rfl ?_
  refine hC.1 _ 0 [_, _] _ _ _ _ _ (m_toldOf_1_4 (n := 3) (by decide)) rfl rfl (Nat.le_of_ble_eq_true rfl) rfl ?_
  refine mB hT 1 rfl ?_
  obtain ⟨h28, eh28⟩ : ∃ z, z = 31 * h27 + ((tdM 3 (Bm 6) 1 4).toInt64) := ⟨_, rfl⟩
  refine hC.2.1 _ 0 [_] _ _ _ _ _ (show KX3_mix l D ca ad _ _ none (MW 3 (Int32.ofNat vs) wo un h28 bo ta tr ro ot Bm bk) from (by rw [eh28]; exact m_mix _)) rfl rfl (Nat.le_of_ble_eq_true rfl) rfl ?_
  refine mB hT 9 rfl ?_
  refine hC.1 _ 0 [_, _] _ _ _ _ _ (m_toldOf_1_5 (n := 3) (by decide)) rfl rfl (Nat.le_of_ble_eq_true rfl) rfl ?_
  refine mB hT 1 rfl ?_
  obtain ⟨h29, eh29⟩ : ∃ z, z = 31 * h28 + ((tdM 3 (Bm 6) 1 5).toInt64) := ⟨_, rfl⟩
  refine hC.2.1 _ 0 [_] _ _ _ _ _ (show KX3_mix l D ca ad _ _ none (MW 3 (Int32.ofNat vs) wo un h29 bo ta tr ro ot Bm bk) from (by rw [eh29]; exact m_mix _)) rfl rfl (Nat.le_of_ble_eq_true rfl) rfl ?_
  refine mB hT 9 rfl ?_
  refine mNf (lv2 := [(2, .int 6), (1, .int 1), (0, .ref 0)]) (st2 := [.int 6, .int 1, .ref 0, .ref 0]) rfl rfl ?_
  refine hC.1 _ 0 [_, _] _ _ _ _ _ (m_toldOf_1_6 (n := 3) (by decide)) rfl rfl (Nat.le_of_ble_eq_true rfl) rfl ?_
  refine mB hT 1 rfl ?_
  obtain ⟨h30, eh30⟩ : ∃ z, z = 31 * h29 + ((tdM 3 (Bm 6) 1 6).toInt64) := ⟨_, rfl⟩
  refine hC.2.1 _ 0 [_] _ _ _ _ _ (show KX3_mix l D ca ad _ _ none (MW 3 (Int32.ofNat vs) wo un h30 bo ta tr ro ot Bm bk) from (by rw [eh30]; exact m_mix _)) rfl rfl (Nat.le_of_ble_eq_true rfl) rfl ?_
  refine mB hT 9 rfl ?_
  refine hC.1 _ 0 [_, _] _ _ _ _ _ (m_toldOf_1_7 (n := 3) (by decide)) rfl rfl (Nat.le_of_ble_eq_true rfl) rfl ?_
  refine mB hT 1 rfl ?_
  obtain ⟨h31, eh31⟩ : ∃ z, z = 31 * h30 + ((tdM 3 (Bm 6) 1 7).toInt64) := ⟨_, rfl⟩
  refine hC.2.1 _ 0 [_] _ _ _ _ _ (show KX3_mix l D ca ad _ _ none (MW 3 (Int32.ofNat vs) wo un h31 bo ta tr ro ot Bm bk) from (by rw [eh31]; exact m_mix _)) rfl rfl (Nat.le_of_ble_eq_true rfl) rfl ?_
  refine mB hT 9 rfl ?_
  refine mNf (lv2 := [(2, .int 8), (1, .int 1), (0, .ref 0)]) (st2 := [.int 8, .int 1, .ref 0, .ref 0]) rfl rfl ?_
  refine hC.1 _ 0 [_, _] _ _ _ _ _ (m_toldOf_1_8 (n := 3) (by decide)) rfl rfl (Nat.le_of_ble_eq_true rfl) rfl ?_
  refine mB hT 1 rfl ?_
  obtain ⟨h32, eh32⟩ : ∃ z, z = 31 * h31 + ((tdM 3 (Bm 6) 1 8).toInt64) := ⟨_, rfl⟩
  refine hC.2.1 _ 0 [_] _ _ _ _ _ (show KX3_mix l D ca ad _ _ none (MW 3 (Int32.ofNat vs) wo un h32 bo ta tr ro ot Bm bk) from (by rw [eh32]; exact m_mix _)) rfl rfl (Nat.le_of_ble_eq_true rfl) rfl ?_
  refine mB hT 9 rfl ?_
  refine hC.1 _ 0 [_, _] _ _ _ _ _ (m_toldOf_1_9 (n := 3) (by decide)) rfl rfl (Nat.le_of_ble_eq_true rfl) rfl ?_
  refine mB hT 1 rfl ?_
  obtain ⟨h33, eh33⟩ : ∃ z, z = 31 * h32 + ((tdM 3 (Bm 6) 1 9).toInt64) := ⟨_, rfl⟩
  refine hC.2.1 _ 0 [_] _ _ _ _ _ (show KX3_mix l D ca ad _ _ none (MW 3 (Int32.ofNat vs) wo un h33 bo ta tr ro ot Bm bk) from (by rw [eh33]; exact m_mix _)) rfl rfl (Nat.le_of_ble_eq_true rfl) rfl ?_
  refine mB hT 9 rfl ?_
  refine mNf (lv2 := [(2, .int 10), (1, .int 1), (0, .ref 0)]) (st2 := [.int 10, .int 1, .ref 0, .ref 0]) rfl rfl ?_
  refine hC.1 _ 0 [_, _] _ _ _ _ _ (m_toldOf_1_10 (n := 3) (by decide)) rfl rfl (Nat.le_of_ble_eq_true rfl) rfl ?_
  refine mB hT 1 rfl ?_
  obtain ⟨h34, eh34⟩ : ∃ z, z = 31 * h33 + ((tdM 3 (Bm 6) 1 10).toInt64) := ⟨_, rfl⟩
  refine hC.2.1 _ 0 [_] _ _ _ _ _ (show KX3_mix l D ca ad _ _ none (MW 3 (Int32.ofNat vs) wo un h34 bo ta tr ro ot Bm bk) from (by rw [eh34]; exact m_mix _)) rfl rfl (Nat.le_of_ble_eq_true rfl) rfl ?_
  refine mB hT 9 rfl ?_
  refine hC.1 _ 0 [_, _] _ _ _ _ _ (m_toldOf_1_11 (n := 3) (by decide)) rfl rfl (Nat.le_of_ble_eq_true rfl) rfl ?_
  refine mB hT 1 rfl ?_
  obtain ⟨h35, eh35⟩ : ∃ z, z = 31 * h34 + ((tdM 3 (Bm 6) 1 11).toInt64) := ⟨_, rfl⟩
  refine hC.2.1 _ 0 [_] _ _ _ _ _ (show KX3_mix l D ca ad _ _ none (MW 3 (Int32.ofNat vs) wo un h35 bo ta tr ro ot Bm bk) from (by rw [eh35]; exact m_mix _)) rfl rfl (Nat.le_of_ble_eq_true rfl) rfl ?_
  refine mB hT 9 rfl ?_
  refine mNf (lv2 := [(2, .int 12), (1, .int 1), (0, .ref 0)]) (st2 := [.int 12, .int 1, .ref 0, .ref 0]) rfl rfl ?_
  refine hC.1 _ 0 [_, _] _ _ _ _ _ (m_toldOf_1_12 (n := 3) (by decide)) rfl rfl (Nat.le_of_ble_eq_true rfl) rfl ?_
  refine mB hT 1 rfl ?_
  obtain ⟨h36, eh36⟩ : ∃ z, z = 31 * h35 + ((tdM 3 (Bm 6) 1 12).toInt64) := ⟨_, rfl⟩
  refine hC.2.1 _ 0 [_] _ _ _ _ _ (show KX3_mix l D ca ad _ _ none (MW 3 (Int32.ofNat vs) wo un h36 bo ta tr ro ot Bm bk) from (by rw [eh36]; exact m_mix _)) rfl rfl (Nat.le_of_ble_eq_true rfl) rfl ?_
  refine mB hT 9 rfl ?_
  refine hC.1 _ 0 [_, _] _ _ _ _ _ (m_toldOf_1_13 (n := 3) (by decide)) rfl rfl (Nat.le_of_ble_eq_true rfl) rfl ?_
  refine mB hT 1 rfl ?_
  obtain ⟨h37, eh37⟩ : ∃ z, z = 31 * h36 + ((tdM 3 (Bm 6) 1 13).toInt64) := ⟨_, rfl⟩
  refine hC.2.1 _ 0 [_] _ _ _ _ _ (show KX3_mix l D ca ad _ _ none (MW 3 (Int32.ofNat vs) wo un h37 bo ta tr ro ot Bm bk) from (by rw [eh37]; exact m_mix _)) rfl rfl (Nat.le_of_ble_eq_true rfl) rfl ?_
  refine mB hT 9 rfl ?_
  refine mNf (lv2 := [(2, .int 14), (1, .int 1), (0, .ref 0)]) (st2 := [.int 14, .int 1, .ref 0, .ref 0]) rfl rfl ?_
  refine hC.1 _ 0 [_, _] _ _ _ _ _ (m_toldOf_1_14 (n := 3) (by decide)) rfl rfl (Nat.le_of_ble_eq_true rfl) rfl ?_
  refine mB hT 1 rfl ?_
  obtain ⟨h38, eh38⟩ : ∃ z, z = 31 * h37 + ((tdM 3 (Bm 6) 1 14).toInt64) := ⟨_, rfl⟩
  refine hC.2.1 _ 0 [_] _ _ _ _ _ (show KX3_mix l D ca ad _ _ none (MW 3 (Int32.ofNat vs) wo un h38 bo ta tr ro ot Bm bk) from (by rw [eh38]; exact m_mix _)) rfl rfl (Nat.le_of_ble_eq_true rfl) rfl ?_
  refine mB hT 9 rfl ?_
  refine hC.1 _ 0 [_, _] _ _ _ _ _ (m_toldOf_1_15 (n := 3) (by decide)) rfl rfl (Nat.le_of_ble_eq_true rfl) rfl ?_
  refine mB hT 1 rfl ?_
  obtain ⟨h39, eh39⟩ : ∃ z, z = 31 * h38 + ((tdM 3 (Bm 6) 1 15).toInt64) := ⟨_, rfl⟩
  refine hC.2.1 _ 0 [_] _ _ _ _ _ (show KX3_mix l D ca ad _ _ none (MW 3 (Int32.ofNat vs) wo un h39 bo ta tr ro ot Bm bk) from (by rw [eh39]; exact m_mix _)) rfl rfl (Nat.le_of_ble_eq_true rfl) rfl ?_
  refine mB hT 9 rfl ?_
  refine mNf (lv2 := [(2, .int 16), (1, .int 1), (0, .ref 0)]) (st2 := [.int 16, .int 1, .ref 0, .ref 0]) rfl rfl ?_
  refine hC.1 _ 0 [_, _] _ _ _ _ _ (m_toldOf_1_16 (n := 3) (by decide)) rfl rfl (Nat.le_of_ble_eq_true rfl) rfl ?_
  refine mB hT 1 rfl ?_
  obtain ⟨h40, eh40⟩ : ∃ z, z = 31 * h39 + ((tdM 3 (Bm 6) 1 16).toInt64) := ⟨_, rfl⟩
  refine hC.2.1 _ 0 [_] _ _ _ _ _ (show KX3_mix l D ca ad _ _ none (MW 3 (Int32.ofNat vs) wo un h40 bo ta tr ro ot Bm bk) from (by rw [eh40]; exact m_mix _)) rfl rfl (Nat.le_of_ble_eq_true rfl) rfl ?_
  refine mB hT 9 rfl ?_
  refine hC.1 _ 0 [_, _] _ _ _ _ _ (m_toldOf_1_17 (n := 3) (by decide)) rfl rfl (Nat.le_of_ble_eq_true rfl) rfl ?_
  refine mB hT 1 rfl ?_
  obtain ⟨h41, eh41⟩ : ∃ z, z = 31 * h40 + ((tdM 3 (Bm 6) 1 17).toInt64) := ⟨_, rfl⟩
  refine hC.2.1 _ 0 [_] _ _ _ _ _ (show KX3_mix l D ca ad _ _ none (MW 3 (Int32.ofNat vs) wo un h41 bo ta tr ro ot Bm bk) from (by rw [eh41]; exact m_mix _)) rfl rfl (Nat.le_of_ble_eq_true rfl) rfl ?_
  refine mB hT 9 rfl ?_
  refine mNf (lv2 := [(2, .int 18), (1, .int 1), (0, .ref 0)]) (st2 := [.int 18, .int 1, .ref 0, .ref 0]) rfl rfl ?_
  refine hC.1 _ 0 [_, _] _ _ _ _ _ (m_toldOf_1_18 (n := 3) (by decide)) rfl rfl (Nat.le_of_ble_eq_true rfl) rfl ?_
  refine mB hT 1 rfl ?_
  obtain ⟨h42, eh42⟩ : ∃ z, z = 31 * h41 + ((tdM 3 (Bm 6) 1 18).toInt64) := ⟨_, rfl⟩
  refine hC.2.1 _ 0 [_] _ _ _ _ _ (show KX3_mix l D ca ad _ _ none (MW 3 (Int32.ofNat vs) wo un h42 bo ta tr ro ot Bm bk) from (by rw [eh42]; exact m_mix _)) rfl rfl (Nat.le_of_ble_eq_true rfl) rfl ?_
  refine mB hT 9 rfl ?_
  refine hC.1 _ 0 [_, _] _ _ _ _ _ (m_toldOf_1_19 (n := 3) (by decide)) rfl rfl (Nat.le_of_ble_eq_true rfl) rfl ?_
  refine mB hT 1 rfl ?_
  obtain ⟨h43, eh43⟩ : ∃ z, z = 31 * h42 + ((tdM 3 (Bm 6) 1 19).toInt64) := ⟨_, rfl⟩
  refine hC.2.1 _ 0 [_] _ _ _ _ _ (show KX3_mix l D ca ad _ _ none (MW 3 (Int32.ofNat vs) wo un h43 bo ta tr ro ot Bm bk) from (by rw [eh43]; exact m_mix _)) rfl rfl (Nat.le_of_ble_eq_true rfl) rfl ?_
  refine mB hT 9 rfl ?_
  refine mNf (lv2 := [(2, .int 20), (1, .int 1), (0, .ref 0)]) (st2 := [.int 20, .int 1, .ref 0, .ref 0]) rfl rfl ?_
  refine hC.1 _ 0 [_, _] _ _ _ _ _ (m_toldOf_1_20 (n := 3) (by decide)) rfl rfl (Nat.le_of_ble_eq_true rfl) rfl ?_
  refine mB hT 1 rfl ?_
  obtain ⟨h44, eh44⟩ : ∃ z, z = 31 * h43 + ((tdM 3 (Bm 6) 1 20).toInt64) := ⟨_, rfl⟩
  refine hC.2.1 _ 0 [_] _ _ _ _ _ (show KX3_mix l D ca ad _ _ none (MW 3 (Int32.ofNat vs) wo un h44 bo ta tr ro ot Bm bk) from (by rw [eh44]; exact m_mix _)) rfl rfl (Nat.le_of_ble_eq_true rfl) rfl ?_
  refine mB hT 9 rfl ?_
  refine hC.1 _ 0 [_, _] _ _ _ _ _ (m_toldOf_1_21 (n := 3) (by decide)) rfl rfl (Nat.le_of_ble_eq_true rfl) rfl ?_
  refine mB hT 1 rfl ?_
  obtain ⟨h45, eh45⟩ : ∃ z, z = 31 * h44 + ((tdM 3 (Bm 6) 1 21).toInt64) := ⟨_, rfl⟩
  refine hC.2.1 _ 0 [_] _ _ _ _ _ (show KX3_mix l D ca ad _ _ none (MW 3 (Int32.ofNat vs) wo un h45 bo ta tr ro ot Bm bk) from (by rw [eh45]; exact m_mix _)) rfl rfl (Nat.le_of_ble_eq_true rfl) rfl ?_
  refine mB hT 9 rfl ?_
  refine mNf (lv2 := [(2, .int 22), (1, .int 1), (0, .ref 0)]) (st2 := [.int 22, .int 1, .ref 0, .ref 0]) rfl rfl ?_
  refine hC.1 _ 0 [_, _] _ _ _ _ _ (m_toldOf_1_22 (n := 3) (by decide)) rfl rfl (Nat.le_of_ble_eq_true rfl) rfl ?_
  refine mB hT 1 rfl ?_
  obtain ⟨h46, eh46⟩ : ∃ z, z = 31 * h45 + ((tdM 3 (Bm 6) 1 22).toInt64) := ⟨_, rfl⟩
  refine hC.2.1 _ 0 [_] _ _ _ _ _ (show KX3_mix l D ca ad _ _ none (MW 3 (Int32.ofNat vs) wo un h46 bo ta tr ro ot Bm bk) from (by rw [eh46]; exact m_mix _)) rfl rfl (Nat.le_of_ble_eq_true rfl) rfl ?_
  refine mB hT 20 rfl ?_
  refine mNf (lv2 := [(2, .int 0), (1, .int 2), (0, .ref 0)]) (st2 := [.int 0, .int 2, .ref 0, .ref 0]) rfl rfl ?_
  refine hC.1 _ 0 [_, _] _ _ _ _ _ (m_toldOf_2_0 (n := 3) (by decide)) rfl rfl (Nat.le_of_ble_eq_true rfl) rfl ?_
  refine mB hT 1 rfl ?_
  obtain ⟨h47, eh47⟩ : ∃ z, z = 31 * h46 + ((tdM 3 (Bm 6) 2 0).toInt64) := ⟨_, rfl⟩
  refine hC.2.1 _ 0 [_] _ _ _ _ _ (show KX3_mix l D ca ad _ _ none (MW 3 (Int32.ofNat vs) wo un h47 bo ta tr ro ot Bm bk) from (by rw [eh47]; exact m_mix _)) rfl rfl (Nat.le_of_ble_eq_true rfl) rfl ?_
  refine mB hT 9 rfl ?_
  refine hC.1 _ 0 [_, _] _ _ _ _ _ (m_toldOf_2_1 (n := 3) (by decide)) rfl rfl (Nat.le_of_ble_eq_true rfl) rfl ?_
  refine mB hT 1 rfl ?_
  obtain ⟨h48, eh48⟩ : ∃ z, z = 31 * h47 + ((tdM 3 (Bm 6) 2 1).toInt64) := ⟨_, rfl⟩
  refine hC.2.1 _ 0 [_] _ _ _ _ _ (show KX3_mix l D ca ad _ _ none (MW 3 (Int32.ofNat vs) wo un h48 bo ta tr ro ot Bm bk) from (by rw [eh48]; exact m_mix _)) rfl rfl (Nat.le_of_ble_eq_true rfl) rfl ?_
  refine mB hT 9 rfl ?_
  refine mNf (lv2 := [(2, .int 2), (1, .int 2), (0, .ref 0)]) (st2 := [.int 2, .int 2, .ref 0, .ref 0]) rfl rfl ?_
  refine hC.1 _ 0 [_, _] _ _ _ _ _ (m_toldOf_2_2 (n := 3) (by decide)) rfl rfl (Nat.le_of_ble_eq_true rfl) rfl ?_
  refine mB hT 1 rfl ?_
  obtain ⟨h49, eh49⟩ : ∃ z, z = 31 * h48 + ((tdM 3 (Bm 6) 2 2).toInt64) := ⟨_, rfl⟩
  refine hC.2.1 _ 0 [_] _ _ _ _ _ (show KX3_mix l D ca ad _ _ none (MW 3 (Int32.ofNat vs) wo un h49 bo ta tr ro ot Bm bk) from (by rw [eh49]; exact m_mix _)) rfl rfl (Nat.le_of_ble_eq_true rfl) rfl ?_
  refine mB hT 9 rfl ?_
  refine hC.1 _ 0 [_, _] _ _ _ _ _ (m_toldOf_2_3 (n := 3) (by decide)) rfl rfl (Nat.le_of_ble_eq_true rfl) rfl ?_
  refine mB hT 1 rfl ?_
  obtain ⟨h50, eh50⟩ : ∃ z, z = 31 * h49 + ((tdM 3 (Bm 6) 2 3).toInt64) := ⟨_, rfl⟩
  refine hC.2.1 _ 0 [_] _ _ _ _ _ (show KX3_mix l D ca ad _ _ none (MW 3 (Int32.ofNat vs) wo un h50 bo ta tr ro ot Bm bk) from (by rw [eh50]; exact m_mix _)) rfl rfl (Nat.le_of_ble_eq_true rfl) rfl ?_
  refine mB hT 9 rfl ?_
  refine mNf (lv2 := [(2, .int 4), (1, .int 2), (0, .ref 0)]) (st2 := [.int 4, .int 2, .ref 0, .ref 0]) rfl rfl ?_
  refine hC.1 _ 0 [_, _] _ _ _ _ _ (m_toldOf_2_4 (n := 3) (by decide)) rfl rfl (Nat.le_of_ble_eq_true rfl) rfl ?_
  refine mB hT 1 rfl ?_
  obtain ⟨h51, eh51⟩ : ∃ z, z = 31 * h50 + ((tdM 3 (Bm 6) 2 4).toInt64) := ⟨_, rfl⟩
  refine hC.2.1 _ 0 [_] _ _ _ _ _ (show KX3_mix l D ca ad _ _ none (MW 3 (Int32.ofNat vs) wo un h51 bo ta tr ro ot Bm bk) from (by rw [eh51]; exact m_mix _)) rfl rfl (Nat.le_of_ble_eq_true rfl) rfl ?_
  refine mB hT 9 rfl ?_
  refine hC.1 _ 0 [_, _] _ _ _ _ _ (m_toldOf_2_5 (n := 3) (by decide)) rfl rfl (Nat.le_of_ble_eq_true rfl) rfl ?_
  refine mB hT 1 rfl ?_
  obtain ⟨h52, eh52⟩ : ∃ z, z = 31 * h51 + ((tdM 3 (Bm 6) 2 5).toInt64) := ⟨_, rfl⟩
  refine hC.2.1 _ 0 [_] _ _ _ _ _ (show KX3_mix l D ca ad _ _ none (MW 3 (Int32.ofNat vs) wo un h52 bo ta tr ro ot Bm bk) from (by rw [eh52]; exact m_mix _)) rfl rfl (Nat.le_of_ble_eq_true rfl) rfl ?_
  refine mB hT 9 rfl ?_
  refine mNf (lv2 := [(2, .int 6), (1, .int 2), (0, .ref 0)]) (st2 := [.int 6, .int 2, .ref 0, .ref 0]) rfl rfl ?_
  refine hC.1 _ 0 [_, _] _ _ _ _ _ (m_toldOf_2_6 (n := 3) (by decide)) rfl rfl (Nat.le_of_ble_eq_true rfl) rfl ?_
  refine mB hT 1 rfl ?_
  obtain ⟨h53, eh53⟩ : ∃ z, z = 31 * h52 + ((tdM 3 (Bm 6) 2 6).toInt64) := ⟨_, rfl⟩
  refine hC.2.1 _ 0 [_] _ _ _ _ _ (show KX3_mix l D ca ad _ _ none (MW 3 (Int32.ofNat vs) wo un h53 bo ta tr ro ot Bm bk) from (by rw [eh53]; exact m_mix _)) rfl rfl (Nat.le_of_ble_eq_true rfl) rfl ?_
  refine mB hT 9 rfl ?_
  refine hC.1 _ 0 [_, _] _ _ _ _ _ (m_toldOf_2_7 (n := 3) (by decide)) rfl rfl (Nat.le_of_ble_eq_true rfl) rfl ?_
  refine mB hT 1 rfl ?_
  obtain ⟨h54, eh54⟩ : ∃ z, z = 31 * h53 + ((tdM 3 (Bm 6) 2 7).toInt64) := ⟨_, rfl⟩
  refine hC.2.1 _ 0 [_] _ _ _ _ _ (show KX3_mix l D ca ad _ _ none (MW 3 (Int32.ofNat vs) wo un h54 bo ta tr ro ot Bm bk) from (by rw [eh54]; exact m_mix _)) rfl rfl (Nat.le_of_ble_eq_true rfl) rfl ?_
  refine mB hT 9 rfl ?_
  refine mNf (lv2 := [(2, .int 8), (1, .int 2), (0, .ref 0)]) (st2 := [.int 8, .int 2, .ref 0, .ref 0]) rfl rfl ?_
  refine hC.1 _ 0 [_, _] _ _ _ _ _ (m_toldOf_2_8 (n := 3) (by decide)) rfl rfl (Nat.le_of_ble_eq_true rfl) rfl ?_
  refine mB hT 1 rfl ?_
  obtain ⟨h55, eh55⟩ : ∃ z, z = 31 * h54 + ((tdM 3 (Bm 6) 2 8).toInt64) := ⟨_, rfl⟩
  refine hC.2.1 _ 0 [_] _ _ _ _ _ (show KX3_mix l D ca ad _ _ none (MW 3 (Int32.ofNat vs) wo un h55 bo ta tr ro ot Bm bk) from (by rw [eh55]; exact m_mix _)) rfl rfl (Nat.le_of_ble_eq_true rfl) rfl ?_
  refine mB hT 9 rfl ?_
  refine hC.1 _ 0 [_, _] _ _ _ _ _ (m_toldOf_2_9 (n := 3) (by decide)) rfl rfl (Nat.le_of_ble_eq_true rfl) rfl ?_
  refine mB hT 1 rfl ?_
  obtain ⟨h56, eh56⟩ : ∃ z, z = 31 * h55 + ((tdM 3 (Bm 6) 2 9).toInt64) := ⟨_, rfl⟩
  refine hC.2.1 _ 0 [_] _ _ _ _ _ (show KX3_mix l D ca ad _ _ none (MW 3 (Int32.ofNat vs) wo un h56 bo ta tr ro ot Bm bk) from (by rw [eh56]; exact m_mix _)) rfl rfl (Nat.le_of_ble_eq_true rfl) rfl ?_
  refine mB hT 9 rfl ?_
  refine mNf (lv2 := [(2, .int 10), (1, .int 2), (0, .ref 0)]) (st2 := [.int 10, .int 2, .ref 0, .ref 0]) rfl rfl ?_
  refine hC.1 _ 0 [_, _] _ _ _ _ _ (m_toldOf_2_10 (n := 3) (by decide)) rfl rfl (Nat.le_of_ble_eq_true rfl) rfl ?_
  refine mB hT 1 rfl ?_
  obtain ⟨h57, eh57⟩ : ∃ z, z = 31 * h56 + ((tdM 3 (Bm 6) 2 10).toInt64) := ⟨_, rfl⟩
  refine hC.2.1 _ 0 [_] _ _ _ _ _ (show KX3_mix l D ca ad _ _ none (MW 3 (Int32.ofNat vs) wo un h57 bo ta tr ro ot Bm bk) from (by rw [eh57]; exact m_mix _)) rfl rfl (Nat.le_of_ble_eq_true rfl) rfl ?_
  refine mB hT 9 rfl ?_
  refine hC.1 _ 0 [_, _] _ _ _ _ _ (m_toldOf_2_11 (n := 3) (by decide)) rfl rfl (Nat.le_of_ble_eq_true rfl) rfl ?_
  refine mB hT 1 rfl ?_
  obtain ⟨h58, eh58⟩ : ∃ z, z = 31 * h57 + ((tdM 3 (Bm 6) 2 11).toInt64) := ⟨_, rfl⟩
  refine hC.2.1 _ 0 [_] _ _ _ _ _ (show KX3_mix l D ca ad _ _ none (MW 3 (Int32.ofNat vs) wo un h58 bo ta tr ro ot Bm bk) from (by rw [eh58]; exact m_mix _)) rfl rfl (Nat.le_of_ble_eq_true rfl) rfl ?_
  refine mB hT 9 rfl ?_
  refine mNf (lv2 := [(2, .int 12), (1, .int 2), (0, .ref 0)]) (st2 := [.int 12, .int 2, .ref 0, .ref 0]) rfl rfl ?_
  refine hC.1 _ 0 [_, _] _ _ _ _ _ (m_toldOf_2_12 (n := 3) (by decide)) rfl rfl (Nat.le_of_ble_eq_true rfl) rfl ?_
  refine mB hT 1 rfl ?_
  obtain ⟨h59, eh59⟩ : ∃ z, z = 31 * h58 + ((tdM 3 (Bm 6) 2 12).toInt64) := ⟨_, rfl⟩
  refine hC.2.1 _ 0 [_] _ _ _ _ _ (show KX3_mix l D ca ad _ _ none (MW 3 (Int32.ofNat vs) wo un h59 bo ta tr ro ot Bm bk) from (by rw [eh59]; exact m_mix _)) rfl rfl (Nat.le_of_ble_eq_true rfl) rfl ?_
  refine mB hT 9 rfl ?_
  refine hC.1 _ 0 [_, _] _ _ _ _ _ (m_toldOf_2_13 (n := 3) (by decide)) rfl rfl (Nat.le_of_ble_eq_true rfl) rfl ?_
  refine mB hT 1 rfl ?_
  obtain ⟨h60, eh60⟩ : ∃ z, z = 31 * h59 + ((tdM 3 (Bm 6) 2 13).toInt64) := ⟨_, rfl⟩
  refine hC.2.1 _ 0 [_] _ _ _ _ _ (show KX3_mix l D ca ad _ _ none (MW 3 (Int32.ofNat vs) wo un h60 bo ta tr ro ot Bm bk) from (by rw [eh60]; exact m_mix _)) rfl rfl (Nat.le_of_ble_eq_true rfl) rfl ?_
  refine mB hT 9 rfl ?_
  refine mNf (lv2 := [(2, .int 14), (1, .int 2), (0, .ref 0)]) (st2 := [.int 14, .int 2, .ref 0, .ref 0]) rfl rfl ?_
  refine hC.1 _ 0 [_, _] _ _ _ _ _ (m_toldOf_2_14 (n := 3) (by decide)) rfl rfl (Nat.le_of_ble_eq_true rfl) rfl ?_
  refine mB hT 1 rfl ?_
  obtain ⟨h61, eh61⟩ : ∃ z, z = 31 * h60 + ((tdM 3 (Bm 6) 2 14).toInt64) := ⟨_, rfl⟩
  refine hC.2.1 _ 0 [_] _ _ _ _ _ (show KX3_mix l D ca ad _ _ none (MW 3 (Int32.ofNat vs) wo un h61 bo ta tr ro ot Bm bk) from (by rw [eh61]; exact m_mix _)) rfl rfl (Nat.le_of_ble_eq_true rfl) rfl ?_
  refine mB hT 9 rfl ?_
  refine hC.1 _ 0 [_, _] _ _ _ _ _ (m_toldOf_2_15 (n := 3) (by decide)) rfl rfl (Nat.le_of_ble_eq_true rfl) rfl ?_
  refine mB hT 1 rfl ?_
  obtain ⟨h62, eh62⟩ : ∃ z, z = 31 * h61 + ((tdM 3 (Bm 6) 2 15).toInt64) := ⟨_, rfl⟩
  refine hC.2.1 _ 0 [_] _ _ _ _ _ (show KX3_mix l D ca ad _ _ none (MW 3 (Int32.ofNat vs) wo un h62 bo ta tr ro ot Bm bk) from (by rw [eh62]; exact m_mix _)) rfl rfl (Nat.le_of_ble_eq_true rfl) rfl ?_
  refine mB hT 9 rfl ?_
  refine mNf (lv2 := [(2, .int 16), (1, .int 2), (0, .ref 0)]) (st2 := [.int 16, .int 2, .ref 0, .ref 0]) rfl rfl ?_
  refine hC.1 _ 0 [_, _] _ _ _ _ _ (m_toldOf_2_16 (n := 3) (by decide)) rfl rfl (Nat.le_of_ble_eq_true rfl) rfl ?_
  refine mB hT 1 rfl ?_
  obtain ⟨h63, eh63⟩ : ∃ z, z = 31 * h62 + ((tdM 3 (Bm 6) 2 16).toInt64) := ⟨_, rfl⟩
  refine hC.2.1 _ 0 [_] _ _ _ _ _ (show KX3_mix l D ca ad _ _ none (MW 3 (Int32.ofNat vs) wo un h63 bo ta tr ro ot Bm bk) from (by rw [eh63]; exact m_mix _)) rfl rfl (Nat.le_of_ble_eq_true rfl) rfl ?_
  refine mB hT 9 rfl ?_
  refine hC.1 _ 0 [_, _] _ _ _ _ _ (m_toldOf_2_17 (n := 3) (by decide)) rfl rfl (Nat.le_of_ble_eq_true rfl) rfl ?_
  refine mB hT 1 rfl ?_
  obtain ⟨h64, eh64⟩ : ∃ z, z = 31 * h63 + ((tdM 3 (Bm 6) 2 17).toInt64) := ⟨_, rfl⟩
  refine hC.2.1 _ 0 [_] _ _ _ _ _ (show KX3_mix l D ca ad _ _ none (MW 3 (Int32.ofNat vs) wo un h64 bo ta tr ro ot Bm bk) from (by rw [eh64]; exact m_mix _)) rfl rfl (Nat.le_of_ble_eq_true rfl) rfl ?_
  refine mB hT 9 rfl ?_
  refine mNf (lv2 := [(2, .int 18), (1, .int 2), (0, .ref 0)]) (st2 := [.int 18, .int 2, .ref 0, .ref 0]) rfl rfl ?_
  refine hC.1 _ 0 [_, _] _ _ _ _ _ (m_toldOf_2_18 (n := 3) (by decide)) rfl rfl (Nat.le_of_ble_eq_true rfl) rfl ?_
  refine mB hT 1 rfl ?_
  obtain ⟨h65, eh65⟩ : ∃ z, z = 31 * h64 + ((tdM 3 (Bm 6) 2 18).toInt64) := ⟨_, rfl⟩
  refine hC.2.1 _ 0 [_] _ _ _ _ _ (show KX3_mix l D ca ad _ _ none (MW 3 (Int32.ofNat vs) wo un h65 bo ta tr ro ot Bm bk) from (by rw [eh65]; exact m_mix _)) rfl rfl (Nat.le_of_ble_eq_true rfl) rfl ?_
  refine mB hT 9 rfl ?_
  refine hC.1 _ 0 [_, _] _ _ _ _ _ (m_toldOf_2_19 (n := 3) (by decide)) rfl rfl (Nat.le_of_ble_eq_true rfl) rfl ?_
  refine mB hT 1 rfl ?_
  obtain ⟨h66, eh66⟩ : ∃ z, z = 31 * h65 + ((tdM 3 (Bm 6) 2 19).toInt64) := ⟨_, rfl⟩
  refine hC.2.1 _ 0 [_] _ _ _ _ _ (show KX3_mix l D ca ad _ _ none (MW 3 (Int32.ofNat vs) wo un h66 bo ta tr ro ot Bm bk) from (by rw [eh66]; exact m_mix _)) rfl rfl (Nat.le_of_ble_eq_true rfl) rfl ?_
  refine mB hT 9 rfl ?_
  refine mNf (lv2 := [(2, .int 20), (1, .int 2), (0, .ref 0)]) (st2 := [.int 20, .int 2, .ref 0, .ref 0]) rfl rfl ?_
  refine hC.1 _ 0 [_, _] _ _ _ _ _ (m_toldOf_2_20 (n := 3) (by decide)) rfl rfl (Nat.le_of_ble_eq_true rfl) rfl ?_
  refine mB hT 1 rfl ?_
  obtain ⟨h67, eh67⟩ : ∃ z, z = 31 * h66 + ((tdM 3 (Bm 6) 2 20).toInt64) := ⟨_, rfl⟩
  refine hC.2.1 _ 0 [_] _ _ _ _ _ (show KX3_mix l D ca ad _ _ none (MW 3 (Int32.ofNat vs) wo un h67 bo ta tr ro ot Bm bk) from (by rw [eh67]; exact m_mix _)) rfl rfl (Nat.le_of_ble_eq_true rfl) rfl ?_
  refine mB hT 9 rfl ?_
  refine hC.1 _ 0 [_, _] _ _ _ _ _ (m_toldOf_2_21 (n := 3) (by decide)) rfl rfl (Nat.le_of_ble_eq_true rfl) rfl ?_
  refine mB hT 1 rfl ?_
  obtain ⟨h68, eh68⟩ : ∃ z, z = 31 * h67 + ((tdM 3 (Bm 6) 2 21).toInt64) := ⟨_, rfl⟩
  refine hC.2.1 _ 0 [_] _ _ _ _ _ (show KX3_mix l D ca ad _ _ none (MW 3 (Int32.ofNat vs) wo un h68 bo ta tr ro ot Bm bk) from (by rw [eh68]; exact m_mix _)) rfl rfl (Nat.le_of_ble_eq_true rfl) rfl ?_
  refine mB hT 9 rfl ?_
  refine mNf (lv2 := [(2, .int 22), (1, .int 2), (0, .ref 0)]) (st2 := [.int 22, .int 2, .ref 0, .ref 0]) rfl rfl ?_
  refine hC.1 _ 0 [_, _] _ _ _ _ _ (m_toldOf_2_22 (n := 3) (by decide)) rfl rfl (Nat.le_of_ble_eq_true rfl) rfl ?_
  refine mB hT 1 rfl ?_
  obtain ⟨h69, eh69⟩ : ∃ z, z = 31 * h68 + ((tdM 3 (Bm 6) 2 22).toInt64) := ⟨_, rfl⟩
  refine hC.2.1 _ 0 [_] _ _ _ _ _ (show KX3_mix l D ca ad _ _ none (MW 3 (Int32.ofNat vs) wo un h69 bo ta tr ro ot Bm bk) from (by rw [eh69]; exact m_mix _)) rfl rfl (Nat.le_of_ble_eq_true rfl) rfl ?_
  refine mB hT 32 rfl ?_
  refine mNf (lv2 := [(2, .int 0), (1, .int 0), (0, .ref 0)]) (st2 := [.long ((bk 0 0).toInt64), .ref 0]) rfl rfl ?_
  obtain ⟨h70, eh70⟩ : ∃ z, z = 31 * h69 + ((bk 0 0).toInt64) := ⟨_, rfl⟩
  refine hC.2.2.1 _ 0 [_] _ _ _ _ _ (show KX3_mix l D ca ad _ _ none (MW 3 (Int32.ofNat vs) wo un h70 bo ta tr ro ot Bm bk) from (by rw [eh70]; exact m_mix _)) rfl rfl (Nat.le_of_ble_eq_true rfl) rfl ?_
  refine mB hT 16 rfl ?_
  obtain ⟨h71, eh71⟩ : ∃ z, z = 31 * h70 + ((bk 0 1).toInt64) := ⟨_, rfl⟩
  refine hC.2.2.1 _ 0 [_] _ _ _ _ _ (show KX3_mix l D ca ad _ _ none (MW 3 (Int32.ofNat vs) wo un h71 bo ta tr ro ot Bm bk) from (by rw [eh71]; exact m_mix _)) rfl rfl (Nat.le_of_ble_eq_true rfl) rfl ?_
  refine mB hT 16 rfl ?_
  refine mNf (lv2 := [(2, .int 2), (1, .int 0), (0, .ref 0)]) (st2 := [.long ((bk 0 2).toInt64), .ref 0]) rfl rfl ?_
  obtain ⟨h72, eh72⟩ : ∃ z, z = 31 * h71 + ((bk 0 2).toInt64) := ⟨_, rfl⟩
  refine hC.2.2.1 _ 0 [_] _ _ _ _ _ (show KX3_mix l D ca ad _ _ none (MW 3 (Int32.ofNat vs) wo un h72 bo ta tr ro ot Bm bk) from (by rw [eh72]; exact m_mix _)) rfl rfl (Nat.le_of_ble_eq_true rfl) rfl ?_
  refine mB hT 27 rfl ?_
  refine mNf (lv2 := [(2, .int 0), (1, .int 1), (0, .ref 0)]) (st2 := [.long ((bk 1 0).toInt64), .ref 0]) rfl rfl ?_
  obtain ⟨h73, eh73⟩ : ∃ z, z = 31 * h72 + ((bk 1 0).toInt64) := ⟨_, rfl⟩
  refine hC.2.2.1 _ 0 [_] _ _ _ _ _ (show KX3_mix l D ca ad _ _ none (MW 3 (Int32.ofNat vs) wo un h73 bo ta tr ro ot Bm bk) from (by rw [eh73]; exact m_mix _)) rfl rfl (Nat.le_of_ble_eq_true rfl) rfl ?_
  refine mB hT 16 rfl ?_
  obtain ⟨h74, eh74⟩ : ∃ z, z = 31 * h73 + ((bk 1 1).toInt64) := ⟨_, rfl⟩
  refine hC.2.2.1 _ 0 [_] _ _ _ _ _ (show KX3_mix l D ca ad _ _ none (MW 3 (Int32.ofNat vs) wo un h74 bo ta tr ro ot Bm bk) from (by rw [eh74]; exact m_mix _)) rfl rfl (Nat.le_of_ble_eq_true rfl) rfl ?_
  refine mB hT 16 rfl ?_
  refine mNf (lv2 := [(2, .int 2), (1, .int 1), (0, .ref 0)]) (st2 := [.long ((bk 1 2).toInt64), .ref 0]) rfl rfl ?_
  obtain ⟨h75, eh75⟩ : ∃ z, z = 31 * h74 + ((bk 1 2).toInt64) := ⟨_, rfl⟩
  refine hC.2.2.1 _ 0 [_] _ _ _ _ _ (show KX3_mix l D ca ad _ _ none (MW 3 (Int32.ofNat vs) wo un h75 bo ta tr ro ot Bm bk) from (by rw [eh75]; exact m_mix _)) rfl rfl (Nat.le_of_ble_eq_true rfl) rfl ?_
  refine mB hT 27 rfl ?_
  refine mNf (lv2 := [(2, .int 0), (1, .int 2), (0, .ref 0)]) (st2 := [.long ((bk 2 0).toInt64), .ref 0]) rfl rfl ?_
  obtain ⟨h76, eh76⟩ : ∃ z, z = 31 * h75 + ((bk 2 0).toInt64) := ⟨_, rfl⟩
  refine hC.2.2.1 _ 0 [_] _ _ _ _ _ (show KX3_mix l D ca ad _ _ none (MW 3 (Int32.ofNat vs) wo un h76 bo ta tr ro ot Bm bk) from (by rw [eh76]; exact m_mix _)) rfl rfl (Nat.le_of_ble_eq_true rfl) rfl ?_
  refine mB hT 16 rfl ?_
  obtain ⟨h77, eh77⟩ : ∃ z, z = 31 * h76 + ((bk 2 1).toInt64) := ⟨_, rfl⟩
  refine hC.2.2.1 _ 0 [_] _ _ _ _ _ (show KX3_mix l D ca ad _ _ none (MW 3 (Int32.ofNat vs) wo un h77 bo ta tr ro ot Bm bk) from (by rw [eh77]; exact m_mix _)) rfl rfl (Nat.le_of_ble_eq_true rfl) rfl ?_
  refine mB hT 16 rfl ?_
  refine mNf (lv2 := [(2, .int 2), (1, .int 2), (0, .ref 0)]) (st2 := [.long ((bk 2 2).toInt64), .ref 0]) rfl rfl ?_
  obtain ⟨h78, eh78⟩ : ∃ z, z = 31 * h77 + ((bk 2 2).toInt64) := ⟨_, rfl⟩
  refine hC.2.2.1 _ 0 [_] _ _ _ _ _ (show KX3_mix l D ca ad _ _ none (MW 3 (Int32.ofNat vs) wo un h78 bo ta tr ro ot Bm bk) from (by rw [eh78]; exact m_mix _)) rfl rfl (Nat.le_of_ble_eq_true rfl) rfl ?_
  refine mB hT 27 rfl ?_
  refine mNf (lv2 := [(2, .int 0), (1, .int 3), (0, .ref 0)]) (st2 := [.long ((bk 3 0).toInt64), .ref 0]) rfl rfl ?_
  obtain ⟨h79, eh79⟩ : ∃ z, z = 31 * h78 + ((bk 3 0).toInt64) := ⟨_, rfl⟩
  refine hC.2.2.1 _ 0 [_] _ _ _ _ _ (show KX3_mix l D ca ad _ _ none (MW 3 (Int32.ofNat vs) wo un h79 bo ta tr ro ot Bm bk) from (by rw [eh79]; exact m_mix _)) rfl rfl (Nat.le_of_ble_eq_true rfl) rfl ?_
  refine mB hT 16 rfl ?_
  obtain ⟨h80, eh80⟩ : ∃ z, z = 31 * h79 + ((bk 3 1).toInt64) := ⟨_, rfl⟩
  refine hC.2.2.1 _ 0 [_] _ _ _ _ _ (show KX3_mix l D ca ad _ _ none (MW 3 (Int32.ofNat vs) wo un h80 bo ta tr ro ot Bm bk) from (by rw [eh80]; exact m_mix _)) rfl rfl (Nat.le_of_ble_eq_true rfl) rfl ?_
  refine mB hT 16 rfl ?_
  refine mNf (lv2 := [(2, .int 2), (1, .int 3), (0, .ref 0)]) (st2 := [.long ((bk 3 2).toInt64), .ref 0]) rfl rfl ?_
  obtain ⟨h81, eh81⟩ : ∃ z, z = 31 * h80 + ((bk 3 2).toInt64) := ⟨_, rfl⟩
  refine hC.2.2.1 _ 0 [_] _ _ _ _ _ (show KX3_mix l D ca ad _ _ none (MW 3 (Int32.ofNat vs) wo un h81 bo ta tr ro ot Bm bk) from (by rw [eh81]; exact m_mix _)) rfl rfl (Nat.le_of_ble_eq_true rfl) rfl ?_
  refine mB hT 15 rfl ?_
  refine mNf (lv2 := [(1, .int 4), (2, .int 3), (0, .ref 0)]) (st2 := [.long ((Int32.ofNat vs).toInt64), .ref 0]) rfl rfl ?_
  obtain ⟨h82, eh82⟩ : ∃ z, z = 31 * h81 + ((Int32.ofNat vs).toInt64) := ⟨_, rfl⟩
  refine hC.2.2.2.1 _ 0 [_] _ _ _ _ _ (show KX3_mix l D ca ad _ _ none (MW 3 (Int32.ofNat vs) wo un h82 bo ta tr ro ot Bm bk) from (by rw [eh82]; exact m_mix _)) rfl rfl (Nat.le_of_ble_eq_true rfl) rfl ?_
  refine mB hT 2 rfl ?_
  refine hC.2.2.2.2.1 _ 0 [] _ _ _ _ _ (show KX3_worth l D ca ad _ _ (some (.long dt)) (MW 3 (Int32.ofNat vs) dt un h82 (boX 4 0) tt tt ro ot Bm bk) from (by rw [edt, ett]; exact m_worthE (n := 3) (by decide))) rfl rfl (Nat.le_of_ble_eq_true rfl) rfl ?_
  obtain ⟨h83, eh83⟩ : ∃ z, z = 31 * h82 + dt := ⟨_, rfl⟩
  refine hC.2.2.2.2.2 _ 0 [_] _ _ _ _ _ (show KX3_mix l D ca ad _ _ none (MW 3 (Int32.ofNat vs) dt un h83 (boX 4 0) tt tt ro ot Bm bk) from (by rw [eh83]; exact m_mix _)) rfl rfl (Nat.le_of_ble_eq_true rfl) rfl ?_
  refine mB hT 2 rfl ?_
  have eL : h83 = dgS 151 (dgL 3 (tdM 3 (Bm 6)) bk (Int32.ofNat vs) dt) := (by subst eh1 eh2 eh3 eh4 eh5 eh6 eh7 eh8 eh9 eh10 eh11 eh12 eh13 eh14 eh15 eh16 eh17 eh18 eh19 eh20 eh21 eh22 eh23 eh24 eh25 eh26 eh27 eh28 eh29 eh30 eh31 eh32 eh33 eh34 eh35 eh36 eh37 eh38 eh39 eh40 eh41 eh42 eh43 eh44 eh45 eh46 eh47 eh48 eh49 eh50 eh51 eh52 eh53 eh54 eh55 eh56 eh57 eh58 eh59 eh60 eh61 eh62 eh63 eh64 eh65 eh66 eh67 eh68 eh69 eh70 eh71 eh72 eh73 eh74 eh75 eh76 eh77 eh78 eh79 eh80 eh81 eh82 eh83; rfl)
  rw [← eL] at hR
  exact hR _ (by decide) _ _ _ rfl rfl
set_option maxRecDepth 100000 in
set_option maxHeartbeats 4000000 in
theorem m_digest_4 {vs : Nat} {wo un h : Int64} {bo : Nat → Int32} {ta tr ro ot : Nat → Int64} {Bm : Nat → Nat → Nat → Int32} {bk : Nat → Nat → Int32} : KX3_digest l D ca ad [.ref 0] (MW 4 (Int32.ofNat vs) wo un h bo ta tr ro ot Bm bk) (some (.long (dgS 151 (dgL 4 (tdM 4 (Bm 6)) bk (Int32.ofNat vs) (dtM (TnM 4 Bm 4 0)))))) (MW 4 (Int32.ofNat vs) (dtM (TnM 4 Bm 4 0)) un (dgS 151 (dgL 4 (tdM 4 (Bm 6)) bk (Int32.ofNat vs) (dtM (TnM 4 Bm 4 0)))) (boX 4 0) (TnM 4 Bm 4 0) (TnM 4 Bm 4 0) ro ot Bm bk) := by
  obtain ⟨tt, ett⟩ : ∃ z, z = (TnM 4 Bm 4 0) := ⟨_, rfl⟩
  obtain ⟨dt, edt⟩ : ∃ z, z = dtM tt := ⟨_, rfl⟩
  rw [← ett, ← edt]
  refine PX3_digest (Nat.le_of_ble_eq_true rfl) ?_
  intro G hT hC hR
  refine mB hT 18 rfl ?_
  refine mNf (lv2 := [(2, .int 0), (1, .int 0), (0, .ref 0)]) (st2 := [.int 0, .int 0, .ref 0, .ref 0]) rfl rfl ?_
  refine mWd (w2 := (MW 4 (Int32.ofNat vs) wo un 151 bo ta tr ro ot Bm bk)) rfl ?_
  refine hC.1 _ 0 [_, _] _ _ _ _ _ (m_toldOf_0_0 (n := 4) (by decide)) rfl rfl (Nat.le_of_ble_eq_true rfl) rfl ?_
  refine mB hT 1 rfl ?_
  obtain ⟨h1, eh1⟩ : ∃ z, z = 31 * 151 + ((tdM 4 (Bm 6) 0 0).toInt64) := ⟨_, rfl⟩
  refine hC.2.1 _ 0 [_] _ _ _ _ _ (show KX3_mix l D ca ad _ _ none (MW 4 (Int32.ofNat vs) wo un h1 bo ta tr ro ot Bm bk) from (by rw [eh1]; exact m_mix _)) rfl rfl (Nat.le_of_ble_eq_true rfl) rfl ?_
  refine mB hT 9 rfl ?_
  refine hC.1 _ 0 [_, _] _ _ _ _ _ (m_toldOf_0_1 (n := 4) (by decide)) rfl rfl (Nat.le_of_ble_eq_true rfl) rfl ?_
  refine mB hT 1 rfl ?_
  obtain ⟨h2, eh2⟩ : ∃ z, z = 31 * h1 + ((tdM 4 (Bm 6) 0 1).toInt64) := ⟨_, rfl⟩
  refine hC.2.1 _ 0 [_] _ _ _ _ _ (show KX3_mix l D ca ad _ _ none (MW 4 (Int32.ofNat vs) wo un h2 bo ta tr ro ot Bm bk) from (by rw [eh2]; exact m_mix _)) rfl rfl (Nat.le_of_ble_eq_true rfl) rfl ?_
  refine mB hT 9 rfl ?_
  refine mNf (lv2 := [(2, .int 2), (1, .int 0), (0, .ref 0)]) (st2 := [.int 2, .int 0, .ref 0, .ref 0]) rfl rfl ?_
  refine hC.1 _ 0 [_, _] _ _ _ _ _ (m_toldOf_0_2 (n := 4) (by decide)) rfl rfl (Nat.le_of_ble_eq_true rfl) rfl ?_
  refine mB hT 1 rfl ?_
  obtain ⟨h3, eh3⟩ : ∃ z, z = 31 * h2 + ((tdM 4 (Bm 6) 0 2).toInt64) := ⟨_, rfl⟩
  refine hC.2.1 _ 0 [_] _ _ _ _ _ (show KX3_mix l D ca ad _ _ none (MW 4 (Int32.ofNat vs) wo un h3 bo ta tr ro ot Bm bk) from (by rw [eh3]; exact m_mix _)) rfl rfl (Nat.le_of_ble_eq_true rfl) rfl ?_
  refine mB hT 9 rfl ?_
  refine hC.1 _ 0 [_, _] _ _ _ _ _ (m_toldOf_0_3 (n := 4) (by decide)) rfl rfl (Nat.le_of_ble_eq_true rfl) rfl ?_
  refine mB hT 1 rfl ?_
  obtain ⟨h4, eh4⟩ : ∃ z, z = 31 * h3 + ((tdM 4 (Bm 6) 0 3).toInt64) := ⟨_, rfl⟩
  refine hC.2.1 _ 0 [_] _ _ _ _ _ (show KX3_mix l D ca ad _ _ none (MW 4 (Int32.ofNat vs) wo un h4 bo ta tr ro ot Bm bk) from (by rw [eh4]; exact m_mix _)) rfl rfl (Nat.le_of_ble_eq_true rfl) rfl ?_
  refine mB hT 9 rfl ?_
  refine mNf (lv2 := [(2, .int 4), (1, .int 0), (0, .ref 0)]) (st2 := [.int 4, .int 0, .ref 0, .ref 0]) rfl rfl ?_
  refine hC.1 _ 0 [_, _] _ _ _ _ _ (m_toldOf_0_4 (n := 4) (by decide)) rfl rfl (Nat.le_of_ble_eq_true rfl) rfl ?_
  refine mB hT 1 rfl ?_
  obtain ⟨h5, eh5⟩ : ∃ z, z = 31 * h4 + ((tdM 4 (Bm 6) 0 4).toInt64) := ⟨_, rfl⟩
  refine hC.2.1 _ 0 [_] _ _ _ _ _ (show KX3_mix l D ca ad _ _ none (MW 4 (Int32.ofNat vs) wo un h5 bo ta tr ro ot Bm bk) from (by rw [eh5]; exact m_mix _)) rfl rfl (Nat.le_of_ble_eq_true rfl) rfl ?_
  refine mB hT 9 rfl ?_
  refine hC.1 _ 0 [_, _] _ _ _ _ _ (m_toldOf_0_5 (n := 4) (by decide)) rfl rfl (Nat.le_of_ble_eq_true rfl) rfl ?_
  refine mB hT 1 rfl ?_
  obtain ⟨h6, eh6⟩ : ∃ z, z = 31 * h5 + ((tdM 4 (Bm 6) 0 5).toInt64) := ⟨_, rfl⟩
  refine hC.2.1 _ 0 [_] _ _ _ _ _ (show KX3_mix l D ca ad _ _ none (MW 4 (Int32.ofNat vs) wo un h6 bo ta tr ro ot Bm bk) from (by rw [eh6]; exact m_mix _)) rfl rfl (Nat.le_of_ble_eq_true rfl) rfl ?_
  refine mB hT 9 rfl ?_
  refine mNf (lv2 := [(2, .int 6), (1, .int 0), (0, .ref 0)]) (st2 := [.int 6, .int 0, .ref 0, .ref 0]) rfl rfl ?_
  refine hC.1 _ 0 [_, _] _ _ _ _ _ (m_toldOf_0_6 (n := 4) (by decide)) rfl rfl (Nat.le_of_ble_eq_true rfl) rfl ?_
  refine mB hT 1 rfl ?_
  obtain ⟨h7, eh7⟩ : ∃ z, z = 31 * h6 + ((tdM 4 (Bm 6) 0 6).toInt64) := ⟨_, rfl⟩
  refine hC.2.1 _ 0 [_] _ _ _ _ _ (show KX3_mix l D ca ad _ _ none (MW 4 (Int32.ofNat vs) wo un h7 bo ta tr ro ot Bm bk) from (by rw [eh7]; exact m_mix _)) rfl rfl (Nat.le_of_ble_eq_true rfl) rfl ?_
  refine mB hT 9 rfl ?_
  refine hC.1 _ 0 [_, _] _ _ _ _ _ (m_toldOf_0_7 (n := 4) (by decide)) rfl rfl (Nat.le_of_ble_eq_true rfl) rfl ?_
  refine mB hT 1 rfl ?_
  obtain ⟨h8, eh8⟩ : ∃ z, z = 31 * h7 + ((tdM 4 (Bm 6) 0 7).toInt64) := ⟨_, rfl⟩
  refine hC.2.1 _ 0 [_] _ _ _ _ _ (show KX3_mix l D ca ad _ _ none (MW 4 (Int32.ofNat vs) wo un h8 bo ta tr ro ot Bm bk) from (by rw [eh8]; exact m_mix _)) rfl rfl (Nat.le_of_ble_eq_true rfl) rfl ?_
  refine mB hT 9 rfl ?_
  refine mNf (lv2 := [(2, .int 8), (1, .int 0), (0, .ref 0)]) (st2 := [.int 8, .int 0, .ref 0, .ref 0]) rfl rfl ?_
  refine hC.1 _ 0 [_, _] _ _ _ _ _ (m_toldOf_0_8 (n := 4) (by decide)) rfl rfl (Nat.le_of_ble_eq_true rfl) rfl ?_
  refine mB hT 1 rfl ?_
  obtain ⟨h9, eh9⟩ : ∃ z, z = 31 * h8 + ((tdM 4 (Bm 6) 0 8).toInt64) := ⟨_, rfl⟩
  refine hC.2.1 _ 0 [_] _ _ _ _ _ (show KX3_mix l D ca ad _ _ none (MW 4 (Int32.ofNat vs) wo un h9 bo ta tr ro ot Bm bk) from (by rw [eh9]; exact m_mix _)) rfl rfl (Nat.le_of_ble_eq_true rfl) rfl ?_
  refine mB hT 9 rfl ?_
  refine hC.1 _ 0 [_, _] _ _ _ _ _ (m_toldOf_0_9 (n := 4) (by decide)) rfl rfl (Nat.le_of_ble_eq_true rfl) rfl ?_
  refine mB hT 1 rfl ?_
  obtain ⟨h10, eh10⟩ : ∃ z, z = 31 * h9 + ((tdM 4 (Bm 6) 0 9).toInt64) := ⟨_, rfl⟩
  refine hC.2.1 _ 0 [_] _ _ _ _ _ (show KX3_mix l D ca ad _ _ none (MW 4 (Int32.ofNat vs) wo un h10 bo ta tr ro ot Bm bk) from (by rw [eh10]; exact m_mix _)) rfl rfl (Nat.le_of_ble_eq_true rfl) rfl ?_
  refine mB hT 9 rfl ?_
  refine mNf (lv2 := [(2, .int 10), (1, .int 0), (0, .ref 0)]) (st2 := [.int 10, .int 0, .ref 0, .ref 0]) rfl rfl ?_
  refine hC.1 _ 0 [_, _] _ _ _ _ _ (m_toldOf_0_10 (n := 4) (by decide)) rfl rfl (Nat.le_of_ble_eq_true rfl) rfl ?_
  refine mB hT 1 rfl ?_
  obtain ⟨h11, eh11⟩ : ∃ z, z = 31 * h10 + ((tdM 4 (Bm 6) 0 10).toInt64) := ⟨_, rfl⟩
  refine hC.2.1 _ 0 [_] _ _ _ _ _ (show KX3_mix l D ca ad _ _ none (MW 4 (Int32.ofNat vs) wo un h11 bo ta tr ro ot Bm bk) from (by rw [eh11]; exact m_mix _)) rfl rfl (Nat.le_of_ble_eq_true rfl) rfl ?_
  refine mB hT 9 rfl ?_
  refine hC.1 _ 0 [_, _] _ _ _ _ _ (m_toldOf_0_11 (n := 4) (by decide)) rfl rfl (Nat.le_of_ble_eq_true rfl) rfl ?_
  refine mB hT 1 rfl ?_
  obtain ⟨h12, eh12⟩ : ∃ z, z = 31 * h11 + ((tdM 4 (Bm 6) 0 11).toInt64) := ⟨_, rfl⟩
  refine hC.2.1 _ 0 [_] _ _ _ _ _ (show KX3_mix l D ca ad _ _ none (MW 4 (Int32.ofNat vs) wo un h12 bo ta tr ro ot Bm bk) from (by rw [eh12]; exact m_mix _)) rfl rfl (Nat.le_of_ble_eq_true rfl) rfl ?_
  refine mB hT 9 rfl ?_
  refine mNf (lv2 := [(2, .int 12), (1, .int 0), (0, .ref 0)]) (st2 := [.int 12, .int 0, .ref 0, .ref 0]) rfl rfl ?_
  refine hC.1 _ 0 [_, _] _ _ _ _ _ (m_toldOf_0_12 (n := 4) (by decide)) rfl rfl (Nat.le_of_ble_eq_true rfl) rfl ?_
  refine mB hT 1 rfl ?_
  obtain ⟨h13, eh13⟩ : ∃ z, z = 31 * h12 + ((tdM 4 (Bm 6) 0 12).toInt64) := ⟨_, rfl⟩
  refine hC.2.1 _ 0 [_] _ _ _ _ _ (show KX3_mix l D ca ad _ _ none (MW 4 (Int32.ofNat vs) wo un h13 bo ta tr ro ot Bm bk) from (by rw [eh13]; exact m_mix _)) rfl rfl (Nat.le_of_ble_eq_true rfl) rfl ?_
  refine mB hT 9 rfl ?_
  refine hC.1 _ 0 [_, _] _ _ _ _ _ (m_toldOf_0_13 (n := 4) (by decide)) rfl rfl (Nat.le_of_ble_eq_true rfl) rfl ?_
  refine mB hT 1 rfl ?_
  obtain ⟨h14, eh14⟩ : ∃ z, z = 31 * h13 + ((tdM 4 (Bm 6) 0 13).toInt64) := ⟨_, rfl⟩
  refine hC.2.1 _ 0 [_] _ _ _ _ _ (show KX3_mix l D ca ad _ _ none (MW 4 (Int32.ofNat vs) wo un h14 bo ta tr ro ot Bm bk) from (by rw [eh14]; exact m_mix _)) rfl rfl (Nat.le_of_ble_eq_true rfl) rfl ?_
  refine mB hT 9 rfl ?_
  refine mNf (lv2 := [(2, .int 14), (1, .int 0), (0, .ref 0)]) (st2 := [.int 14, .int 0, .ref 0, .ref 0]) rfl rfl ?_
  refine hC.1 _ 0 [_, _] _ _ _ _ _ (m_toldOf_0_14 (n := 4) (by decide)) rfl rfl (Nat.le_of_ble_eq_true rfl) rfl ?_
  refine mB hT 1 rfl ?_
  obtain ⟨h15, eh15⟩ : ∃ z, z = 31 * h14 + ((tdM 4 (Bm 6) 0 14).toInt64) := ⟨_, rfl⟩
  refine hC.2.1 _ 0 [_] _ _ _ _ _ (show KX3_mix l D ca ad _ _ none (MW 4 (Int32.ofNat vs) wo un h15 bo ta tr ro ot Bm bk) from (by rw [eh15]; exact m_mix _)) rfl rfl (Nat.le_of_ble_eq_true rfl) rfl ?_
  refine mB hT 9 rfl ?_
  refine hC.1 _ 0 [_, _] _ _ _ _ _ (m_toldOf_0_15 (n := 4) (by decide)) rfl rfl (Nat.le_of_ble_eq_true rfl) rfl ?_
  refine mB hT 1 rfl ?_
  obtain ⟨h16, eh16⟩ : ∃ z, z = 31 * h15 + ((tdM 4 (Bm 6) 0 15).toInt64) := ⟨_, rfl⟩
  refine hC.2.1 _ 0 [_] _ _ _ _ _ (show KX3_mix l D ca ad _ _ none (MW 4 (Int32.ofNat vs) wo un h16 bo ta tr ro ot Bm bk) from (by rw [eh16]; exact m_mix _)) rfl rfl (Nat.le_of_ble_eq_true rfl) rfl ?_
  refine mB hT 9 rfl ?_
  refine mNf (lv2 := [(2, .int 16), (1, .int 0), (0, .ref 0)]) (st2 := [.int 16, .int 0, .ref 0, .ref 0]) rfl rfl ?_
  refine hC.1 _ 0 [_, _] _ _ _ _ _ (m_toldOf_0_16 (n := 4) (by decide)) rfl rfl (Nat.le_of_ble_eq_true rfl) rfl ?_
  refine mB hT 1 rfl ?_
  obtain ⟨h17, eh17⟩ : ∃ z, z = 31 * h16 + ((tdM 4 (Bm 6) 0 16).toInt64) := ⟨_, rfl⟩
  refine hC.2.1 _ 0 [_] _ _ _ _ _ (show KX3_mix l D ca ad _ _ none (MW 4 (Int32.ofNat vs) wo un h17 bo ta tr ro ot Bm bk) from (by rw [eh17]; exact m_mix _)) rfl rfl (Nat.le_of_ble_eq_true rfl) rfl ?_
  refine mB hT 9 rfl ?_
  refine hC.1 _ 0 [_, _] _ _ _ _ _ (m_toldOf_0_17 (n := 4) (by decide)) rfl rfl (Nat.le_of_ble_eq_true rfl) rfl ?_
  refine mB hT 1 rfl ?_
  obtain ⟨h18, eh18⟩ : ∃ z, z = 31 * h17 + ((tdM 4 (Bm 6) 0 17).toInt64) := ⟨_, rfl⟩
  refine hC.2.1 _ 0 [_] _ _ _ _ _ (show KX3_mix l D ca ad _ _ none (MW 4 (Int32.ofNat vs) wo un h18 bo ta tr ro ot Bm bk) from (by rw [eh18]; exact m_mix _)) rfl rfl (Nat.le_of_ble_eq_true rfl) rfl ?_
  refine mB hT 9 rfl ?_
  refine mNf (lv2 := [(2, .int 18), (1, .int 0), (0, .ref 0)]) (st2 := [.int 18, .int 0, .ref 0, .ref 0]) rfl rfl ?_
  refine hC.1 _ 0 [_, _] _ _ _ _ _ (m_toldOf_0_18 (n := 4) (by decide)) rfl rfl (Nat.le_of_ble_eq_true rfl) rfl ?_
  refine mB hT 1 rfl ?_
  obtain ⟨h19, eh19⟩ : ∃ z, z = 31 * h18 + ((tdM 4 (Bm 6) 0 18).toInt64) := ⟨_, rfl⟩
  refine hC.2.1 _ 0 [_] _ _ _ _ _ (show KX3_mix l D ca ad _ _ none (MW 4 (Int32.ofNat vs) wo un h19 bo ta tr ro ot Bm bk) from (by rw [eh19]; exact m_mix _)) rfl rfl (Nat.le_of_ble_eq_true rfl) rfl ?_
  refine mB hT 9 rfl ?_
  refine hC.1 _ 0 [_, _] _ _ _ _ _ (m_toldOf_0_19 (n := 4) (by decide)) rfl rfl (Nat.le_of_ble_eq_true rfl) rfl ?_
  refine mB hT 1 rfl ?_
  obtain ⟨h20, eh20⟩ : ∃ z, z = 31 * h19 + ((tdM 4 (Bm 6) 0 19).toInt64) := ⟨_, rfl⟩
  refine hC.2.1 _ 0 [_] _ _ _ _ _ (show KX3_mix l D ca ad _ _ none (MW 4 (Int32.ofNat vs) wo un h20 bo ta tr ro ot Bm bk) from (by rw [eh20]; exact m_mix _)) rfl rfl (Nat.le_of_ble_eq_true rfl) rfl ?_
  refine mB hT 9 rfl ?_
  refine mNf (lv2 := [(2, .int 20), (1, .int 0), (0, .ref 0)]) (st2 := [.int 20, .int 0, .ref 0, .ref 0]) rfl rfl ?_
  refine hC.1 _ 0 [_, _] _ _ _ _ _ (m_toldOf_0_20 (n := 4) (by decide)) rfl rfl (Nat.le_of_ble_eq_true rfl) rfl ?_
  refine mB hT 1 rfl ?_
  obtain ⟨h21, eh21⟩ : ∃ z, z = 31 * h20 + ((tdM 4 (Bm 6) 0 20).toInt64) := ⟨_, rfl⟩
  refine hC.2.1 _ 0 [_] _ _ _ _ _ (show KX3_mix l D ca ad _ _ none (MW 4 (Int32.ofNat vs) wo un h21 bo ta tr ro ot Bm bk) from (by rw [eh21]; exact m_mix _)) rfl rfl (Nat.le_of_ble_eq_true rfl) rfl ?_
  refine mB hT 9 rfl ?_
  refine hC.1 _ 0 [_, _] _ _ _ _ _ (m_toldOf_0_21 (n := 4) (by decide)) rfl rfl (Nat.le_of_ble_eq_true rfl) rfl ?_
  refine mB hT 1 rfl ?_
  obtain ⟨h22, eh22⟩ : ∃ z, z = 31 * h21 + ((tdM 4 (Bm 6) 0 21).toInt64) := ⟨_, rfl⟩
  refine hC.2.1 _ 0 [_] _ _ _ _ _ (show KX3_mix l D ca ad _ _ none (MW 4 (Int32.ofNat vs) wo un h22 bo ta tr ro ot Bm bk) from (by rw [eh22]; exact m_mix _)) rfl rfl (Nat.le_of_ble_eq_true rfl) rfl ?_
  refine mB hT 9 rfl ?_
  refine mNf (lv2 := [(2, .int 22), (1, .int 0), (0, .ref 0)]) (st2 := [.int 22, .int 0, .ref 0, .ref 0]) rfl rfl ?_
  refine hC.1 _ 0 [_, _] _ _ _ _ _ (m_toldOf_0_22 (n := 4) (by decide)) rfl rfl (Nat.le_of_ble_eq_true rfl) rfl ?_
  refine mB hT 1 rfl ?_
  obtain ⟨h23, eh23⟩ : ∃ z, z = 31 * h22 + ((tdM 4 (Bm 6) 0 22).toInt64) := ⟨_, rfl⟩
  refine hC.2.1 _ 0 [_] _ _ _ _ _ (show KX3_mix l D ca ad _ _ none (MW 4 (Int32.ofNat vs) wo un h23 bo ta tr ro ot Bm bk) from (by rw [eh23]; exact m_mix _)) rfl rfl (Nat.le_of_ble_eq_true rfl) rfl ?_
  refine mB hT 20 rfl ?_
  refine mNf (lv2 := [(2, .int 0), (1, .int 1), (0, .ref 0)]) (st2 := [.int 0, .int 1, .ref 0, .ref 0]) rfl rfl ?_
  refine hC.1 _ 0 [_, _] _ _ _ _ _ (m_toldOf_1_0 (n := 4) (by decide)) rfl rfl (Nat.le_of_ble_eq_true rfl) rfl ?_
  refine mB hT 1 rfl ?_
  obtain ⟨h24, eh24⟩ : ∃ z, z = 31 * h23 + ((tdM 4 (Bm 6) 1 0).toInt64) := ⟨_, rfl⟩
  refine hC.2.1 _ 0 [_] _ _ _ _ _ (show KX3_mix l D ca ad _ _ none (MW 4 (Int32.ofNat vs) wo un h24 bo ta tr ro ot Bm bk) from (by rw [eh24]; exact m_mix _)) rfl rfl (Nat.le_of_ble_eq_true rfl) rfl ?_
  refine mB hT 9 rfl ?_
  refine hC.1 _ 0 [_, _] _ _ _ _ _ (m_toldOf_1_1 (n := 4) (by decide)) rfl rfl (Nat.le_of_ble_eq_true rfl) rfl ?_
  refine mB hT 1 rfl ?_
  obtain ⟨h25, eh25⟩ : ∃ z, z = 31 * h24 + ((tdM 4 (Bm 6) 1 1).toInt64) := ⟨_, rfl⟩
  refine hC.2.1 _ 0 [_] _ _ _ _ _ (show KX3_mix l D ca ad _ _ none (MW 4 (Int32.ofNat vs) wo un h25 bo ta tr ro ot Bm bk) from (by rw [eh25]; exact m_mix _)) rfl rfl (Nat.le_of_ble_eq_true rfl) rfl ?_
  refine mB hT 9 rfl ?_
  refine mNf (lv2 := [(2, .int 2), (1, .int 1), (0, .ref 0)]) (st2 := [.int 2, .int 1, .ref 0, .ref 0]) rfl rfl ?_
  refine hC.1 _ 0 [_, _] _ _ _ _ _ (m_toldOf_1_2 (n := 4) (by decide)) rfl rfl (Nat.le_of_ble_eq_true rfl) rfl ?_
  refine mB hT 1 rfl ?_
  obtain ⟨h26, eh26⟩ : ∃ z, z = 31 * h25 + ((tdM 4 (Bm 6) 1 2).toInt64) := ⟨_, rfl⟩
  refine hC.2.1 _ 0 [_] _ _ _ _ _ (show KX3_mix l D ca ad _ _ none (MW 4 (Int32.ofNat vs) wo un h26 bo ta tr ro ot Bm bk) from (by rw [eh26]; exact m_mix _)) rfl rfl (Nat.le_of_ble_eq_true rfl) rfl ?_
  refine mB hT 9 rfl ?_
  refine hC.1 _ 0 [_, _] _ _ _ _ _ (m_toldOf_1_3 (n := 4) (by decide)) rfl rfl (Nat.le_of_ble_eq_true rfl) rfl ?_
  refine mB hT 1 rfl ?_
  obtain ⟨h27, eh27⟩ : ∃ z, z = 31 * h26 + ((tdM 4 (Bm 6) 1 3).toInt64) := ⟨_, rfl⟩
  refine hC.2.1 _ 0 [_] _ _ _ _ _ (show KX3_mix l D ca ad _ _ none (MW 4 (Int32.ofNat vs) wo un h27 bo ta tr ro ot Bm bk) from (by rw [eh27]; exact m_mix _)) rfl rfl (Nat.le_of_ble_eq_true rfl) rfl ?_
  refine mB hT 9 rfl ?_
  refine mNf (lv2 := [(2, .int 4), (1, .int 1), (0, .ref 0)]) (st2 := [.int 4, .int 1, .ref 0, .ref 0]) rfl rfl ?_
  refine hC.1 _ 0 [_, _] _ _ _ _ _ (m_toldOf_1_4 (n := 4) (by decide)) rfl rfl (Nat.le_of_ble_eq_true rfl) rfl ?_
  refine mB hT 1 rfl ?_
  obtain ⟨h28, eh28⟩ : ∃ z, z = 31 * h27 + ((tdM 4 (Bm 6) 1 4).toInt64) := ⟨_, rfl⟩
  refine hC.2.1 _ 0 [_] _ _ _ _ _ (show KX3_mix l D ca ad _ _ none (MW 4 (Int32.ofNat vs) wo un h28 bo ta tr ro ot Bm bk) from (by rw [eh28]; exact m_mix _)) rfl rfl (Nat.le_of_ble_eq_true rfl) rfl ?_
  refine mB hT 9 rfl ?_
  refine hC.1 _ 0 [_, _] _ _ _ _ _ (m_toldOf_1_5 (n := 4) (by decide)) rfl rfl (Nat.le_of_ble_eq_true rfl) rfl ?_
  refine mB hT 1 rfl ?_
  obtain ⟨h29, eh29⟩ : ∃ z, z = 31 * h28 + ((tdM 4 (Bm 6) 1 5).toInt64) := ⟨_, rfl⟩
  refine hC.2.1 _ 0 [_] _ _ _ _ _ (show KX3_mix l D ca ad _ _ none (MW 4 (Int32.ofNat vs) wo un h29 bo ta tr ro ot Bm bk) from (by rw [eh29]; exact m_mix _)) rfl rfl (Nat.le_of_ble_eq_true rfl) rfl ?_
  refine mB hT 9 rfl ?_
  refine mNf (lv2 := [(2, .int 6), (1, .int 1), (0, .ref 0)]) (st2 := [.int 6, .int 1, .ref 0, .ref 0]) rfl rfl ?_
  refine hC.1 _ 0 [_, _] _ _ _ _ _ (m_toldOf_1_6 (n := 4) (by decide)) rfl rfl (Nat.le_of_ble_eq_true rfl) rfl ?_
  refine mB hT 1 rfl ?_
  obtain ⟨h30, eh30⟩ : ∃ z, z = 31 * h29 + ((tdM 4 (Bm 6) 1 6).toInt64) := ⟨_, rfl⟩
  refine hC.2.1 _ 0 [_] _ _ _ _ _ (show KX3_mix l D ca ad _ _ none (MW 4 (Int32.ofNat vs) wo un h30 bo ta tr ro ot Bm bk) from (by rw [eh30]; exact m_mix _)) rfl rfl (Nat.le_of_ble_eq_true rfl) rfl ?_
  refine mB hT 9 rfl ?_
  refine hC.1 _ 0 [_, _] _ _ _ _ _ (m_toldOf_1_7 (n := 4) (by decide)) rfl rfl (Nat.le_of_ble_eq_true rfl) rfl ?_
  refine mB hT 1 rfl ?_
  obtain ⟨h31, eh31⟩ : ∃ z, z = 31 * h30 + ((tdM 4 (Bm 6) 1 7).toInt64) := ⟨_, rfl⟩
  refine hC.2.1 _ 0 [_] _ _ _ _ _ (show KX3_mix l D ca ad _ _ none (MW 4 (Int32.ofNat vs) wo un h31 bo ta tr ro ot Bm bk) from (by rw [eh31]; exact m_mix _)) rfl rfl (Nat.le_of_ble_eq_true rfl) rfl ?_
  refine mB hT 9 rfl ?_
  refine mNf (lv2 := [(2, .int 8), (1, .int 1), (0, .ref 0)]) (st2 := [.int 8, .int 1, .ref 0, .ref 0]) rfl rfl ?_
  refine hC.1 _ 0 [_, _] _ _ _ _ _ (m_toldOf_1_8 (n := 4) (by decide)) rfl rfl (Nat.le_of_ble_eq_true rfl) rfl ?_
  refine mB hT 1 rfl ?_
  obtain ⟨h32, eh32⟩ : ∃ z, z = 31 * h31 + ((tdM 4 (Bm 6) 1 8).toInt64) := ⟨_, rfl⟩
  refine hC.2.1 _ 0 [_] _ _ _ _ _ (show KX3_mix l D ca ad _ _ none (MW 4 (Int32.ofNat vs) wo un h32 bo ta tr ro ot Bm bk) from (by rw [eh32]; exact m_mix _)) rfl rfl (Nat.le_of_ble_eq_true rfl) rfl ?_
  refine mB hT 9 rfl ?_
  refine hC.1 _ 0 [_, _] _ _ _ _ _ (m_toldOf_1_9 (n := 4) (by decide)) rfl rfl (Nat.le_of_ble_eq_true rfl) rfl ?_
  refine mB hT 1 rfl ?_
  obtain ⟨h33, eh33⟩ : ∃ z, z = 31 * h32 + ((tdM 4 (Bm 6) 1 9).toInt64) := ⟨_, rfl⟩
  refine hC.2.1 _ 0 [_] _ _ _ _ _ (show KX3_mix l D ca ad _ _ none (MW 4 (Int32.ofNat vs) wo un h33 bo ta tr ro ot Bm bk) from (by rw [eh33]; exact m_mix _)) rfl rfl (Nat.le_of_ble_eq_true rfl) rfl ?_
  refine mB hT 9 rfl ?_
  refine mNf (lv2 := [(2, .int 10), (1, .int 1), (0, .ref 0)]) (st2 := [.int 10, .int 1, .ref 0, .ref 0]) rfl rfl ?_
  refine hC.1 _ 0 [_, _] _ _ _ _ _ (m_toldOf_1_10 (n := 4) (by decide)) rfl rfl (Nat.le_of_ble_eq_true rfl) rfl ?_
  refine mB hT 1 rfl ?_
  obtain ⟨h34, eh34⟩ : ∃ z, z = 31 * h33 + ((tdM 4 (Bm 6) 1 10).toInt64) := ⟨_, rfl⟩
  refine hC.2.1 _ 0 [_] _ _ _ _ _ (show KX3_mix l D ca ad _ _ none (MW 4 (Int32.ofNat vs) wo un h34 bo ta tr ro ot Bm bk) from (by rw [eh34]; exact m_mix _)) rfl rfl (Nat.le_of_ble_eq_true rfl) rfl ?_
  refine mB hT 9 rfl ?_
  refine hC.1 _ 0 [_, _] _ _ _ _ _ (m_toldOf_1_11 (n := 4) (by decide)) rfl rfl (Nat.le_of_ble_eq_true rfl) rfl ?_
  refine mB hT 1 rfl ?_
  obtain ⟨h35, eh35⟩ : ∃ z, z = 31 * h34 + ((tdM 4 (Bm 6) 1 11).toInt64) := ⟨_, rfl⟩
  refine hC.2.1 _ 0 [_] _ _ _ _ _ (show KX3_mix l D ca ad _ _ none (MW 4 (Int32.ofNat vs) wo un h35 bo ta tr ro ot Bm bk) from (by rw [eh35]; exact m_mix _)) rfl rfl (Nat.le_of_ble_eq_true rfl) rfl ?_
  refine mB hT 9 rfl ?_
  refine mNf (lv2 := [(2, .int 12), (1, .int 1), (0, .ref 0)]) (st2 := [.int 12, .int 1, .ref 0, .ref 0]) rfl rfl ?_
  refine hC.1 _ 0 [_, _] _ _ _ _ _ (m_toldOf_1_12 (n := 4) (by decide)) rfl rfl (Nat.le_of_ble_eq_true rfl) rfl ?_
  refine mB hT 1 rfl ?_
  obtain ⟨h36, eh36⟩ : ∃ z, z = 31 * h35 + ((tdM 4 (Bm 6) 1 12).toInt64) := ⟨_, rfl⟩
  refine hC.2.1 _ 0 [_] _ _ _ _ _ (show KX3_mix l D ca ad _ _ none (MW 4 (Int32.ofNat vs) wo un h36 bo ta tr ro ot Bm bk) from (by rw [eh36]; exact m_mix _)) rfl rfl (Nat.le_of_ble_eq_true rfl) rfl ?_
  refine mB hT 9 rfl ?_
  refine hC.1 _ 0 [_, _] _ _ _ _ _ (m_toldOf_1_13 (n := 4) (by decide)) rfl rfl (Nat.le_of_ble_eq_true rfl) rfl ?_
  refine mB hT 1 rfl ?_
  obtain ⟨h37, eh37⟩ : ∃ z, z = 31 * h36 + ((tdM 4 (Bm 6) 1 13).toInt64) := ⟨_, rfl⟩
  refine hC.2.1 _ 0 [_] _ _ _ _ _ (show KX3_mix l D ca ad _ _ none (MW 4 (Int32.ofNat vs) wo un h37 bo ta tr ro ot Bm bk) from (by rw [eh37]; exact m_mix _)) rfl rfl (Nat.le_of_ble_eq_true rfl) rfl ?_
  refine mB hT 9 rfl ?_
  refine mNf (lv2 := [(2, .int 14), (1, .int 1), (0, .ref 0)]) (st2 := [.int 14, .int 1, .ref 0, .ref 0]) rfl rfl ?_
  refine hC.1 _ 0 [_, _] _ _ _ _ _ (m_toldOf_1_14 (n := 4) (by decide)) rfl rfl (Nat.le_of_ble_eq_true rfl) rfl ?_
  refine mB hT 1 rfl ?_
  obtain ⟨h38, eh38⟩ : ∃ z, z = 31 * h37 + ((tdM 4 (Bm 6) 1 14).toInt64) := ⟨_, rfl⟩
  refine hC.2.1 _ 0 [_] _ _ _ _ _ (show KX3_mix l D ca ad _ _ none (MW 4 (Int32.ofNat vs) wo un h38 bo ta tr ro ot Bm bk) from (by rw [eh38]; exact m_mix _)) rfl rfl (Nat.le_of_ble_eq_true rfl) rfl ?_
  refine mB hT 9 rfl ?_
  refine hC.1 _ 0 [_, _] _ _ _ _ _ (m_toldOf_1_15 (n := 4) (by decide)) rfl rfl (Nat.le_of_ble_eq_true rfl) rfl ?_
  refine mB hT 1 rfl ?_
  obtain ⟨h39, eh39⟩ : ∃ z, z = 31 * h38 + ((tdM 4 (Bm 6) 1 15).toInt64) := ⟨_, rfl⟩
  refine hC.2.1 _ 0 [_] _ _ _ _ _ (show KX3_mix l D ca ad _ _ none (MW 4 (Int32.ofNat vs) wo un h39 bo ta tr ro ot Bm bk) from (by rw [eh39]; exact m_mix _)) rfl rfl (Nat.le_of_ble_eq_true rfl) rfl ?_
  refine mB hT 9 rfl ?_
  refine mNf (lv2 := [(2, .int 16), (1, .int 1), (0, .ref 0)]) (st2 := [.int 16, .int 1, .ref 0, .ref 0]) rfl rfl ?_
  refine hC.1 _ 0 [_, _] _ _ _ _ _ (m_toldOf_1_16 (n := 4) (by decide)) rfl rfl (Nat.le_of_ble_eq_true rfl) rfl ?_
  refine mB hT 1 rfl ?_
  obtain ⟨h40, eh40⟩ : ∃ z, z = 31 * h39 + ((tdM 4 (Bm 6) 1 16).toInt64) := ⟨_, rfl⟩
  refine hC.2.1 _ 0 [_] _ _ _ _ _ (show KX3_mix l D ca ad _ _ none (MW 4 (Int32.ofNat vs) wo un h40 bo ta tr ro ot Bm bk) from (by rw [eh40]; exact m_mix _)) rfl rfl (Nat.le_of_ble_eq_true rfl) rfl ?_
  refine mB hT 9 rfl ?_
  refine hC.1 _ 0 [_, _] _ _ _ _ _ (m_toldOf_1_17 (n := 4) (by decide)) rfl rfl (Nat.le_of_ble_eq_true rfl) rfl ?_
  refine mB hT 1 rfl ?_
  obtain ⟨h41, eh41⟩ : ∃ z, z = 31 * h40 + ((tdM 4 (Bm 6) 1 17).toInt64) := ⟨_, rfl⟩
  refine hC.2.1 _ 0 [_] _ _ _ _ _ (show KX3_mix l D ca ad _ _ none (MW 4 (Int32.ofNat vs) wo un h41 bo ta tr ro ot Bm bk) from (by rw [eh41]; exact m_mix _)) rfl rfl (Nat.le_of_ble_eq_true rfl) rfl ?_
  refine mB hT 9 rfl ?_
  refine mNf (lv2 := [(2, .int 18), (1, .int 1), (0, .ref 0)]) (st2 := [.int 18, .int 1, .ref 0, .ref 0]) rfl rfl ?_
  refine hC.1 _ 0 [_, _] _ _ _ _ _ (m_toldOf_1_18 (n := 4) (by decide)) rfl rfl (Nat.le_of_ble_eq_true rfl) rfl ?_
  refine mB hT 1 rfl ?_
  obtain ⟨h42, eh42⟩ : ∃ z, z = 31 * h41 + ((tdM 4 (Bm 6) 1 18).toInt64) := ⟨_, rfl⟩
  refine hC.2.1 _ 0 [_] _ _ _ _ _ (show KX3_mix l D ca ad _ _ none (MW 4 (Int32.ofNat vs) wo un h42 bo ta tr ro ot Bm bk) from (by rw [eh42]; exact m_mix _)) rfl rfl (Nat.le_of_ble_eq_true rfl) rfl ?_
  refine mB hT 9 rfl ?_
  refine hC.1 _ 0 [_, _] _ _ _ _ _ (m_toldOf_1_19 (n := 4) (by decide)) rfl rfl (Nat.le_of_ble_eq_true rfl) rfl ?_
  refine mB hT 1 rfl ?_
  obtain ⟨h43, eh43⟩ : ∃ z, z = 31 * h42 + ((tdM 4 (Bm 6) 1 19).toInt64) := ⟨_, rfl⟩
  refine hC.2.1 _ 0 [_] _ _ _ _ _ (show KX3_mix l D ca ad _ _ none (MW 4 (Int32.ofNat vs) wo un h43 bo ta tr ro ot Bm bk) from (by rw [eh43]; exact m_mix _)) rfl rfl (Nat.le_of_ble_eq_true rfl) rfl ?_
  refine mB hT 9 rfl ?_
  refine mNf (lv2 := [(2, .int 20), (1, .int 1), (0, .ref 0)]) (st2 := [.int 20, .int 1, .ref 0, .ref 0]) rfl rfl ?_
  refine hC.1 _ 0 [_, _] _ _ _ _ _ (m_toldOf_1_20 (n := 4) (by decide)) rfl rfl (Nat.le_of_ble_eq_true rfl) rfl ?_
  refine mB hT 1 rfl ?_
  obtain ⟨h44, eh44⟩ : ∃ z, z = 31 * h43 + ((tdM 4 (Bm 6) 1 20).toInt64) := ⟨_, rfl⟩
  refine hC.2.1 _ 0 [_] _ _ _ _ _ (show KX3_mix l D ca ad _ _ none (MW 4 (Int32.ofNat vs) wo un h44 bo ta tr ro ot Bm bk) from (by rw [eh44]; exact m_mix _)) rfl rfl (Nat.le_of_ble_eq_true rfl) rfl ?_
  refine mB hT 9 rfl ?_
  refine hC.1 _ 0 [_, _] _ _ _ _ _ (m_toldOf_1_21 (n := 4) (by decide)) rfl rfl (Nat.le_of_ble_eq_true rfl) rfl ?_
  refine mB hT 1 rfl ?_
  obtain ⟨h45, eh45⟩ : ∃ z, z = 31 * h44 + ((tdM 4 (Bm 6) 1 21).toInt64) := ⟨_, rfl⟩
  refine hC.2.1 _ 0 [_] _ _ _ _ _ (show KX3_mix l D ca ad _ _ none (MW 4 (Int32.ofNat vs) wo un h45 bo ta tr ro ot Bm bk) from (by rw [eh45]; exact m_mix _)) rfl rfl (Nat.le_of_ble_eq_true rfl) rfl ?_
  refine mB hT 9 rfl ?_
  refine mNf (lv2 := [(2, .int 22), (1, .int 1), (0, .ref 0)]) (st2 := [.int 22, .int 1, .ref 0, .ref 0]) rfl rfl ?_
  refine hC.1 _ 0 [_, _] _ _ _ _ _ (m_toldOf_1_22 (n := 4) (by decide)) rfl rfl (Nat.le_of_ble_eq_true rfl) rfl ?_
  refine mB hT 1 rfl ?_
  obtain ⟨h46, eh46⟩ : ∃ z, z = 31 * h45 + ((tdM 4 (Bm 6) 1 22).toInt64) := ⟨_, rfl⟩
  refine hC.2.1 _ 0 [_] _ _ _ _ _ (show KX3_mix l D ca ad _ _ none (MW 4 (Int32.ofNat vs) wo un h46 bo ta tr ro ot Bm bk) from (by rw [eh46]; exact m_mix _)) rfl rfl (Nat.le_of_ble_eq_true rfl) rfl ?_
  refine mB hT 20 rfl ?_
  refine mNf (lv2 := [(2, .int 0), (1, .int 2), (0, .ref 0)]) (st2 := [.int 0, .int 2, .ref 0, .ref 0]) rfl rfl ?_
  refine hC.1 _ 0 [_, _] _ _ _ _ _ (m_toldOf_2_0 (n := 4) (by decide)) rfl rfl (Nat.le_of_ble_eq_true rfl) rfl ?_
  refine mB hT 1 rfl ?_
  obtain ⟨h47, eh47⟩ : ∃ z, z = 31 * h46 + ((tdM 4 (Bm 6) 2 0).toInt64) := ⟨_, rfl⟩
  refine hC.2.1 _ 0 [_] _ _ _ _ _ (show KX3_mix l D ca ad _ _ none (MW 4 (Int32.ofNat vs) wo un h47 bo ta tr ro ot Bm bk) from (by rw [eh47]; exact m_mix _)) rfl rfl (Nat.le_of_ble_eq_true rfl) rfl ?_
  refine mB hT 9 rfl ?_
  refine hC.1 _ 0 [_, _] _ _ _ _ _ (m_toldOf_2_1 (n := 4) (by decide)) rfl rfl (Nat.le_of_ble_eq_true rfl) rfl ?_
  refine mB hT 1 rfl ?_
  obtain ⟨h48, eh48⟩ : ∃ z, z = 31 * h47 + ((tdM 4 (Bm 6) 2 1).toInt64) := ⟨_, rfl⟩
  refine hC.2.1 _ 0 [_] _ _ _ _ _ (show KX3_mix l D ca ad _ _ none (MW 4 (Int32.ofNat vs) wo un h48 bo ta tr ro ot Bm bk) from (by rw [eh48]; exact m_mix _)) rfl rfl (Nat.le_of_ble_eq_true rfl) rfl ?_
  refine mB hT 9 rfl ?_
  refine mNf (lv2 := [(2, .int 2), (1, .int 2), (0, .ref 0)]) (st2 := [.int 2, .int 2, .ref 0, .ref 0]) rfl rfl ?_
  refine hC.1 _ 0 [_, _] _ _ _ _ _ (m_toldOf_2_2 (n := 4) (by decide)) rfl rfl (Nat.le_of_ble_eq_true rfl) rfl ?_
  refine mB hT 1 rfl ?_
  obtain ⟨h49, eh49⟩ : ∃ z, z = 31 * h48 + ((tdM 4 (Bm 6) 2 2).toInt64) := ⟨_, rfl⟩
  refine hC.2.1 _ 0 [_] _ _ _ _ _ (show KX3_mix l D ca ad _ _ none (MW 4 (Int32.ofNat vs) wo un h49 bo ta tr ro ot Bm bk) from (by rw [eh49]; exact m_mix _)) rfl rfl (Nat.le_of_ble_eq_true rfl) rfl ?_
  refine mB hT 9 rfl ?_
  refine hC.1 _ 0 [_, _] _ _ _ _ _ (m_toldOf_2_3 (n := 4) (by decide)) rfl rfl (Nat.le_of_ble_eq_true rfl) rfl ?_
  refine mB hT 1 rfl ?_
  obtain ⟨h50, eh50⟩ : ∃ z, z = 31 * h49 + ((tdM 4 (Bm 6) 2 3).toInt64) := ⟨_, rfl⟩
  refine hC.2.1 _ 0 [_] _ _ _ _ _ (show KX3_mix l D ca ad _ _ none (MW 4 (Int32.ofNat vs) wo un h50 bo ta tr ro ot Bm bk) from (by rw [eh50]; exact m_mix _)) rfl rfl (Nat.le_of_ble_eq_true rfl) rfl ?_
  refine mB hT 9 rfl ?_
  refine mNf (lv2 := [(2, .int 4), (1, .int 2), (0, .ref 0)]) (st2 := [.int 4, .int 2, .ref 0, .ref 0]) rfl rfl ?_
  refine hC.1 _ 0 [_, _] _ _ _ _ _ (m_toldOf_2_4 (n := 4) (by decide)) rfl rfl (Nat.le_of_ble_eq_true rfl) rfl ?_
  refine mB hT 1 rfl ?_
  obtain ⟨h51, eh51⟩ : ∃ z, z = 31 * h50 + ((tdM 4 (Bm 6) 2 4).toInt64) := ⟨_, rfl⟩
  refine hC.2.1 _ 0 [_] _ _ _ _ _ (show KX3_mix l D ca ad _ _ none (MW 4 (Int32.ofNat vs) wo un h51 bo ta tr ro ot Bm bk) from (by rw [eh51]; exact m_mix _)) rfl rfl (Nat.le_of_ble_eq_true rfl) rfl ?_
  refine mB hT 9 rfl ?_
  refine hC.1 _ 0 [_, _] _ _ _ _ _ (m_toldOf_2_5 (n := 4) (by decide)) rfl rfl (Nat.le_of_ble_eq_true rfl) rfl ?_
  refine mB hT 1 rfl ?_
  obtain ⟨h52, eh52⟩ : ∃ z, z = 31 * h51 + ((tdM 4 (Bm 6) 2 5).toInt64) := ⟨_, rfl⟩
  refine hC.2.1 _ 0 [_] _ _ _ _ _ (show KX3_mix l D ca ad _ _ none (MW 4 (Int32.ofNat vs) wo un h52 bo ta tr ro ot Bm bk) from (by rw [eh52]; exact m_mix _)) rfl rfl (Nat.le_of_ble_eq_true rfl) rfl ?_
  refine mB hT 9 rfl ?_
  refine mNf (lv2 := [(2, .int 6), (1, .int 2), (0, .ref 0)]) (st2 := [.int 6, .int 2, .ref 0, .ref 0]) rfl rfl ?_
  refine hC.1 _ 0 [_, _] _ _ _ _ _ (m_toldOf_2_6 (n := 4) (by decide)) rfl rfl (Nat.le_of_ble_eq_true rfl) rfl ?_
  refine mB hT 1 rfl ?_
  obtain ⟨h53, eh53⟩ : ∃ z, z = 31 * h52 + ((tdM 4 (Bm 6) 2 6).toInt64) := ⟨_, rfl⟩
  refine hC.2.1 _ 0 [_] _ _ _ _ _ (show KX3_mix l D ca ad _ _ none (MW 4 (Int32.ofNat vs) wo un h53 bo ta tr ro ot Bm bk) from (by rw [eh53]; exact m_mix _)) rfl rfl (Nat.le_of_ble_eq_true rfl) rfl ?_
  refine mB hT 9 rfl ?_
  refine hC.1 _ 0 [_, _] _ _ _ _ _ (m_toldOf_2_7 (n := 4) (by decide)) rfl rfl (Nat.le_of_ble_eq_true rfl) rfl ?_
  refine mB hT 1 rfl ?_
  obtain ⟨h54, eh54⟩ : ∃ z, z = 31 * h53 + ((tdM 4 (Bm 6) 2 7).toInt64) := ⟨_, rfl⟩
  refine hC.2.1 _ 0 [_] _ _ _ _ _ (show KX3_mix l D ca ad _ _ none (MW 4 (Int32.ofNat vs) wo un h54 bo ta tr ro ot Bm bk) from (by rw [eh54]; exact m_mix _)) rfl rfl (Nat.le_of_ble_eq_true rfl) rfl ?_
  refine mB hT 9 rfl ?_
  refine mNf (lv2 := [(2, .int 8), (1, .int 2), (0, .ref 0)]) (st2 := [.int 8, .int 2, .ref 0, .ref 0]) rfl rfl ?_
  refine hC.1 _ 0 [_, _] _ _ _ _ _ (m_toldOf_2_8 (n := 4) (by decide)) rfl rfl (Nat.le_of_ble_eq_true rfl) rfl ?_
  refine mB hT 1 rfl ?_
  obtain ⟨h55, eh55⟩ : ∃ z, z = 31 * h54 + ((tdM 4 (Bm 6) 2 8).toInt64) := ⟨_, rfl⟩
  refine hC.2.1 _ 0 [_] _ _ _ _ _ (show KX3_mix l D ca ad _ _ none (MW 4 (Int32.ofNat vs) wo un h55 bo ta tr ro ot Bm bk) from (by rw [eh55]; exact m_mix _)) rfl rfl (Nat.le_of_ble_eq_true rfl) rfl ?_
  refine mB hT 9 rfl ?_
  refine hC.1 _ 0 [_, _] _ _ _ _ _ (m_toldOf_2_9 (n := 4) (by decide)) rfl rfl (Nat.le_of_ble_eq_true rfl) rfl ?_
  refine mB hT 1 rfl ?_
  obtain ⟨h56, eh56⟩ : ∃ z, z = 31 * h55 + ((tdM 4 (Bm 6) 2 9).toInt64) := ⟨_, rfl⟩
  refine hC.2.1 _ 0 [_] _ _ _ _ _ (show KX3_mix l D ca ad _ _ none (MW 4 (Int32.ofNat vs) wo un h56 bo ta tr ro ot Bm bk) from (by rw [eh56]; exact m_mix _)) rfl rfl (Nat.le_of_ble_eq_true rfl) rfl ?_
  refine mB hT 9 rfl ?_
  refine mNf (lv2 := [(2, .int 10), (1, .int 2), (0, .ref 0)]) (st2 := [.int 10, .int 2, .ref 0, .ref 0]) rfl rfl ?_
  refine hC.1 _ 0 [_, _] _ _ _ _ _ (m_toldOf_2_10 (n := 4) (by decide)) rfl rfl (Nat.le_of_ble_eq_true rfl) rfl ?_
  refine mB hT 1 rfl ?_
  obtain ⟨h57, eh57⟩ : ∃ z, z = 31 * h56 + ((tdM 4 (Bm 6) 2 10).toInt64) := ⟨_, rfl⟩
  refine hC.2.1 _ 0 [_] _ _ _ _ _ (show KX3_mix l D ca ad _ _ none (MW 4 (Int32.ofNat vs) wo un h57 bo ta tr ro ot Bm bk) from (by rw [eh57]; exact m_mix _)) rfl rfl (Nat.le_of_ble_eq_true rfl) rfl ?_
  refine mB hT 9 rfl ?_
  refine hC.1 _ 0 [_, _] _ _ _ _ _ (m_toldOf_2_11 (n := 4) (by decide)) rfl rfl (Nat.le_of_ble_eq_true rfl) rfl ?_
  refine mB hT 1 rfl ?_
  obtain ⟨h58, eh58⟩ : ∃ z, z = 31 * h57 + ((tdM 4 (Bm 6) 2 11).toInt64) := ⟨_, rfl⟩
  refine hC.2.1 _ 0 [_] _ _ _ _ _ (show KX3_mix l D ca ad _ _ none (MW 4 (Int32.ofNat vs) wo un h58 bo ta tr ro ot Bm bk) from (by rw [eh58]; exact m_mix _)) rfl rfl (Nat.le_of_ble_eq_true rfl) rfl ?_
  refine mB hT 9 rfl ?_
  refine mNf (lv2 := [(2, .int 12), (1, .int 2), (0, .ref 0)]) (st2 := [.int 12, .int 2, .ref 0, .ref 0]) rfl rfl ?_
  refine hC.1 _ 0 [_, _] _ _ _ _ _ (m_toldOf_2_12 (n := 4) (by decide)) rfl rfl (Nat.le_of_ble_eq_true rfl) rfl ?_
  refine mB hT 1 rfl ?_
  obtain ⟨h59, eh59⟩ : ∃ z, z = 31 * h58 + ((tdM 4 (Bm 6) 2 12).toInt64) := ⟨_, rfl⟩
  refine hC.2.1 _ 0 [_] _ _ _ _ _ (show KX3_mix l D ca ad _ _ none (MW 4 (Int32.ofNat vs) wo un h59 bo ta tr ro ot Bm bk) from (by rw [eh59]; exact m_mix _)) rfl rfl (Nat.le_of_ble_eq_true rfl) rfl ?_
  refine mB hT 9 rfl ?_
  refine hC.1 _ 0 [_, _] _ _ _ _ _ (m_toldOf_2_13 (n := 4) (by decide)) rfl rfl (Nat.le_of_ble_eq_true rfl) rfl ?_
  refine mB hT 1 rfl ?_
  obtain ⟨h60, eh60⟩ : ∃ z, z = 31 * h59 + ((tdM 4 (Bm 6) 2 13).toInt64) := ⟨_, rfl⟩
  refine hC.2.1 _ 0 [_] _ _ _ _ _ (show KX3_mix l D ca ad _ _ none (MW 4 (Int32.ofNat vs) wo un h60 bo ta tr ro ot Bm bk) from (by rw [eh60]; exact m_mix _)) rfl rfl (Nat.le_of_ble_eq_true rfl) rfl ?_
  refine mB hT 9 rfl ?_
  refine mNf (lv2 := [(2, .int 14), (1, .int 2), (0, .ref 0)]) (st2 := [.int 14, .int 2, .ref 0, .ref 0]) rfl rfl ?_
  refine hC.1 _ 0 [_, _] _ _ _ _ _ (m_toldOf_2_14 (n := 4) (by decide)) rfl rfl (Nat.le_of_ble_eq_true rfl) rfl ?_
  refine mB hT 1 rfl ?_
  obtain ⟨h61, eh61⟩ : ∃ z, z = 31 * h60 + ((tdM 4 (Bm 6) 2 14).toInt64) := ⟨_, rfl⟩
  refine hC.2.1 _ 0 [_] _ _ _ _ _ (show KX3_mix l D ca ad _ _ none (MW 4 (Int32.ofNat vs) wo un h61 bo ta tr ro ot Bm bk) from (by rw [eh61]; exact m_mix _)) rfl rfl (Nat.le_of_ble_eq_true rfl) rfl ?_
  refine mB hT 9 rfl ?_
  refine hC.1 _ 0 [_, _] _ _ _ _ _ (m_toldOf_2_15 (n := 4) (by decide)) rfl rfl (Nat.le_of_ble_eq_true rfl) rfl ?_
  refine mB hT 1 rfl ?_
  obtain ⟨h62, eh62⟩ : ∃ z, z = 31 * h61 + ((tdM 4 (Bm 6) 2 15).toInt64) := ⟨_, rfl⟩
  refine hC.2.1 _ 0 [_] _ _ _ _ _ (show KX3_mix l D ca ad _ _ none (MW 4 (Int32.ofNat vs) wo un h62 bo ta tr ro ot Bm bk) from (by rw [eh62]; exact m_mix _)) rfl rfl (Nat.le_of_ble_eq_true rfl) rfl ?_
  refine mB hT 9 rfl ?_
  refine mNf (lv2 := [(2, .int 16), (1, .int 2), (0, .ref 0)]) (st2 := [.int 16, .int 2, .ref 0, .ref 0]) rfl rfl ?_
  refine hC.1 _ 0 [_, _] _ _ _ _ _ (m_toldOf_2_16 (n := 4) (by decide)) rfl rfl (Nat.le_of_ble_eq_true rfl) rfl ?_
  refine mB hT 1 rfl ?_
  obtain ⟨h63, eh63⟩ : ∃ z, z = 31 * h62 + ((tdM 4 (Bm 6) 2 16).toInt64) := ⟨_, rfl⟩
  refine hC.2.1 _ 0 [_] _ _ _ _ _ (show KX3_mix l D ca ad _ _ none (MW 4 (Int32.ofNat vs) wo un h63 bo ta tr ro ot Bm bk) from (by rw [eh63]; exact m_mix _)) rfl rfl (Nat.le_of_ble_eq_true rfl) rfl ?_
  refine mB hT 9 rfl ?_
  refine hC.1 _ 0 [_, _] _ _ _ _ _ (m_toldOf_2_17 (n := 4) (by decide)) rfl rfl (Nat.le_of_ble_eq_true rfl) rfl ?_
  refine mB hT 1 rfl ?_
  obtain ⟨h64, eh64⟩ : ∃ z, z = 31 * h63 + ((tdM 4 (Bm 6) 2 17).toInt64) := ⟨_, rfl⟩
  refine hC.2.1 _ 0 [_] _ _ _ _ _ (show KX3_mix l D ca ad _ _ none (MW 4 (Int32.ofNat vs) wo un h64 bo ta tr ro ot Bm bk) from (by rw [eh64]; exact m_mix _)) rfl rfl (Nat.le_of_ble_eq_true rfl) rfl ?_
  refine mB hT 9 rfl ?_
  refine mNf (lv2 := [(2, .int 18), (1, .int 2), (0, .ref 0)]) (st2 := [.int 18, .int 2, .ref 0, .ref 0]) rfl rfl ?_
  refine hC.1 _ 0 [_, _] _ _ _ _ _ (m_toldOf_2_18 (n := 4) (by decide)) rfl rfl (Nat.le_of_ble_eq_true rfl) rfl ?_
  refine mB hT 1 rfl ?_
  obtain ⟨h65, eh65⟩ : ∃ z, z = 31 * h64 + ((tdM 4 (Bm 6) 2 18).toInt64) := ⟨_, rfl⟩
  refine hC.2.1 _ 0 [_] _ _ _ _ _ (show KX3_mix l D ca ad _ _ none (MW 4 (Int32.ofNat vs) wo un h65 bo ta tr ro ot Bm bk) from (by rw [eh65]; exact m_mix _)) rfl rfl (Nat.le_of_ble_eq_true rfl) rfl ?_
  refine mB hT 9 rfl ?_
  refine hC.1 _ 0 [_, _] _ _ _ _ _ (m_toldOf_2_19 (n := 4) (by decide)) rfl rfl (Nat.le_of_ble_eq_true rfl) rfl ?_
  refine mB hT 1 rfl ?_
  obtain ⟨h66, eh66⟩ : ∃ z, z = 31 * h65 + ((tdM 4 (Bm 6) 2 19).toInt64) := ⟨_, rfl⟩
  refine hC.2.1 _ 0 [_] _ _ _ _ _ (show KX3_mix l D ca ad _ _ none (MW 4 (Int32.ofNat vs) wo un h66 bo ta tr ro ot Bm bk) from (by rw [eh66]; exact m_mix _)) rfl rfl (Nat.le_of_ble_eq_true rfl) rfl ?_
  refine mB hT 9 rfl ?_
  refine mNf (lv2 := [(2, .int 20), (1, .int 2), (0, .ref 0)]) (st2 := [.int 20, .int 2, .ref 0, .ref 0]) rfl rfl ?_
  refine hC.1 _ 0 [_, _] _ _ _ _ _ (m_toldOf_2_20 (n := 4) (by decide)) rfl rfl (Nat.le_of_ble_eq_true rfl) rfl ?_
  refine mB hT 1 rfl ?_
  obtain ⟨h67, eh67⟩ : ∃ z, z = 31 * h66 + ((tdM 4 (Bm 6) 2 20).toInt64) := ⟨_, rfl⟩
  refine hC.2.1 _ 0 [_] _ _ _ _ _ (show KX3_mix l D ca ad _ _ none (MW 4 (Int32.ofNat vs) wo un h67 bo ta tr ro ot Bm bk) from (by rw [eh67]; exact m_mix _)) rfl rfl (Nat.le_of_ble_eq_true rfl) rfl ?_
  refine mB hT 9 rfl ?_
  refine hC.1 _ 0 [_, _] _ _ _ _ _ (m_toldOf_2_21 (n := 4) (by decide)) rfl rfl (Nat.le_of_ble_eq_true rfl) rfl ?_
  refine mB hT 1 rfl ?_
  obtain ⟨h68, eh68⟩ : ∃ z, z = 31 * h67 + ((tdM 4 (Bm 6) 2 21).toInt64) := ⟨_, rfl⟩
  refine hC.2.1 _ 0 [_] _ _ _ _ _ (show KX3_mix l D ca ad _ _ none (MW 4 (Int32.ofNat vs) wo un h68 bo ta tr ro ot Bm bk) from (by rw [eh68]; exact m_mix _)) rfl rfl (Nat.le_of_ble_eq_true rfl) rfl ?_
  refine mB hT 9 rfl ?_
  refine mNf (lv2 := [(2, .int 22), (1, .int 2), (0, .ref 0)]) (st2 := [.int 22, .int 2, .ref 0, .ref 0]) rfl rfl ?_
  refine hC.1 _ 0 [_, _] _ _ _ _ _ (m_toldOf_2_22 (n := 4) (by decide)) rfl rfl (Nat.le_of_ble_eq_true rfl) rfl ?_
  refine mB hT 1 rfl ?_
  obtain ⟨h69, eh69⟩ : ∃ z, z = 31 * h68 + ((tdM 4 (Bm 6) 2 22).toInt64) := ⟨_, rfl⟩
  refine hC.2.1 _ 0 [_] _ _ _ _ _ (show KX3_mix l D ca ad _ _ none (MW 4 (Int32.ofNat vs) wo un h69 bo ta tr ro ot Bm bk) from (by rw [eh69]; exact m_mix _)) rfl rfl (Nat.le_of_ble_eq_true rfl) rfl ?_
  refine mB hT 20 rfl ?_
  refine mNf (lv2 := [(2, .int 0), (1, .int 3), (0, .ref 0)]) (st2 := [.int 0, .int 3, .ref 0, .ref 0]) rfl rfl ?_
  refine hC.1 _ 0 [_, _] _ _ _ _ _ (m_toldOf_3_0 (n := 4) (by decide)) rfl rfl (Nat.le_of_ble_eq_true rfl) rfl ?_
  refine mB hT 1 rfl ?_
  obtain ⟨h70, eh70⟩ : ∃ z, z = 31 * h69 + ((tdM 4 (Bm 6) 3 0).toInt64) := ⟨_, rfl⟩
  refine hC.2.1 _ 0 [_] _ _ _ _ _ (show KX3_mix l D ca ad _ _ none (MW 4 (Int32.ofNat vs) wo un h70 bo ta tr ro ot Bm bk) from (by rw [eh70]; exact m_mix _)) rfl rfl (Nat.le_of_ble_eq_true rfl) rfl ?_
  refine mB hT 9 rfl ?_
  refine hC.1 _ 0 [_, _] _ _ _ _ _ (m_toldOf_3_1 (n := 4) (by decide)) rfl rfl (Nat.le_of_ble_eq_true rfl) rfl ?_
  refine mB hT 1 rfl ?_
  obtain ⟨h71, eh71⟩ : ∃ z, z = 31 * h70 + ((tdM 4 (Bm 6) 3 1).toInt64) := ⟨_, rfl⟩
  refine hC.2.1 _ 0 [_] _ _ _ _ _ (show KX3_mix l D ca ad _ _ none (MW 4 (Int32.ofNat vs) wo un h71 bo ta tr ro ot Bm bk) from (by rw [eh71]; exact m_mix _)) rfl rfl (Nat.le_of_ble_eq_true rfl) rfl ?_
  refine mB hT 9 rfl ?_
  refine mNf (lv2 := [(2, .int 2), (1, .int 3), (0, .ref 0)]) (st2 := [.int 2, .int 3, .ref 0, .ref 0]) rfl rfl ?_
  refine hC.1 _ 0 [_, _] _ _ _ _ _ (m_toldOf_3_2 (n := 4) (by decide)) rfl rfl (Nat.le_of_ble_eq_true rfl) rfl ?_
  refine mB hT 1 rfl ?_
  obtain ⟨h72, eh72⟩ : ∃ z, z = 31 * h71 + ((tdM 4 (Bm 6) 3 2).toInt64) := ⟨_, rfl⟩
  refine hC.2.1 _ 0 [_] _ _ _ _ _ (show KX3_mix l D ca ad _ _ none (MW 4 (Int32.ofNat vs) wo un h72 bo ta tr ro ot Bm bk) from (by rw [eh72]; exact m_mix _)) rfl rfl (Nat.le_of_ble_eq_true rfl) rfl ?_
  refine mB hT 9 rfl ?_
  refine hC.1 _ 0 [_, _] _ _ _ _ _ (m_toldOf_3_3 (n := 4) (by decide)) rfl rfl (Nat.le_of_ble_eq_true rfl) rfl ?_
  refine mB hT 1 rfl ?_
  obtain ⟨h73, eh73⟩ : ∃ z, z = 31 * h72 + ((tdM 4 (Bm 6) 3 3).toInt64) := ⟨_, rfl⟩
  refine hC.2.1 _ 0 [_] _ _ _ _ _ (show KX3_mix l D ca ad _ _ none (MW 4 (Int32.ofNat vs) wo un h73 bo ta tr ro ot Bm bk) from (by rw [eh73]; exact m_mix _)) rfl rfl (Nat.le_of_ble_eq_true rfl) rfl ?_
  refine mB hT 9 rfl ?_
  refine mNf (lv2 := [(2, .int 4), (1, .int 3), (0, .ref 0)]) (st2 := [.int 4, .int 3, .ref 0, .ref 0]) rfl rfl ?_
  refine hC.1 _ 0 [_, _] _ _ _ _ _ (m_toldOf_3_4 (n := 4) (by decide)) rfl rfl (Nat.le_of_ble_eq_true rfl) rfl ?_
  refine mB hT 1 rfl ?_
  obtain ⟨h74, eh74⟩ : ∃ z, z = 31 * h73 + ((tdM 4 (Bm 6) 3 4).toInt64) := ⟨_, rfl⟩
  refine hC.2.1 _ 0 [_] _ _ _ _ _ (show KX3_mix l D ca ad _ _ none (MW 4 (Int32.ofNat vs) wo un h74 bo ta tr ro ot Bm bk) from (by rw [eh74]; exact m_mix _)) rfl rfl (Nat.le_of_ble_eq_true rfl) rfl ?_
  refine mB hT 9 rfl ?_
  refine hC.1 _ 0 [_, _] _ _ _ _ _ (m_toldOf_3_5 (n := 4) (by decide)) rfl rfl (Nat.le_of_ble_eq_true rfl) rfl ?_
  refine mB hT 1 rfl ?_
  obtain ⟨h75, eh75⟩ : ∃ z, z = 31 * h74 + ((tdM 4 (Bm 6) 3 5).toInt64) := ⟨_, rfl⟩
  refine hC.2.1 _ 0 [_] _ _ _ _ _ (show KX3_mix l D ca ad _ _ none (MW 4 (Int32.ofNat vs) wo un h75 bo ta tr ro ot Bm bk) from (by rw [eh75]; exact m_mix _)) rfl rfl (Nat.le_of_ble_eq_true rfl) rfl ?_
  refine mB hT 9 rfl ?_
  refine mNf (lv2 := [(2, .int 6), (1, .int 3), (0, .ref 0)]) (st2 := [.int 6, .int 3, .ref 0, .ref 0]) rfl rfl ?_
  refine hC.1 _ 0 [_, _] _ _ _ _ _ (m_toldOf_3_6 (n := 4) (by decide)) rfl rfl (Nat.le_of_ble_eq_true rfl) rfl ?_
  refine mB hT 1 rfl ?_
  obtain ⟨h76, eh76⟩ : ∃ z, z = 31 * h75 + ((tdM 4 (Bm 6) 3 6).toInt64) := ⟨_, rfl⟩
  refine hC.2.1 _ 0 [_] _ _ _ _ _ (show KX3_mix l D ca ad _ _ none (MW 4 (Int32.ofNat vs) wo un h76 bo ta tr ro ot Bm bk) from (by rw [eh76]; exact m_mix _)) rfl rfl (Nat.le_of_ble_eq_true rfl) rfl ?_
  refine mB hT 9 rfl ?_
  refine hC.1 _ 0 [_, _] _ _ _ _ _ (m_toldOf_3_7 (n := 4) (by decide)) rfl rfl (Nat.le_of_ble_eq_true rfl) rfl ?_
  refine mB hT 1 rfl ?_
  obtain ⟨h77, eh77⟩ : ∃ z, z = 31 * h76 + ((tdM 4 (Bm 6) 3 7).toInt64) := ⟨_, rfl⟩
  refine hC.2.1 _ 0 [_] _ _ _ _ _ (show KX3_mix l D ca ad _ _ none (MW 4 (Int32.ofNat vs) wo un h77 bo ta tr ro ot Bm bk) from (by rw [eh77]; exact m_mix _)) rfl rfl (Nat.le_of_ble_eq_true rfl) rfl ?_
  refine mB hT 9 rfl ?_
  refine mNf (lv2 := [(2, .int 8), (1, .int 3), (0, .ref 0)]) (st2 := [.int 8, .int 3, .ref 0, .ref 0]) rfl rfl ?_
  refine hC.1 _ 0 [_, _] _ _ _ _ _ (m_toldOf_3_8 (n := 4) (by decide)) rfl rfl (Nat.le_of_ble_eq_true rfl) rfl ?_
  refine mB hT 1 rfl ?_
  obtain ⟨h78, eh78⟩ : ∃ z, z = 31 * h77 + ((tdM 4 (Bm 6) 3 8).toInt64) := ⟨_, rfl⟩
  refine hC.2.1 _ 0 [_] _ _ _ _ _ (show KX3_mix l D ca ad _ _ none (MW 4 (Int32.ofNat vs) wo un h78 bo ta tr ro ot Bm bk) from (by rw [eh78]; exact m_mix _)) rfl rfl (Nat.le_of_ble_eq_true rfl) rfl ?_
  refine mB hT 9 rfl ?_
  refine hC.1 _ 0 [_, _] _ _ _ _ _ (m_toldOf_3_9 (n := 4) (by decide)) rfl rfl (Nat.le_of_ble_eq_true rfl) rfl ?_
  refine mB hT 1 rfl ?_
  obtain ⟨h79, eh79⟩ : ∃ z, z = 31 * h78 + ((tdM 4 (Bm 6) 3 9).toInt64) := ⟨_, rfl⟩
  refine hC.2.1 _ 0 [_] _ _ _ _ _ (show KX3_mix l D ca ad _ _ none (MW 4 (Int32.ofNat vs) wo un h79 bo ta tr ro ot Bm bk) from (by rw [eh79]; exact m_mix _)) rfl rfl (Nat.le_of_ble_eq_true rfl) rfl ?_
  refine mB hT 9 rfl ?_
  refine mNf (lv2 := [(2, .int 10), (1, .int 3), (0, .ref 0)]) (st2 := [.int 10, .int 3, .ref 0, .ref 0]) rfl rfl ?_
  refine hC.1 _ 0 [_, _] _ _ _ _ _ (m_toldOf_3_10 (n := 4) (by decide)) rfl rfl (Nat.le_of_ble_eq_true rfl) rfl ?_
  refine mB hT 1 rfl ?_
  obtain ⟨h80, eh80⟩ : ∃ z, z = 31 * h79 + ((tdM 4 (Bm 6) 3 10).toInt64) := ⟨_, rfl⟩
  refine hC.2.1 _ 0 [_] _ _ _ _ _ (show KX3_mix l D ca ad _ _ none (MW 4 (Int32.ofNat vs) wo un h80 bo ta tr ro ot Bm bk) from (by rw [eh80]; exact m_mix _)) rfl rfl (Nat.le_of_ble_eq_true rfl) rfl ?_
  refine mB hT 9 rfl ?_
  refine hC.1 _ 0 [_, _] _ _ _ _ _ (m_toldOf_3_11 (n := 4) (by decide)) rfl rfl (Nat.le_of_ble_eq_true rfl) rfl ?_
  refine mB hT 1 rfl ?_
  obtain ⟨h81, eh81⟩ : ∃ z, z = 31 * h80 + ((tdM 4 (Bm 6) 3 11).toInt64) := ⟨_, rfl⟩
  refine hC.2.1 _ 0 [_] _ _ _ _ _ (show KX3_mix l D ca ad _ _ none (MW 4 (Int32.ofNat vs) wo un h81 bo ta tr ro ot Bm bk) from (by rw [eh81]; exact m_mix _)) rfl rfl (Nat.le_of_ble_eq_true rfl) rfl ?_
  refine mB hT 9 rfl ?_
  refine mNf (lv2 := [(2, .int 12), (1, .int 3), (0, .ref 0)]) (st2 := [.int 12, .int 3, .ref 0, .ref 0]) rfl rfl ?_
  refine hC.1 _ 0 [_, _] _ _ _ _ _ (m_toldOf_3_12 (n := 4) (by decide)) rfl rfl (Nat.le_of_ble_eq_true rfl) rfl ?_
  refine mB hT 1 rfl ?_
  obtain ⟨h82, eh82⟩ : ∃ z, z = 31 * h81 + ((tdM 4 (Bm 6) 3 12).toInt64) := ⟨_, rfl⟩
  refine hC.2.1 _ 0 [_] _ _ _ _ _ (show KX3_mix l D ca ad _ _ none (MW 4 (Int32.ofNat vs) wo un h82 bo ta tr ro ot Bm bk) from (by rw [eh82]; exact m_mix _)) rfl rfl (Nat.le_of_ble_eq_true rfl) rfl ?_
  refine mB hT 9 rfl ?_
  refine hC.1 _ 0 [_, _] _ _ _ _ _ (m_toldOf_3_13 (n := 4) (by decide)) rfl rfl (Nat.le_of_ble_eq_true rfl) rfl ?_
  refine mB hT 1 rfl ?_
  obtain ⟨h83, eh83⟩ : ∃ z, z = 31 * h82 + ((tdM 4 (Bm 6) 3 13).toInt64) := ⟨_, rfl⟩
  refine hC.2.1 _ 0 [_] _ _ _ _ _ (show KX3_mix l D ca ad _ _ none (MW 4 (Int32.ofNat vs) wo un h83 bo ta tr ro ot Bm bk) from (by rw [eh83]; exact m_mix _)) rfl rfl (Nat.le_of_ble_eq_true rfl) rfl ?_
  refine mB hT 9 rfl ?_
  refine mNf (lv2 := [(2, .int 14), (1, .int 3), (0, .ref 0)]) (st2 := [.int 14, .int 3, .ref 0, .ref 0]) rfl rfl ?_
  refine hC.1 _ 0 [_, _] _ _ _ _ _ (m_toldOf_3_14 (n := 4) (by decide)) rfl rfl (Nat.le_of_ble_eq_true rfl) rfl ?_
  refine mB hT 1 rfl ?_
  obtain ⟨h84, eh84⟩ : ∃ z, z = 31 * h83 + ((tdM 4 (Bm 6) 3 14).toInt64) := ⟨_, rfl⟩
  refine hC.2.1 _ 0 [_] _ _ _ _ _ (show KX3_mix l D ca ad _ _ none (MW 4 (Int32.ofNat vs) wo un h84 bo ta tr ro ot Bm bk) from (by rw [eh84]; exact m_mix _)) rfl rfl (Nat.le_of_ble_eq_true rfl) rfl ?_
  refine mB hT 9 rfl ?_
  refine hC.1 _ 0 [_, _] _ _ _ _ _ (m_toldOf_3_15 (n := 4) (by decide)) rfl rfl (Nat.le_of_ble_eq_true rfl) rfl ?_
  refine mB hT 1 rfl ?_
  obtain ⟨h85, eh85⟩ : ∃ z, z = 31 * h84 + ((tdM 4 (Bm 6) 3 15).toInt64) := ⟨_, rfl⟩
  refine hC.2.1 _ 0 [_] _ _ _ _ _ (show KX3_mix l D ca ad _ _ none (MW 4 (Int32.ofNat vs) wo un h85 bo ta tr ro ot Bm bk) from (by rw [eh85]; exact m_mix _)) rfl rfl (Nat.le_of_ble_eq_true rfl) rfl ?_
  refine mB hT 9 rfl ?_
  refine mNf (lv2 := [(2, .int 16), (1, .int 3), (0, .ref 0)]) (st2 := [.int 16, .int 3, .ref 0, .ref 0]) rfl rfl ?_
  refine hC.1 _ 0 [_, _] _ _ _ _ _ (m_toldOf_3_16 (n := 4) (by decide)) rfl rfl (Nat.le_of_ble_eq_true rfl) rfl ?_
  refine mB hT 1 rfl ?_
  obtain ⟨h86, eh86⟩ : ∃ z, z = 31 * h85 + ((tdM 4 (Bm 6) 3 16).toInt64) := ⟨_, rfl⟩
  refine hC.2.1 _ 0 [_] _ _ _ _ _ (show KX3_mix l D ca ad _ _ none (MW 4 (Int32.ofNat vs) wo un h86 bo ta tr ro ot Bm bk) from (by rw [eh86]; exact m_mix _)) rfl rfl (Nat.le_of_ble_eq_true rfl) rfl ?_
  refine mB hT 9 rfl ?_
  refine hC.1 _ 0 [_, _] _ _ _ _ _ (m_toldOf_3_17 (n := 4) (by decide)) rfl rfl (Nat.le_of_ble_eq_true rfl) rfl ?_
  refine mB hT 1 rfl ?_
  obtain ⟨h87, eh87⟩ : ∃ z, z = 31 * h86 + ((tdM 4 (Bm 6) 3 17).toInt64) := ⟨_, rfl⟩
  refine hC.2.1 _ 0 [_] _ _ _ _ _ (show KX3_mix l D ca ad _ _ none (MW 4 (Int32.ofNat vs) wo un h87 bo ta tr ro ot Bm bk) from (by rw [eh87]; exact m_mix _)) rfl rfl (Nat.le_of_ble_eq_true rfl) rfl ?_
  refine mB hT 9 rfl ?_
  refine mNf (lv2 := [(2, .int 18), (1, .int 3), (0, .ref 0)]) (st2 := [.int 18, .int 3, .ref 0, .ref 0]) rfl rfl ?_
  refine hC.1 _ 0 [_, _] _ _ _ _ _ (m_toldOf_3_18 (n := 4) (by decide)) rfl rfl (Nat.le_of_ble_eq_true rfl) rfl ?_
  refine mB hT 1 rfl ?_
  obtain ⟨h88, eh88⟩ : ∃ z, z = 31 * h87 + ((tdM 4 (Bm 6) 3 18).toInt64) := ⟨_, rfl⟩
  refine hC.2.1 _ 0 [_] _ _ _ _ _ (show KX3_mix l D ca ad _ _ none (MW 4 (Int32.ofNat vs) wo un h88 bo ta tr ro ot Bm bk) from (by rw [eh88]; exact m_mix _)) rfl rfl (Nat.le_of_ble_eq_true rfl) rfl ?_
  refine mB hT 9 rfl ?_
  refine hC.1 _ 0 [_, _] _ _ _ _ _ (m_toldOf_3_19 (n := 4) (by decide)) rfl rfl (Nat.le_of_ble_eq_true rfl) rfl ?_
  refine mB hT 1 rfl ?_
  obtain ⟨h89, eh89⟩ : ∃ z, z = 31 * h88 + ((tdM 4 (Bm 6) 3 19).toInt64) := ⟨_, rfl⟩
  refine hC.2.1 _ 0 [_] _ _ _ _ _ (show KX3_mix l D ca ad _ _ none (MW 4 (Int32.ofNat vs) wo un h89 bo ta tr ro ot Bm bk) from (by rw [eh89]; exact m_mix _)) rfl rfl (Nat.le_of_ble_eq_true rfl) rfl ?_
  refine mB hT 9 rfl ?_
  refine mNf (lv2 := [(2, .int 20), (1, .int 3), (0, .ref 0)]) (st2 := [.int 20, .int 3, .ref 0, .ref 0]) rfl rfl ?_
  refine hC.1 _ 0 [_, _] _ _ _ _ _ (m_toldOf_3_20 (n := 4) (by decide)) rfl rfl (Nat.le_of_ble_eq_true rfl) rfl ?_
  refine mB hT 1 rfl ?_
  obtain ⟨h90, eh90⟩ : ∃ z, z = 31 * h89 + ((tdM 4 (Bm 6) 3 20).toInt64) := ⟨_, rfl⟩
  refine hC.2.1 _ 0 [_] _ _ _ _ _ (show KX3_mix l D ca ad _ _ none (MW 4 (Int32.ofNat vs) wo un h90 bo ta tr ro ot Bm bk) from (by rw [eh90]; exact m_mix _)) rfl rfl (Nat.le_of_ble_eq_true rfl) rfl ?_
  refine mB hT 9 rfl ?_
  refine hC.1 _ 0 [_, _] _ _ _ _ _ (m_toldOf_3_21 (n := 4) (by decide)) rfl rfl (Nat.le_of_ble_eq_true rfl) rfl ?_
  refine mB hT 1 rfl ?_
  obtain ⟨h91, eh91⟩ : ∃ z, z = 31 * h90 + ((tdM 4 (Bm 6) 3 21).toInt64) := ⟨_, rfl⟩
  refine hC.2.1 _ 0 [_] _ _ _ _ _ (show KX3_mix l D ca ad _ _ none (MW 4 (Int32.ofNat vs) wo un h91 bo ta tr ro ot Bm bk) from (by rw [eh91]; exact m_mix _)) rfl rfl (Nat.le_of_ble_eq_true rfl) rfl ?_
  refine mB hT 9 rfl ?_
  refine mNf (lv2 := [(2, .int 22), (1, .int 3), (0, .ref 0)]) (st2 := [.int 22, .int 3, .ref 0, .ref 0]) rfl rfl ?_
  refine hC.1 _ 0 [_, _] _ _ _ _ _ (m_toldOf_3_22 (n := 4) (by decide)) rfl rfl (Nat.le_of_ble_eq_true rfl) rfl ?_
  refine mB hT 1 rfl ?_
  obtain ⟨h92, eh92⟩ : ∃ z, z = 31 * h91 + ((tdM 4 (Bm 6) 3 22).toInt64) := ⟨_, rfl⟩
  refine hC.2.1 _ 0 [_] _ _ _ _ _ (show KX3_mix l D ca ad _ _ none (MW 4 (Int32.ofNat vs) wo un h92 bo ta tr ro ot Bm bk) from (by rw [eh92]; exact m_mix _)) rfl rfl (Nat.le_of_ble_eq_true rfl) rfl ?_
  refine mB hT 32 rfl ?_
  refine mNf (lv2 := [(2, .int 0), (1, .int 0), (0, .ref 0)]) (st2 := [.long ((bk 0 0).toInt64), .ref 0]) rfl rfl ?_
  obtain ⟨h93, eh93⟩ : ∃ z, z = 31 * h92 + ((bk 0 0).toInt64) := ⟨_, rfl⟩
  refine hC.2.2.1 _ 0 [_] _ _ _ _ _ (show KX3_mix l D ca ad _ _ none (MW 4 (Int32.ofNat vs) wo un h93 bo ta tr ro ot Bm bk) from (by rw [eh93]; exact m_mix _)) rfl rfl (Nat.le_of_ble_eq_true rfl) rfl ?_
  refine mB hT 16 rfl ?_
  obtain ⟨h94, eh94⟩ : ∃ z, z = 31 * h93 + ((bk 0 1).toInt64) := ⟨_, rfl⟩
  refine hC.2.2.1 _ 0 [_] _ _ _ _ _ (show KX3_mix l D ca ad _ _ none (MW 4 (Int32.ofNat vs) wo un h94 bo ta tr ro ot Bm bk) from (by rw [eh94]; exact m_mix _)) rfl rfl (Nat.le_of_ble_eq_true rfl) rfl ?_
  refine mB hT 16 rfl ?_
  refine mNf (lv2 := [(2, .int 2), (1, .int 0), (0, .ref 0)]) (st2 := [.long ((bk 0 2).toInt64), .ref 0]) rfl rfl ?_
  obtain ⟨h95, eh95⟩ : ∃ z, z = 31 * h94 + ((bk 0 2).toInt64) := ⟨_, rfl⟩
  refine hC.2.2.1 _ 0 [_] _ _ _ _ _ (show KX3_mix l D ca ad _ _ none (MW 4 (Int32.ofNat vs) wo un h95 bo ta tr ro ot Bm bk) from (by rw [eh95]; exact m_mix _)) rfl rfl (Nat.le_of_ble_eq_true rfl) rfl ?_
  refine mB hT 16 rfl ?_
  obtain ⟨h96, eh96⟩ : ∃ z, z = 31 * h95 + ((bk 0 3).toInt64) := ⟨_, rfl⟩
  refine hC.2.2.1 _ 0 [_] _ _ _ _ _ (show KX3_mix l D ca ad _ _ none (MW 4 (Int32.ofNat vs) wo un h96 bo ta tr ro ot Bm bk) from (by rw [eh96]; exact m_mix _)) rfl rfl (Nat.le_of_ble_eq_true rfl) rfl ?_
  refine mB hT 27 rfl ?_
  refine mNf (lv2 := [(2, .int 0), (1, .int 1), (0, .ref 0)]) (st2 := [.long ((bk 1 0).toInt64), .ref 0]) rfl rfl ?_
  obtain ⟨h97, eh97⟩ : ∃ z, z = 31 * h96 + ((bk 1 0).toInt64) := ⟨_, rfl⟩
  refine hC.2.2.1 _ 0 [_] _ _ _ _ _ (show KX3_mix l D ca ad _ _ none (MW 4 (Int32.ofNat vs) wo un h97 bo ta tr ro ot Bm bk) from (by rw [eh97]; exact m_mix _)) rfl rfl (Nat.le_of_ble_eq_true rfl) rfl ?_
  refine mB hT 16 rfl ?_
  obtain ⟨h98, eh98⟩ : ∃ z, z = 31 * h97 + ((bk 1 1).toInt64) := ⟨_, rfl⟩
  refine hC.2.2.1 _ 0 [_] _ _ _ _ _ (show KX3_mix l D ca ad _ _ none (MW 4 (Int32.ofNat vs) wo un h98 bo ta tr ro ot Bm bk) from (by rw [eh98]; exact m_mix _)) rfl rfl (Nat.le_of_ble_eq_true rfl) rfl ?_
  refine mB hT 16 rfl ?_
  refine mNf (lv2 := [(2, .int 2), (1, .int 1), (0, .ref 0)]) (st2 := [.long ((bk 1 2).toInt64), .ref 0]) rfl rfl ?_
  obtain ⟨h99, eh99⟩ : ∃ z, z = 31 * h98 + ((bk 1 2).toInt64) := ⟨_, rfl⟩
  refine hC.2.2.1 _ 0 [_] _ _ _ _ _ (show KX3_mix l D ca ad _ _ none (MW 4 (Int32.ofNat vs) wo un h99 bo ta tr ro ot Bm bk) from (by rw [eh99]; exact m_mix _)) rfl rfl (Nat.le_of_ble_eq_true rfl) rfl ?_
  refine mB hT 16 rfl ?_
  obtain ⟨h100, eh100⟩ : ∃ z, z = 31 * h99 + ((bk 1 3).toInt64) := ⟨_, rfl⟩
  refine hC.2.2.1 _ 0 [_] _ _ _ _ _ (show KX3_mix l D ca ad _ _ none (MW 4 (Int32.ofNat vs) wo un h100 bo ta tr ro ot Bm bk) from (by rw [eh100]; exact m_mix _)) rfl rfl (Nat.le_of_ble_eq_true rfl) rfl ?_
  refine mB hT 27 rfl ?_
  refine mNf (lv2 := [(2, .int 0), (1, .int 2), (0, .ref 0)]) (st2 := [.long ((bk 2 0).toInt64), .ref 0]) rfl rfl ?_
  obtain ⟨h101, eh101⟩ : ∃ z, z = 31 * h100 + ((bk 2 0).toInt64) := ⟨_, rfl⟩
  refine hC.2.2.1 _ 0 [_] _ _ _ _ _ (show KX3_mix l D ca ad _ _ none (MW 4 (Int32.ofNat vs) wo un h101 bo ta tr ro ot Bm bk) from (by rw [eh101]; exact m_mix _)) rfl rfl (Nat.le_of_ble_eq_true rfl) rfl ?_
  refine mB hT 16 rfl ?_
  obtain ⟨h102, eh102⟩ : ∃ z, z = 31 * h101 + ((bk 2 1).toInt64) := ⟨_, rfl⟩
  refine hC.2.2.1 _ 0 [_] _ _ _ _ _ (show KX3_mix l D ca ad _ _ none (MW 4 (Int32.ofNat vs) wo un h102 bo ta tr ro ot Bm bk) from (by rw [eh102]; exact m_mix _)) rfl rfl (Nat.le_of_ble_eq_true rfl) rfl ?_
  refine mB hT 16 rfl ?_
  refine mNf (lv2 := [(2, .int 2), (1, .int 2), (0, .ref 0)]) (st2 := [.long ((bk 2 2).toInt64), .ref 0]) rfl rfl ?_
  obtain ⟨h103, eh103⟩ : ∃ z, z = 31 * h102 + ((bk 2 2).toInt64) := ⟨_, rfl⟩
  refine hC.2.2.1 _ 0 [_] _ _ _ _ _ (show KX3_mix l D ca ad _ _ none (MW 4 (Int32.ofNat vs) wo un h103 bo ta tr ro ot Bm bk) from (by rw [eh103]; exact m_mix _)) rfl rfl (Nat.le_of_ble_eq_true rfl) rfl ?_
  refine mB hT 16 rfl ?_
  obtain ⟨h104, eh104⟩ : ∃ z, z = 31 * h103 + ((bk 2 3).toInt64) := ⟨_, rfl⟩
  refine hC.2.2.1 _ 0 [_] _ _ _ _ _ (show KX3_mix l D ca ad _ _ none (MW 4 (Int32.ofNat vs) wo un h104 bo ta tr ro ot Bm bk) from (by rw [eh104]; exact m_mix _)) rfl rfl (Nat.le_of_ble_eq_true rfl) rfl ?_
  refine mB hT 27 rfl ?_
  refine mNf (lv2 := [(2, .int 0), (1, .int 3), (0, .ref 0)]) (st2 := [.long ((bk 3 0).toInt64), .ref 0]) rfl rfl ?_
  obtain ⟨h105, eh105⟩ : ∃ z, z = 31 * h104 + ((bk 3 0).toInt64) := ⟨_, rfl⟩
  refine hC.2.2.1 _ 0 [_] _ _ _ _ _ (show KX3_mix l D ca ad _ _ none (MW 4 (Int32.ofNat vs) wo un h105 bo ta tr ro ot Bm bk) from (by rw [eh105]; exact m_mix _)) rfl rfl (Nat.le_of_ble_eq_true rfl) rfl ?_
  refine mB hT 16 rfl ?_
  obtain ⟨h106, eh106⟩ : ∃ z, z = 31 * h105 + ((bk 3 1).toInt64) := ⟨_, rfl⟩
  refine hC.2.2.1 _ 0 [_] _ _ _ _ _ (show KX3_mix l D ca ad _ _ none (MW 4 (Int32.ofNat vs) wo un h106 bo ta tr ro ot Bm bk) from (by rw [eh106]; exact m_mix _)) rfl rfl (Nat.le_of_ble_eq_true rfl) rfl ?_
  refine mB hT 16 rfl ?_
  refine mNf (lv2 := [(2, .int 2), (1, .int 3), (0, .ref 0)]) (st2 := [.long ((bk 3 2).toInt64), .ref 0]) rfl rfl ?_
  obtain ⟨h107, eh107⟩ : ∃ z, z = 31 * h106 + ((bk 3 2).toInt64) := ⟨_, rfl⟩
  refine hC.2.2.1 _ 0 [_] _ _ _ _ _ (show KX3_mix l D ca ad _ _ none (MW 4 (Int32.ofNat vs) wo un h107 bo ta tr ro ot Bm bk) from (by rw [eh107]; exact m_mix _)) rfl rfl (Nat.le_of_ble_eq_true rfl) rfl ?_
  refine mB hT 16 rfl ?_
  obtain ⟨h108, eh108⟩ : ∃ z, z = 31 * h107 + ((bk 3 3).toInt64) := ⟨_, rfl⟩
  refine hC.2.2.1 _ 0 [_] _ _ _ _ _ (show KX3_mix l D ca ad _ _ none (MW 4 (Int32.ofNat vs) wo un h108 bo ta tr ro ot Bm bk) from (by rw [eh108]; exact m_mix _)) rfl rfl (Nat.le_of_ble_eq_true rfl) rfl ?_
  refine mB hT 15 rfl ?_
  refine mNf (lv2 := [(1, .int 4), (2, .int 4), (0, .ref 0)]) (st2 := [.long ((Int32.ofNat vs).toInt64), .ref 0]) rfl rfl ?_
  obtain ⟨h109, eh109⟩ : ∃ z, z = 31 * h108 + ((Int32.ofNat vs).toInt64) := ⟨_, rfl⟩
  refine hC.2.2.2.1 _ 0 [_] _ _ _ _ _ (show KX3_mix l D ca ad _ _ none (MW 4 (Int32.ofNat vs) wo un h109 bo ta tr ro ot Bm bk) from (by rw [eh109]; exact m_mix _)) rfl rfl (Nat.le_of_ble_eq_true rfl) rfl ?_
  refine mB hT 2 rfl ?_
  refine hC.2.2.2.2.1 _ 0 [] _ _ _ _ _ (show KX3_worth l D ca ad _ _ (some (.long dt)) (MW 4 (Int32.ofNat vs) dt un h109 (boX 4 0) tt tt ro ot Bm bk) from (by rw [edt, ett]; exact m_worthE (n := 4) (by decide))) rfl rfl (Nat.le_of_ble_eq_true rfl) rfl ?_
  obtain ⟨h110, eh110⟩ : ∃ z, z = 31 * h109 + dt := ⟨_, rfl⟩
  refine hC.2.2.2.2.2 _ 0 [_] _ _ _ _ _ (show KX3_mix l D ca ad _ _ none (MW 4 (Int32.ofNat vs) dt un h110 (boX 4 0) tt tt ro ot Bm bk) from (by rw [eh110]; exact m_mix _)) rfl rfl (Nat.le_of_ble_eq_true rfl) rfl ?_
  refine mB hT 2 rfl ?_
  have eL : h110 = dgS 151 (dgL 4 (tdM 4 (Bm 6)) bk (Int32.ofNat vs) dt) := (by subst eh1 eh2 eh3 eh4 eh5 eh6 eh7 eh8 eh9 eh10 eh11 eh12 eh13 eh14 eh15 eh16 eh17 eh18 eh19 eh20 eh21 eh22 eh23 eh24 eh25 eh26 eh27 eh28 eh29 eh30 eh31 eh32 eh33 eh34 eh35 eh36 eh37 eh38 eh39 eh40 eh41 eh42 eh43 eh44 eh45 eh46 eh47 eh48 eh49 eh50 eh51 eh52 eh53 eh54 eh55 eh56 eh57 eh58 eh59 eh60 eh61 eh62 eh63 eh64 eh65 eh66 eh67 eh68 eh69 eh70 eh71 eh72 eh73 eh74 eh75 eh76 eh77 eh78 eh79 eh80 eh81 eh82 eh83 eh84 eh85 eh86 eh87 eh88 eh89 eh90 eh91 eh92 eh93 eh94 eh95 eh96 eh97 eh98 eh99 eh100 eh101 eh102 eh103 eh104 eh105 eh106 eh107 eh108 eh109 eh110; rfl)
  rw [← eL] at hR
  exact hR _ (by decide) _ _ _ rfl rfl
theorem m_digest {n vs : Nat} {wo un h : Int64} {bo : Nat → Int32} {ta tr ro ot : Nat → Int64} {Bm : Nat → Nat → Nat → Int32} {bk : Nat → Nat → Int32} (hn : n ≤ 4) : KX3_digest l D ca ad [.ref 0] (MW (Int32.ofNat n) (Int32.ofNat vs) wo un h bo ta tr ro ot Bm bk) (some (.long (dgS 151 (dgL n (tdM n (Bm 6)) bk (Int32.ofNat vs) (dtM (TnM n Bm 4 0)))))) (MW (Int32.ofNat n) (Int32.ofNat vs) (dtM (TnM n Bm 4 0)) un (dgS 151 (dgL n (tdM n (Bm 6)) bk (Int32.ofNat vs) (dtM (TnM n Bm 4 0)))) (boX 4 0) (TnM n Bm 4 0) (TnM n Bm 4 0) ro ot Bm bk) := by
  rcases (show n = 0 ∨ n = 1 ∨ n = 2 ∨ n = 3 ∨ n = 4 by omega) with e | e | e | e | e
  · subst e; exact m_digest_0
  · subst e; exact m_digest_1
  · subst e; exact m_digest_2
  · subst e; exact m_digest_3
  · subst e; exact m_digest_4
end
