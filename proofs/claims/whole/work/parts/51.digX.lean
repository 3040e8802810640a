def dgL (n : Nat) (td : Nat → Nat → Int32) (kb : Nat → Nat → Int32) (vv : Int32) (w : Int64) : List Int64 := (List.range n).flatMap (fun i => (List.range 23).map (fun q => (td i q).toInt64)) ++ ((List.range 4).flatMap (fun b => (List.range n).map (fun j => (kb b j).toInt64)) ++ [vv.toInt64, w])
section
variable {l : Launch} {D : va_G} {ca : Nat → ClassId} {ad : Nat → Nat}

set_option maxRecDepth 100000 in
set_option maxHeartbeats 4000000 in
theorem x_digest_0 {vs : Nat} {be de : Int64} {sz : Int32} {ro co mi : Nat → Int64} {T : Nat → Nat → Int64} {B : Nat → Nat → Nat → Int32} {hd : Nat → Nat → Int32} {df : Nat → Int32} : ∃ (be2 de2 : Int64) (sz2 : Int32) (ro2 co2 mi2 : Nat → Int64) (T2 : Nat → Nat → Int64), KX2_digest l D ca ad [.ref 0] (XW 0 (Int32.ofNat vs) be de sz ro co mi T B hd df) (some (.long (dgS 151 (dgL 0 (B 6) hd (Int32.ofNat vs) (detX 0 (lyT 0 (B 6) T)))))) (XW 0 (Int32.ofNat vs) be2 de2 sz2 ro2 co2 mi2 T2 B hd df) := by
  obtain ⟨be2, de2, sz2, ro2, co2, mi2, T2, hk2⟩ := x_worth_0 (l := l) (D := D) (ca := ca) (ad := ad) (vs := vs) (be := be) (de := de) (sz := sz) (ro := ro) (co := co) (mi := mi) (T := T) (B := B) (hd := hd) (df := df)
  obtain ⟨dt, edt⟩ : ∃ z, z = (detX 0 (lyT 0 (B 6) T)) := ⟨_, rfl⟩
  rw [← edt] at hk2 ⊢
  refine ⟨be2, de2, sz2, ro2, co2, mi2, T2, ?_⟩
  refine PX2_digest (Nat.le_of_ble_eq_true rfl) ?_
  intro G hT hC hR
  refine mB hT 40 rfl ?_
  refine mNf (lv2 := [(4, .int 0), (3, .int 2), (1, .long 151), (0, .ref 0)]) (st2 := [.int 0, .int 0]) rfl rfl ?_
  refine mB hT 24 rfl ?_
  obtain ⟨h1, eh1⟩ : ∃ z, z = (4681 + ((Int32.ofNat vs).toInt64)) := ⟨_, rfl⟩
  refine mNf (lv2 := [(3, .int 4), (4, .int 0), (1, .long 151), (0, .ref 0)]) (st2 := [.long h1]) rfl (by rw [eh1] <;> rfl) ?_
  refine mB hT 5 rfl ?_
  refine hC _ 0 [] _ _ _ _ _ (hk2) rfl rfl (Nat.le_of_ble_eq_true rfl) rfl ?_
  refine mB hT 1 rfl ?_
  exact hR _ (by decide) _ _ _ (by subst eh1; rfl) rfl
set_option maxRecDepth 100000 in
set_option maxHeartbeats 4000000 in
theorem x_digest_1 {vs : Nat} {be de : Int64} {sz : Int32} {ro co mi : Nat → Int64} {T : Nat → Nat → Int64} {B : Nat → Nat → Nat → Int32} {hd : Nat → Nat → Int32} {df : Nat → Int32} : ∃ (be2 de2 : Int64) (sz2 : Int32) (ro2 co2 mi2 : Nat → Int64) (T2 : Nat → Nat → Int64), KX2_digest l D ca ad [.ref 0] (XW 1 (Int32.ofNat vs) be de sz ro co mi T B hd df) (some (.long (dgS 151 (dgL 1 (B 6) hd (Int32.ofNat vs) (detX 1 (lyT 1 (B 6) T)))))) (XW 1 (Int32.ofNat vs) be2 de2 sz2 ro2 co2 mi2 T2 B hd df) := by
  obtain ⟨be2, de2, sz2, ro2, co2, mi2, T2, hk2⟩ := x_worth_1 (l := l) (D := D) (ca := ca) (ad := ad) (vs := vs) (be := be) (de := de) (sz := sz) (ro := ro) (co := co) (mi := mi) (T := T) (B := B) (hd := hd) (df := df)
  obtain ⟨dt, edt⟩ : ∃ z, z = (detX 1 (lyT 1 (B 6) T)) := ⟨_, rfl⟩
  rw [← edt] at hk2 ⊢
  refine ⟨be2, de2, sz2, ro2, co2, mi2, T2, ?_⟩
  refine PX2_digest (Nat.le_of_ble_eq_true rfl) ?_
  intro G hT hC hR
  refine mB hT 25 rfl ?_
  obtain ⟨h1, eh1⟩ : ∃ z, z = (4681 + ((B 6 0 0).toInt64)) := ⟨_, rfl⟩
  refine mNf (lv2 := [(4, .int 0), (3, .int 0), (1, .long 151), (0, .ref 0)]) (st2 := [.long h1]) rfl (by rw [eh1] <;> rfl) ?_
  refine mB hT 18 rfl ?_
  obtain ⟨h2, eh2⟩ : ∃ z, z = ((31 * h1) + ((B 6 0 1).toInt64)) := ⟨_, rfl⟩
  refine mNf (lv2 := [(4, .int 1), (1, .long h1), (3, .int 0), (0, .ref 0)]) (st2 := [.long h2]) rfl (by rw [eh2] <;> rfl) ?_
  refine mB hT 18 rfl ?_
  obtain ⟨h3, eh3⟩ : ∃ z, z = ((31 * h2) + ((B 6 0 2).toInt64)) := ⟨_, rfl⟩
  refine mNf (lv2 := [(4, .int 2), (1, .long h2), (3, .int 0), (0, .ref 0)]) (st2 := [.long h3]) rfl (by rw [eh3] <;> rfl) ?_
  refine mB hT 18 rfl ?_
  obtain ⟨h4, eh4⟩ : ∃ z, z = ((31 * h3) + ((B 6 0 3).toInt64)) := ⟨_, rfl⟩
  refine mNf (lv2 := [(4, .int 3), (1, .long h3), (3, .int 0), (0, .ref 0)]) (st2 := [.long h4]) rfl (by rw [eh4] <;> rfl) ?_
  refine mB hT 18 rfl ?_
  obtain ⟨h5, eh5⟩ : ∃ z, z = ((31 * h4) + ((B 6 0 4).toInt64)) := ⟨_, rfl⟩
  refine mNf (lv2 := [(4, .int 4), (1, .long h4), (3, .int 0), (0, .ref 0)]) (st2 := [.long h5]) rfl (by rw [eh5] <;> rfl) ?_
  refine mB hT 18 rfl ?_
  obtain ⟨h6, eh6⟩ : ∃ z, z = ((31 * h5) + ((B 6 0 5).toInt64)) := ⟨_, rfl⟩
  refine mNf (lv2 := [(4, .int 5), (1, .long h5), (3, .int 0), (0, .ref 0)]) (st2 := [.long h6]) rfl (by rw [eh6] <;> rfl) ?_
  refine mB hT 18 rfl ?_
  obtain ⟨h7, eh7⟩ : ∃ z, z = ((31 * h6) + ((B 6 0 6).toInt64)) := ⟨_, rfl⟩
  refine mNf (lv2 := [(4, .int 6), (1, .long h6), (3, .int 0), (0, .ref 0)]) (st2 := [.long h7]) rfl (by rw [eh7] <;> rfl) ?_
  refine mB hT 18 rfl ?_
  obtain ⟨h8, eh8⟩ : ∃ z, z = ((31 * h7) + ((B 6 0 7).toInt64)) := ⟨_, rfl⟩
  refine mNf (lv2 := [(4, .int 7), (1, .long h7), (3, .int 0), (0, .ref 0)]) (st2 := [.long h8]) rfl (by rw [eh8] <;> rfl) ?_
  refine mB hT 18 rfl ?_
  obtain ⟨h9, eh9⟩ : ∃ z, z = ((31 * h8) + ((B 6 0 8).toInt64)) := ⟨_, rfl⟩
  refine mNf (lv2 := [(4, .int 8), (1, .long h8), (3, .int 0), (0, .ref 0)]) (st2 := [.long h9]) rfl (by rw [eh9] <;> rfl) ?_
  refine mB hT 18 rfl ?_
  obtain ⟨h10, eh10⟩ : ∃ z, z = ((31 * h9) + ((B 6 0 9).toInt64)) := ⟨_, rfl⟩
  refine mNf (lv2 := [(4, .int 9), (1, .long h9), (3, .int 0), (0, .ref 0)]) (st2 := [.long h10]) rfl (by rw [eh10] <;> rfl) ?_
  refine mB hT 18 rfl ?_
  obtain ⟨h11, eh11⟩ : ∃ z, z = ((31 * h10) + ((B 6 0 10).toInt64)) := ⟨_, rfl⟩
  refine mNf (lv2 := [(4, .int 10), (1, .long h10), (3, .int 0), (0, .ref 0)]) (st2 := [.long h11]) rfl (by rw [eh11] <;> rfl) ?_
  refine mB hT 18 rfl ?_
  obtain ⟨h12, eh12⟩ : ∃ z, z = ((31 * h11) + ((B 6 0 11).toInt64)) := ⟨_, rfl⟩
  refine mNf (lv2 := [(4, .int 11), (1, .long h11), (3, .int 0), (0, .ref 0)]) (st2 := [.long h12]) rfl (by rw [eh12] <;> rfl) ?_
  refine mB hT 18 rfl ?_
  obtain ⟨h13, eh13⟩ : ∃ z, z = ((31 * h12) + ((B 6 0 12).toInt64)) := ⟨_, rfl⟩
  refine mNf (lv2 := [(4, .int 12), (1, .long h12), (3, .int 0), (0, .ref 0)]) (st2 := [.long h13]) rfl (by rw [eh13] <;> rfl) ?_
  refine mB hT 18 rfl ?_
  obtain ⟨h14, eh14⟩ : ∃ z, z = ((31 * h13) + ((B 6 0 13).toInt64)) := ⟨_, rfl⟩
  refine mNf (lv2 := [(4, .int 13), (1, .long h13), (3, .int 0), (0, .ref 0)]) (st2 := [.long h14]) rfl (by rw [eh14] <;> rfl) ?_
  refine mB hT 18 rfl ?_
  obtain ⟨h15, eh15⟩ : ∃ z, z = ((31 * h14) + ((B 6 0 14).toInt64)) := ⟨_, rfl⟩
  refine mNf (lv2 := [(4, .int 14), (1, .long h14), (3, .int 0), (0, .ref 0)]) (st2 := [.long h15]) rfl (by rw [eh15] <;> rfl) ?_
  refine mB hT 18 rfl ?_
  obtain ⟨h16, eh16⟩ : ∃ z, z = ((31 * h15) + ((B 6 0 15).toInt64)) := ⟨_, rfl⟩
  refine mNf (lv2 := [(4, .int 15), (1, .long h15), (3, .int 0), (0, .ref 0)]) (st2 := [.long h16]) rfl (by rw [eh16] <;> rfl) ?_
  refine mB hT 18 rfl ?_
  obtain ⟨h17, eh17⟩ : ∃ z, z = ((31 * h16) + ((B 6 0 16).toInt64)) := ⟨_, rfl⟩
  refine mNf (lv2 := [(4, .int 16), (1, .long h16), (3, .int 0), (0, .ref 0)]) (st2 := [.long h17]) rfl (by rw [eh17] <;> rfl) ?_
  refine mB hT 18 rfl ?_
  obtain ⟨h18, eh18⟩ : ∃ z, z = ((31 * h17) + ((B 6 0 17).toInt64)) := ⟨_, rfl⟩
  refine mNf (lv2 := [(4, .int 17), (1, .long h17), (3, .int 0), (0, .ref 0)]) (st2 := [.long h18]) rfl (by rw [eh18] <;> rfl) ?_
  refine mB hT 18 rfl ?_
  obtain ⟨h19, eh19⟩ : ∃ z, z = ((31 * h18) + ((B 6 0 18).toInt64)) := ⟨_, rfl⟩
  refine mNf (lv2 := [(4, .int 18), (1, .long h18), (3, .int 0), (0, .ref 0)]) (st2 := [.long h19]) rfl (by rw [eh19] <;> rfl) ?_
  refine mB hT 18 rfl ?_
  obtain ⟨h20, eh20⟩ : ∃ z, z = ((31 * h19) + ((B 6 0 19).toInt64)) := ⟨_, rfl⟩
  refine mNf (lv2 := [(4, .int 19), (1, .long h19), (3, .int 0), (0, .ref 0)]) (st2 := [.long h20]) rfl (by rw [eh20] <;> rfl) ?_
  refine mB hT 18 rfl ?_
  obtain ⟨h21, eh21⟩ : ∃ z, z = ((31 * h20) + ((B 6 0 20).toInt64)) := ⟨_, rfl⟩
  refine mNf (lv2 := [(4, .int 20), (1, .long h20), (3, .int 0), (0, .ref 0)]) (st2 := [.long h21]) rfl (by rw [eh21] <;> rfl) ?_
  refine mB hT 18 rfl ?_
  obtain ⟨h22, eh22⟩ : ∃ z, z = ((31 * h21) + ((B 6 0 21).toInt64)) := ⟨_, rfl⟩
  refine mNf (lv2 := [(4, .int 21), (1, .long h21), (3, .int 0), (0, .ref 0)]) (st2 := [.long h22]) rfl (by rw [eh22] <;> rfl) ?_
  refine mB hT 18 rfl ?_
  obtain ⟨h23, eh23⟩ : ∃ z, z = ((31 * h22) + ((B 6 0 22).toInt64)) := ⟨_, rfl⟩
  refine mNf (lv2 := [(4, .int 22), (1, .long h22), (3, .int 0), (0, .ref 0)]) (st2 := [.long h23]) rfl (by rw [eh23] <;> rfl) ?_
  refine mB hT 34 rfl ?_
  obtain ⟨h24, eh24⟩ : ∃ z, z = ((31 * h23) + ((hd 0 0).toInt64)) := ⟨_, rfl⟩
  refine mNf (lv2 := [(4, .int 0), (3, .int 0), (1, .long h23), (0, .ref 0)]) (st2 := [.long h24]) rfl (by rw [eh24] <;> rfl) ?_
  refine mB hT 29 rfl ?_
  obtain ⟨h25, eh25⟩ : ∃ z, z = ((31 * h24) + ((hd 1 0).toInt64)) := ⟨_, rfl⟩
  refine mNf (lv2 := [(4, .int 0), (3, .int 1), (1, .long h24), (0, .ref 0)]) (st2 := [.long h25]) rfl (by rw [eh25] <;> rfl) ?_
  refine mB hT 29 rfl ?_
  obtain ⟨h26, eh26⟩ : ∃ z, z = ((31 * h25) + ((hd 2 0).toInt64)) := ⟨_, rfl⟩
  refine mNf (lv2 := [(4, .int 0), (3, .int 2), (1, .long h25), (0, .ref 0)]) (st2 := [.long h26]) rfl (by rw [eh26] <;> rfl) ?_
  refine mB hT 29 rfl ?_
  obtain ⟨h27, eh27⟩ : ∃ z, z = ((31 * h26) + ((hd 3 0).toInt64)) := ⟨_, rfl⟩
  refine mNf (lv2 := [(4, .int 0), (3, .int 3), (1, .long h26), (0, .ref 0)]) (st2 := [.long h27]) rfl (by rw [eh27] <;> rfl) ?_
  refine mB hT 19 rfl ?_
  obtain ⟨h28, eh28⟩ : ∃ z, z = ((31 * h27) + ((Int32.ofNat vs).toInt64)) := ⟨_, rfl⟩
  refine mNf (lv2 := [(3, .int 4), (4, .int 1), (1, .long h27), (0, .ref 0)]) (st2 := [.long h28]) rfl (by rw [eh28] <;> rfl) ?_
  refine mB hT 5 rfl ?_
  refine hC _ 0 [] _ _ _ _ _ (hk2) rfl rfl (Nat.le_of_ble_eq_true rfl) rfl ?_
  refine mB hT 1 rfl ?_
  exact hR _ (by decide) _ _ _ (by subst eh1 eh2 eh3 eh4 eh5 eh6 eh7 eh8 eh9 eh10 eh11 eh12 eh13 eh14 eh15 eh16 eh17 eh18 eh19 eh20 eh21 eh22 eh23 eh24 eh25 eh26 eh27 eh28; rfl) rfl
set_option maxRecDepth 100000 in
set_option maxHeartbeats 4000000 in
theorem x_digest_2 {vs : Nat} {be de : Int64} {sz : Int32} {ro co mi : Nat → Int64} {T : Nat → Nat → Int64} {B : Nat → Nat → Nat → Int32} {hd : Nat → Nat → Int32} {df : Nat → Int32} : ∃ (be2 de2 : Int64) (sz2 : Int32) (ro2 co2 mi2 : Nat → Int64) (T2 : Nat → Nat → Int64), KX2_digest l D ca ad [.ref 0] (XW 2 (Int32.ofNat vs) be de sz ro co mi T B hd df) (some (.long (dgS 151 (dgL 2 (B 6) hd (Int32.ofNat vs) (detX 2 (lyT 2 (B 6) T)))))) (XW 2 (Int32.ofNat vs) be2 de2 sz2 ro2 co2 mi2 T2 B hd df) := by
  obtain ⟨be2, de2, sz2, ro2, co2, mi2, T2, hk2⟩ := x_worth_2 (l := l) (D := D) (ca := ca) (ad := ad) (vs := vs) (be := be) (de := de) (sz := sz) (ro := ro) (co := co) (mi := mi) (T := T) (B := B) (hd := hd) (df := df)
  obtain ⟨dt, edt⟩ : ∃ z, z = (detX 2 (lyT 2 (B 6) T)) := ⟨_, rfl⟩
  rw [← edt] at hk2 ⊢
  refine ⟨be2, de2, sz2, ro2, co2, mi2, T2, ?_⟩
  refine PX2_digest (Nat.le_of_ble_eq_true rfl) ?_
  intro G hT hC hR
  refine mB hT 25 rfl ?_
  obtain ⟨h1, eh1⟩ : ∃ z, z = (4681 + ((B 6 0 0).toInt64)) := ⟨_, rfl⟩
  refine mNf (lv2 := [(4, .int 0), (3, .int 0), (1, .long 151), (0, .ref 0)]) (st2 := [.long h1]) rfl (by rw [eh1] <;> rfl) ?_
  refine mB hT 18 rfl ?_
  obtain ⟨h2, eh2⟩ : ∃ z, z = ((31 * h1) + ((B 6 0 1).toInt64)) := ⟨_, rfl⟩
  refine mNf (lv2 := [(4, .int 1), (1, .long h1), (3, .int 0), (0, .ref 0)]) (st2 := [.long h2]) rfl (by rw [eh2] <;> rfl) ?_
  refine mB hT 18 rfl ?_
  obtain ⟨h3, eh3⟩ : ∃ z, z = ((31 * h2) + ((B 6 0 2).toInt64)) := ⟨_, rfl⟩
  refine mNf (lv2 := [(4, .int 2), (1, .long h2), (3, .int 0), (0, .ref 0)]) (st2 := [.long h3]) rfl (by rw [eh3] <;> rfl) ?_
  refine mB hT 18 rfl ?_
  obtain ⟨h4, eh4⟩ : ∃ z, z = ((31 * h3) + ((B 6 0 3).toInt64)) := ⟨_, rfl⟩
  refine mNf (lv2 := [(4, .int 3), (1, .long h3), (3, .int 0), (0, .ref 0)]) (st2 := [.long h4]) rfl (by rw [eh4] <;> rfl) ?_
  refine mB hT 18 rfl ?_
  obtain ⟨h5, eh5⟩ : ∃ z, z = ((31 * h4) + ((B 6 0 4).toInt64)) := ⟨_, rfl⟩
  refine mNf (lv2 := [(4, .int 4), (1, .long h4), (3, .int 0), (0, .ref 0)]) (st2 := [.long h5]) rfl (by rw [eh5] <;> rfl) ?_
  refine mB hT 18 rfl ?_
  obtain ⟨h6, eh6⟩ : ∃ z, z = ((31 * h5) + ((B 6 0 5).toInt64)) := ⟨_, rfl⟩
  refine mNf (lv2 := [(4, .int 5), (1, .long h5), (3, .int 0), (0, .ref 0)]) (st2 := [.long h6]) rfl (by rw [eh6] <;> rfl) ?_
  refine mB hT 18 rfl ?_
  obtain ⟨h7, eh7⟩ : ∃ z, z = ((31 * h6) + ((B 6 0 6).toInt64)) := ⟨_, rfl⟩
  refine mNf (lv2 := [(4, .int 6), (1, .long h6), (3, .int 0), (0, .ref 0)]) (st2 := [.long h7]) rfl (by rw [eh7] <;> rfl) ?_
  refine mB hT 18 rfl ?_
  obtain ⟨h8, eh8⟩ : ∃ z, z = ((31 * h7) + ((B 6 0 7).toInt64)) := ⟨_, rfl⟩
  refine mNf (lv2 := [(4, .int 7), (1, .long h7), (3, .int 0), (0, .ref 0)]) (st2 := [.long h8]) rfl (by rw [eh8] <;> rfl) ?_
  refine mB hT 18 rfl ?_
  obtain ⟨h9, eh9⟩ : ∃ z, z = ((31 * h8) + ((B 6 0 8).toInt64)) := ⟨_, rfl⟩
  refine mNf (lv2 := [(4, .int 8), (1, .long h8), (3, .int 0), (0, .ref 0)]) (st2 := [.long h9]) rfl (by rw [eh9] <;> rfl) ?_
  refine mB hT 18 rfl ?_
  obtain ⟨h10, eh10⟩ : ∃ z, z = ((31 * h9) + ((B 6 0 9).toInt64)) := ⟨_, rfl⟩
  refine mNf (lv2 := [(4, .int 9), (1, .long h9), (3, .int 0), (0, .ref 0)]) (st2 := [.long h10]) rfl (by rw [eh10] <;> rfl) ?_
  refine mB hT 18 rfl ?_
  obtain ⟨h11, eh11⟩ : ∃ z, z = ((31 * h10) + ((B 6 0 10).toInt64)) := ⟨_, rfl⟩
  refine mNf (lv2 := [(4, .int 10), (1, .long h10), (3, .int 0), (0, .ref 0)]) (st2 := [.long h11]) rfl (by rw [eh11] <;> rfl) ?_
  refine mB hT 18 rfl ?_
  obtain ⟨h12, eh12⟩ : ∃ z, z = ((31 * h11) + ((B 6 0 11).toInt64)) := ⟨_, rfl⟩
  refine mNf (lv2 := [(4, .int 11), (1, .long h11), (3, .int 0), (0, .ref 0)]) (st2 := [.long h12]) rfl (by rw [eh12] <;> rfl) ?_
  refine mB hT 18 rfl ?_
  obtain ⟨h13, eh13⟩ : ∃ z, z = ((31 * h12) + ((B 6 0 12).toInt64)) := ⟨_, rfl⟩
  refine mNf (lv2 := [(4, .int 12), (1, .long h12), (3, .int 0), (0, .ref 0)]) (st2 := [.long h13]) rfl (by rw [eh13] <;> rfl) ?_
  refine mB hT 18 rfl ?_
  obtain ⟨h14, eh14⟩ : ∃ z, z = ((31 * h13) + ((B 6 0 13).toInt64)) := ⟨_, rfl⟩
  refine mNf (lv2 := [(4, .int 13), (1, .long h13), (3, .int 0), (0, .ref 0)]) (st2 := [.long h14]) rfl (by rw [eh14] <;> rfl) ?_
  refine mB hT 18 rfl ?_
  obtain ⟨h15, eh15⟩ : ∃ z, z = ((31 * h14) + ((B 6 0 14).toInt64)) := ⟨_, rfl⟩
  refine mNf (lv2 := [(4, .int 14), (1, .long h14), (3, .int 0), (0, .ref 0)]) (st2 := [.long h15]) rfl (by rw [eh15] <;> rfl) ?_
  refine mB hT 18 rfl ?_
  obtain ⟨h16, eh16⟩ : ∃ z, z = ((31 * h15) + ((B 6 0 15).toInt64)) := ⟨_, rfl⟩
  refine mNf (lv2 := [(4, .int 15), (1, .long h15), (3, .int 0), (0, .ref 0)]) (st2 := [.long h16]) rfl (by rw [eh16] <;> rfl) ?_
  refine mB hT 18 rfl ?_
  obtain ⟨h17, eh17⟩ : ∃ z, z = ((31 * h16) + ((B 6 0 16).toInt64)) := ⟨_, rfl⟩
  refine mNf (lv2 := [(4, .int 16), (1, .long h16), (3, .int 0), (0, .ref 0)]) (st2 := [.long h17]) rfl (by rw [eh17] <;> rfl) ?_
  refine mB hT 18 rfl ?_
  obtain ⟨h18, eh18⟩ : ∃ z, z = ((31 * h17) + ((B 6 0 17).toInt64)) := ⟨_, rfl⟩
  refine mNf (lv2 := [(4, .int 17), (1, .long h17), (3, .int 0), (0, .ref 0)]) (st2 := [.long h18]) rfl (by rw [eh18] <;> rfl) ?_
  refine mB hT 18 rfl ?_
  obtain ⟨h19, eh19⟩ : ∃ z, z = ((31 * h18) + ((B 6 0 18).toInt64)) := ⟨_, rfl⟩
  refine mNf (lv2 := [(4, .int 18), (1, .long h18), (3, .int 0), (0, .ref 0)]) (st2 := [.long h19]) rfl (by rw [eh19] <;> rfl) ?_
  refine mB hT 18 rfl ?_
  obtain ⟨h20, eh20⟩ : ∃ z, z = ((31 * h19) + ((B 6 0 19).toInt64)) := ⟨_, rfl⟩
  refine mNf (lv2 := [(4, .int 19), (1, .long h19), (3, .int 0), (0, .ref 0)]) (st2 := [.long h20]) rfl (by rw [eh20] <;> rfl) ?_
  refine mB hT 18 rfl ?_
  obtain ⟨h21, eh21⟩ : ∃ z, z = ((31 * h20) + ((B 6 0 20).toInt64)) := ⟨_, rfl⟩
  refine mNf (lv2 := [(4, .int 20), (1, .long h20), (3, .int 0), (0, .ref 0)]) (st2 := [.long h21]) rfl (by rw [eh21] <;> rfl) ?_
  refine mB hT 18 rfl ?_
  obtain ⟨h22, eh22⟩ : ∃ z, z = ((31 * h21) + ((B 6 0 21).toInt64)) := ⟨_, rfl⟩
  refine mNf (lv2 := [(4, .int 21), (1, .long h21), (3, .int 0), (0, .ref 0)]) (st2 := [.long h22]) rfl (by rw [eh22] <;> rfl) ?_
  refine mB hT 18 rfl ?_
  obtain ⟨h23, eh23⟩ : ∃ z, z = ((31 * h22) + ((B 6 0 22).toInt64)) := ⟨_, rfl⟩
  refine mNf (lv2 := [(4, .int 22), (1, .long h22), (3, .int 0), (0, .ref 0)]) (st2 := [.long h23]) rfl (by rw [eh23] <;> rfl) ?_
  refine mB hT 29 rfl ?_
  obtain ⟨h24, eh24⟩ : ∃ z, z = ((31 * h23) + ((B 6 1 0).toInt64)) := ⟨_, rfl⟩
  refine mNf (lv2 := [(4, .int 0), (3, .int 1), (1, .long h23), (0, .ref 0)]) (st2 := [.long h24]) rfl (by rw [eh24] <;> rfl) ?_
  refine mB hT 18 rfl ?_
  obtain ⟨h25, eh25⟩ : ∃ z, z = ((31 * h24) + ((B 6 1 1).toInt64)) := ⟨_, rfl⟩
  refine mNf (lv2 := [(4, .int 1), (1, .long h24), (3, .int 1), (0, .ref 0)]) (st2 := [.long h25]) rfl (by rw [eh25] <;> rfl) ?_
  refine mB hT 18 rfl ?_
  obtain ⟨h26, eh26⟩ : ∃ z, z = ((31 * h25) + ((B 6 1 2).toInt64)) := ⟨_, rfl⟩
  refine mNf (lv2 := [(4, .int 2), (1, .long h25), (3, .int 1), (0, .ref 0)]) (st2 := [.long h26]) rfl (by rw [eh26] <;> rfl) ?_
  refine mB hT 18 rfl ?_
  obtain ⟨h27, eh27⟩ : ∃ z, z = ((31 * h26) + ((B 6 1 3).toInt64)) := ⟨_, rfl⟩
  refine mNf (lv2 := [(4, .int 3), (1, .long h26), (3, .int 1), (0, .ref 0)]) (st2 := [.long h27]) rfl (by rw [eh27] <;> rfl) ?_
  refine mB hT 18 rfl ?_
  obtain ⟨h28, eh28⟩ : ∃ z, z = ((31 * h27) + ((B 6 1 4).toInt64)) := ⟨_, rfl⟩
  refine mNf (lv2 := [(4, .int 4), (1, .long h27), (3, .int 1), (0, .ref 0)]) (st2 := [.long h28]) rfl (by rw [eh28] <;> rfl) ?_
  refine mB hT 18 rfl ?_
  obtain ⟨h29, eh29⟩ : ∃ z, z = ((31 * h28) + ((B 6 1 5).toInt64)) := ⟨_, rfl⟩
  refine mNf (lv2 := [(4, .int 5), (1, .long h28), (3, .int 1), (0, .ref 0)]) (st2 := [.long h29]) rfl (by rw [eh29] <;> rfl) ?_
  refine mB hT 18 rfl ?_
  obtain ⟨h30, eh30⟩ : ∃ z, z = ((31 * h29) + ((B 6 1 6).toInt64)) := ⟨_, rfl⟩
  refine mNf (lv2 := [(4, .int 6), (1, .long h29), (3, .int 1), (0, .ref 0)]) (st2 := [.long h30]) rfl (by rw [eh30] <;> rfl) ?_
  refine mB hT 18 rfl ?_
  obtain ⟨h31, eh31⟩ : ∃ z, z = ((31 * h30) + ((B 6 1 7).toInt64)) := ⟨_, rfl⟩
  refine mNf (lv2 := [(4, .int 7), (1, .long h30), (3, .int 1), (0, .ref 0)]) (st2 := [.long h31]) rfl (by rw [eh31] <;> rfl) ?_
  refine mB hT 18 rfl ?_
  obtain ⟨h32, eh32⟩ : ∃ z, z = ((31 * h31) + ((B 6 1 8).toInt64)) := ⟨_, rfl⟩
  refine mNf (lv2 := [(4, .int 8), (1, .long h31), (3, .int 1), (0, .ref 0)]) (st2 := [.long h32]) rfl (by rw [eh32] <;> rfl) ?_
  refine mB hT 18 rfl ?_
  obtain ⟨h33, eh33⟩ : ∃ z, z = ((31 * h32) + ((B 6 1 9).toInt64)) := ⟨_, rfl⟩
  refine mNf (lv2 := [(4, .int 9), (1, .long h32), (3, .int 1), (0, .ref 0)]) (st2 := [.long h33]) rfl (by rw [eh33] <;> rfl) ?_
  refine mB hT 18 rfl ?_
  obtain ⟨h34, eh34⟩ : ∃ z, z = ((31 * h33) + ((B 6 1 10).toInt64)) := ⟨_, rfl⟩
  refine mNf (lv2 := [(4, .int 10), (1, .long h33), (3, .int 1), (0, .ref 0)]) (st2 := [.long h34]) rfl (by rw [eh34] <;> rfl) ?_
  refine mB hT 18 rfl ?_
  obtain ⟨h35, eh35⟩ : ∃ z, z = ((31 * h34) + ((B 6 1 11).toInt64)) := ⟨_, rfl⟩
  refine mNf (lv2 := [(4, .int 11), (1, .long h34), (3, .int 1), (0, .ref 0)]) (st2 := [.long h35]) rfl (by rw [eh35] <;> rfl) ?_
  refine mB hT 18 rfl ?_
  obtain ⟨h36, eh36⟩ : ∃ z, z = ((31 * h35) + ((B 6 1 12).toInt64)) := ⟨_, rfl⟩
  refine mNf (lv2 := [(4, .int 12), (1, .long h35), (3, .int 1), (0, .ref 0)]) (st2 := [.long h36]) rfl (by rw [eh36] <;> rfl) ?_
  refine mB hT 18 rfl ?_
  obtain ⟨h37, eh37⟩ : ∃ z, z = ((31 * h36) + ((B 6 1 13).toInt64)) := ⟨_, rfl⟩
  refine mNf (lv2 := [(4, .int 13), (1, .long h36), (3, .int 1), (0, .ref 0)]) (st2 := [.long h37]) rfl (by rw [eh37] <;> rfl) ?_
  refine mB hT 18 rfl ?_
  obtain ⟨h38, eh38⟩ : ∃ z, z = ((31 * h37) + ((B 6 1 14).toInt64)) := ⟨_, rfl⟩
  refine mNf (lv2 := [(4, .int 14), (1, .long h37), (3, .int 1), (0, .ref 0)]) (st2 := [.long h38]) rfl (by rw [eh38] <;> rfl) ?_
  refine mB hT 18 rfl ?_
  obtain ⟨h39, eh39⟩ : ∃ z, z = ((31 * h38) + ((B 6 1 15).toInt64)) := ⟨_, rfl⟩
  refine mNf (lv2 := [(4, .int 15), (1, .long h38), (3, .int 1), (0, .ref 0)]) (st2 := [.long h39]) rfl (by rw [eh39] <;> rfl) ?_
  refine mB hT 18 rfl ?_
  obtain ⟨h40, eh40⟩ : ∃ z, z = ((31 * h39) + ((B 6 1 16).toInt64)) := ⟨_, rfl⟩
  refine mNf (lv2 := [(4, .int 16), (1, .long h39), (3, .int 1), (0, .ref 0)]) (st2 := [.long h40]) rfl (by rw [eh40] <;> rfl) ?_
  refine mB hT 18 rfl ?_
  obtain ⟨h41, eh41⟩ : ∃ z, z = ((31 * h40) + ((B 6 1 17).toInt64)) := ⟨_, rfl⟩
  refine mNf (lv2 := [(4, .int 17), (1, .long h40), (3, .int 1), (0, .ref 0)]) (st2 := [.long h41]) rfl (by rw [eh41] <;> rfl) ?_
  refine mB hT 18 rfl ?_
  obtain ⟨h42, eh42⟩ : ∃ z, z = ((31 * h41) + ((B 6 1 18).toInt64)) := ⟨_, rfl⟩
  refine mNf (lv2 := [(4, .int 18), (1, .long h41), (3, .int 1), (0, .ref 0)]) (st2 := [.long h42]) rfl (by rw [eh42] <;> rfl) ?_
  refine mB hT 18 rfl ?_
  obtain ⟨h43, eh43⟩ : ∃ z, z = ((31 * h42) + ((B 6 1 19).toInt64)) := ⟨_, rfl⟩
  refine mNf (lv2 := [(4, .int 19), (1, .long h42), (3, .int 1), (0, .ref 0)]) (st2 := [.long h43]) rfl (by rw [eh43] <;> rfl) ?_
  refine mB hT 18 rfl ?_
  obtain ⟨h44, eh44⟩ : ∃ z, z = ((31 * h43) + ((B 6 1 20).toInt64)) := ⟨_, rfl⟩
  refine mNf (lv2 := [(4, .int 20), (1, .long h43), (3, .int 1), (0, .ref 0)]) (st2 := [.long h44]) rfl (by rw [eh44] <;> rfl) ?_
  refine mB hT 18 rfl ?_
  obtain ⟨h45, eh45⟩ : ∃ z, z = ((31 * h44) + ((B 6 1 21).toInt64)) := ⟨_, rfl⟩
  refine mNf (lv2 := [(4, .int 21), (1, .long h44), (3, .int 1), (0, .ref 0)]) (st2 := [.long h45]) rfl (by rw [eh45] <;> rfl) ?_
  refine mB hT 18 rfl ?_
  obtain ⟨h46, eh46⟩ : ∃ z, z = ((31 * h45) + ((B 6 1 22).toInt64)) := ⟨_, rfl⟩
  refine mNf (lv2 := [(4, .int 22), (1, .long h45), (3, .int 1), (0, .ref 0)]) (st2 := [.long h46]) rfl (by rw [eh46] <;> rfl) ?_
  refine mB hT 34 rfl ?_
  obtain ⟨h47, eh47⟩ : ∃ z, z = ((31 * h46) + ((hd 0 0).toInt64)) := ⟨_, rfl⟩
  refine mNf (lv2 := [(4, .int 0), (3, .int 0), (1, .long h46), (0, .ref 0)]) (st2 := [.long h47]) rfl (by rw [eh47] <;> rfl) ?_
  refine mB hT 18 rfl ?_
  obtain ⟨h48, eh48⟩ : ∃ z, z = ((31 * h47) + ((hd 0 1).toInt64)) := ⟨_, rfl⟩
  refine mNf (lv2 := [(4, .int 1), (1, .long h47), (3, .int 0), (0, .ref 0)]) (st2 := [.long h48]) rfl (by rw [eh48] <;> rfl) ?_
  refine mB hT 29 rfl ?_
  obtain ⟨h49, eh49⟩ : ∃ z, z = ((31 * h48) + ((hd 1 0).toInt64)) := ⟨_, rfl⟩
  refine mNf (lv2 := [(4, .int 0), (3, .int 1), (1, .long h48), (0, .ref 0)]) (st2 := [.long h49]) rfl (by rw [eh49] <;> rfl) ?_
  refine mB hT 18 rfl ?_
  obtain ⟨h50, eh50⟩ : ∃ z, z = ((31 * h49) + ((hd 1 1).toInt64)) := ⟨_, rfl⟩
  refine mNf (lv2 := [(4, .int 1), (1, .long h49), (3, .int 1), (0, .ref 0)]) (st2 := [.long h50]) rfl (by rw [eh50] <;> rfl) ?_
  refine mB hT 29 rfl ?_
  obtain ⟨h51, eh51⟩ : ∃ z, z = ((31 * h50) + ((hd 2 0).toInt64)) := ⟨_, rfl⟩
  refine mNf (lv2 := [(4, .int 0), (3, .int 2), (1, .long h50), (0, .ref 0)]) (st2 := [.long h51]) rfl (by rw [eh51] <;> rfl) ?_
  refine mB hT 18 rfl ?_
  obtain ⟨h52, eh52⟩ : ∃ z, z = ((31 * h51) + ((hd 2 1).toInt64)) := ⟨_, rfl⟩
  refine mNf (lv2 := [(4, .int 1), (1, .long h51), (3, .int 2), (0, .ref 0)]) (st2 := [.long h52]) rfl (by rw [eh52] <;> rfl) ?_
  refine mB hT 29 rfl ?_
  obtain ⟨h53, eh53⟩ : ∃ z, z = ((31 * h52) + ((hd 3 0).toInt64)) := ⟨_, rfl⟩
  refine mNf (lv2 := [(4, .int 0), (3, .int 3), (1, .long h52), (0, .ref 0)]) (st2 := [.long h53]) rfl (by rw [eh53] <;> rfl) ?_
  refine mB hT 18 rfl ?_
  obtain ⟨h54, eh54⟩ : ∃ z, z = ((31 * h53) + ((hd 3 1).toInt64)) := ⟨_, rfl⟩
  refine mNf (lv2 := [(4, .int 1), (1, .long h53), (3, .int 3), (0, .ref 0)]) (st2 := [.long h54]) rfl (by rw [eh54] <;> rfl) ?_
  refine mB hT 19 rfl ?_
  obtain ⟨h55, eh55⟩ : ∃ z, z = ((31 * h54) + ((Int32.ofNat vs).toInt64)) := ⟨_, rfl⟩
  refine mNf (lv2 := [(3, .int 4), (4, .int 2), (1, .long h54), (0, .ref 0)]) (st2 := [.long h55]) rfl (by rw [eh55] <;> rfl) ?_
  refine mB hT 5 rfl ?_
  refine hC _ 0 [] _ _ _ _ _ (hk2) rfl rfl (Nat.le_of_ble_eq_true rfl) rfl ?_
  refine mB hT 1 rfl ?_
  exact hR _ (by decide) _ _ _ (by subst eh1 eh2 eh3 eh4 eh5 eh6 eh7 eh8 eh9 eh10 eh11 eh12 eh13 eh14 eh15 eh16 eh17 eh18 eh19 eh20 eh21 eh22 eh23 eh24 eh25 eh26 eh27 eh28 eh29 eh30 eh31 eh32 eh33 eh34 eh35 eh36 eh37 eh38 eh39 eh40 eh41 eh42 eh43 eh44 eh45 eh46 eh47 eh48 eh49 eh50 eh51 eh52 eh53 eh54 eh55; rfl) rfl
set_option maxRecDepth 100000 in
set_option maxHeartbeats 4000000 in
theorem x_digest_3 {vs : Nat} {be de : Int64} {sz : Int32} {ro co mi : Nat → Int64} {T : Nat → Nat → Int64} {B : Nat → Nat → Nat → Int32} {hd : Nat → Nat → Int32} {df : Nat → Int32} : ∃ (be2 de2 : Int64) (sz2 : Int32) (ro2 co2 mi2 : Nat → Int64) (T2 : Nat → Nat → Int64), KX2_digest l D ca ad [.ref 0] (XW 3 (Int32.ofNat vs) be de sz ro co mi T B hd df) (some (.long (dgS 151 (dgL 3 (B 6) hd (Int32.ofNat vs) (detX 3 (lyT 3 (B 6) T)))))) (XW 3 (Int32.ofNat vs) be2 de2 sz2 ro2 co2 mi2 T2 B hd df) := by
  obtain ⟨be2, de2, sz2, ro2, co2, mi2, T2, hk2⟩ := x_worth_3 (l := l) (D := D) (ca := ca) (ad := ad) (vs := vs) (be := be) (de := de) (sz := sz) (ro := ro) (co := co) (mi := mi) (T := T) (B := B) (hd := hd) (df := df)
  obtain ⟨dt, edt⟩ : ∃ z, z = (detX 3 (lyT 3 (B 6) T)) := ⟨_, rfl⟩
  rw [← edt] at hk2 ⊢
  refine ⟨be2, de2, sz2, ro2, co2, mi2, T2, ?_⟩
  refine PX2_digest (Nat.le_of_ble_eq_true rfl) ?_
  intro G hT hC hR
  refine mB hT 25 rfl ?_
  obtain ⟨h1, eh1⟩ : ∃ z, z = (4681 + ((B 6 0 0).toInt64)) := ⟨_, rfl⟩
  refine mNf (lv2 := [(4, .int 0), (3, .int 0), (1, .long 151), (0, .ref 0)]) (st2 := [.long h1]) rfl (by rw [eh1] <;> rfl) ?_
  refine mB hT 18 rfl ?_
  obtain ⟨h2, eh2⟩ : ∃ z, z = ((31 * h1) + ((B 6 0 1).toInt64)) := ⟨_, rfl⟩
  refine mNf (lv2 := [(4, .int 1), (1, .long h1), (3, .int 0), (0, .ref 0)]) (st2 := [.long h2]) rfl (by rw [eh2] <;> rfl) ?_
  refine mB hT 18 rfl ?_
  obtain ⟨h3, eh3⟩ : ∃ z, z = ((31 * h2) + ((B 6 0 2).toInt64)) := ⟨_, rfl⟩
  refine mNf (lv2 := [(4, .int 2), (1, .long h2), (3, .int 0), (0, .ref 0)]) (st2 := [.long h3]) rfl (by rw [eh3] <;> rfl) ?_
  refine mB hT 18 rfl ?_
  obtain ⟨h4, eh4⟩ : ∃ z, z = ((31 * h3) + ((B 6 0 3).toInt64)) := ⟨_, rfl⟩
  refine mNf (lv2 := [(4, .int 3), (1, .long h3), (3, .int 0), (0, .ref 0)]) (st2 := [.long h4]) rfl (by rw [eh4] <;> rfl) ?_
  refine mB hT 18 rfl ?_
  obtain ⟨h5, eh5⟩ : ∃ z, z = ((31 * h4) + ((B 6 0 4).toInt64)) := ⟨_, rfl⟩
  refine mNf (lv2 := [(4, .int 4), (1, .long h4), (3, .int 0), (0, .ref 0)]) (st2 := [.long h5]) rfl (by rw [eh5] <;> rfl) ?_
  refine mB hT 18 rfl ?_
  obtain ⟨h6, eh6⟩ : ∃ z, z = ((31 * h5) + ((B 6 0 5).toInt64)) := ⟨_, rfl⟩
  refine mNf (lv2 := [(4, .int 5), (1, .long h5), (3, .int 0), (0, .ref 0)]) (st2 := [.long h6]) rfl (by rw [eh6] <;> rfl) ?_
  refine mB hT 18 rfl ?_
  obtain ⟨h7, eh7⟩ : ∃ z, z = ((31 * h6) + ((B 6 0 6).toInt64)) := ⟨_, rfl⟩
  refine mNf (lv2 := [(4, .int 6), (1, .long h6), (3, .int 0), (0, .ref 0)]) (st2 := [.long h7]) rfl (by rw [eh7] <;> rfl) ?_
  refine mB hT 18 rfl ?_
  obtain ⟨h8, eh8⟩ : ∃ z, z = ((31 * h7) + ((B 6 0 7).toInt64)) := ⟨_, rfl⟩
  refine mNf (lv2 := [(4, .int 7), (1, .long h7), (3, .int 0), (0, .ref 0)]) (st2 := [.long h8]) rfl (by rw [eh8] <;> rfl) ?_
  refine mB hT 18 rfl ?_
  obtain ⟨h9, eh9⟩ : ∃ z, z = ((31 * h8) + ((B 6 0 8).toInt64)) := ⟨_, rfl⟩
  refine mNf (lv2 := [(4, .int 8), (1, .long h8), (3, .int 0), (0, .ref 0)]) (st2 := [.long h9]) rfl (by rw [eh9] <;> rfl) ?_
  refine mB hT 18 rfl ?_
  obtain ⟨h10, eh10⟩ : ∃ z, z = ((31 * h9) + ((B 6 0 9).toInt64)) := ⟨_, rfl⟩
  refine mNf (lv2 := [(4, .int 9), (1, .long h9), (3, .int 0), (0, .ref 0)]) (st2 := [.long h10]) rfl (by rw [eh10] <;> rfl) ?_
  refine mB hT 18 rfl ?_
  obtain ⟨h11, eh11⟩ : ∃ z, z = ((31 * h10) + ((B 6 0 10).toInt64)) := ⟨_, rfl⟩
  refine mNf (lv2 := [(4, .int 10), (1, .long h10), (3, .int 0), (0, .ref 0)]) (st2 := [.long h11]) rfl (by rw [eh11] <;> rfl) ?_
  refine mB hT 18 rfl ?_
  obtain ⟨h12, eh12⟩ : ∃ z, z = ((31 * h11) + ((B 6 0 11).toInt64)) := ⟨_, rfl⟩
  refine mNf (lv2 := [(4, .int 11), (1, .long h11), (3, .int 0), (0, .ref 0)]) (st2 := [.long h12]) rfl (by rw [eh12] <;> rfl) ?_
  refine mB hT 18 rfl ?_
  obtain ⟨h13, eh13⟩ : ∃ z, z = ((31 * h12) + ((B 6 0 12).toInt64)) := ⟨_, rfl⟩
  refine mNf (lv2 := [(4, .int 12), (1, .long h12), (3, .int 0), (0, .ref 0)]) (st2 := [.long h13]) rfl (by rw [eh13] <;> rfl) ?_
  refine mB hT 18 rfl ?_
  obtain ⟨h14, eh14⟩ : ∃ z, z = ((31 * h13) + ((B 6 0 13).toInt64)) := ⟨_, rfl⟩
  refine mNf (lv2 := [(4, .int 13), (1, .long h13), (3, .int 0), (0, .ref 0)]) (st2 := [.long h14]) rfl (by rw [eh14] <;> rfl) ?_
  refine mB hT 18 rfl ?_
  obtain ⟨h15, eh15⟩ : ∃ z, z = ((31 * h14) + ((B 6 0 14).toInt64)) := ⟨_, rfl⟩
  refine mNf (lv2 := [(4, .int 14), (1, .long h14), (3, .int 0), (0, .ref 0)]) (st2 := [.long h15]) rfl (by rw [eh15] <;> rfl) ?_
  refine mB hT 18 rfl ?_
  obtain ⟨h16, eh16⟩ : ∃ z, z = ((31 * h15) + ((B 6 0 15).toInt64)) := ⟨_, rfl⟩
  refine mNf (lv2 := [(4, .int 15), (1, .long h15), (3, .int 0), (0, .ref 0)]) (st2 := [.long h16]) rfl (by rw [eh16] <;> rfl) ?_
  refine mB hT 18 rfl ?_
  obtain ⟨h17, eh17⟩ : ∃ z, z = ((31 * h16) + ((B 6 0 16).toInt64)) := ⟨_, rfl⟩
  refine mNf (lv2 := [(4, .int 16), (1, .long h16), (3, .int 0), (0, .ref 0)]) (st2 := [.long h17]) rfl (by rw [eh17] <;> rfl) ?_
  refine mB hT 18 rfl ?_
  obtain ⟨h18, eh18⟩ : ∃ z, z = ((31 * h17) + ((B 6 0 17).toInt64)) := ⟨_, rfl⟩
  refine mNf (lv2 := [(4, .int 17), (1, .long h17), (3, .int 0), (0, .ref 0)]) (st2 := [.long h18]) rfl (by rw [eh18] <;> rfl) ?_
  refine mB hT 18 rfl ?_
  obtain ⟨h19, eh19⟩ : ∃ z, z = ((31 * h18) + ((B 6 0 18).toInt64)) := ⟨_, rfl⟩
  refine mNf (lv2 := [(4, .int 18), (1, .long h18), (3, .int 0), (0, .ref 0)]) (st2 := [.long h19]) rfl (by rw [eh19] <;> rfl) ?_
  refine mB hT 18 rfl ?_
  obtain ⟨h20, eh20⟩ : ∃ z, z = ((31 * h19) + ((B 6 0 19).toInt64)) := ⟨_, rfl⟩
  refine mNf (lv2 := [(4, .int 19), (1, .long h19), (3, .int 0), (0, .ref 0)]) (st2 := [.long h20]) rfl (by rw [eh20] <;> rfl) ?_
  refine mB hT 18 rfl ?_
  obtain ⟨h21, eh21⟩ : ∃ z, z = ((31 * h20) + ((B 6 0 20).toInt64)) := ⟨_, rfl⟩
  refine mNf (lv2 := [(4, .int 20), (1, .long h20), (3, .int 0), (0, .ref 0)]) (st2 := [.long h21]) rfl (by rw [eh21] <;> rfl) ?_
  refine mB hT 18 rfl ?_
  obtain ⟨h22, eh22⟩ : ∃ z, z = ((31 * h21) + ((B 6 0 21).toInt64)) := ⟨_, rfl⟩
  refine mNf (lv2 := [(4, .int 21), (1, .long h21), (3, .int 0), (0, .ref 0)]) (st2 := [.long h22]) rfl (by rw [eh22] <;> rfl) ?_
  refine mB hT 18 rfl ?_
  obtain ⟨h23, eh23⟩ : ∃ z, z = ((31 * h22) + ((B 6 0 22).toInt64)) := ⟨_, rfl⟩
  refine mNf (lv2 := [(4, .int 22), (1, .long h22), (3, .int 0), (0, .ref 0)]) (st2 := [.long h23]) rfl (by rw [eh23] <;> rfl) ?_
  refine mB hT 29 rfl ?_
  obtain ⟨h24, eh24⟩ : ∃ z, z = ((31 * h23) + ((B 6 1 0).toInt64)) := ⟨_, rfl⟩
  refine mNf (lv2 := [(4, .int 0), (3, .int 1), (1, .long h23), (0, .ref 0)]) (st2 := [.long h24]) rfl (by rw [eh24] <;> rfl) ?_
  refine mB hT 18 rfl ?_
  obtain ⟨h25, eh25⟩ : ∃ z, z = ((31 * h24) + ((B 6 1 1).toInt64)) := ⟨_, rfl⟩
  refine mNf (lv2 := [(4, .int 1), (1, .long h24), (3, .int 1), (0, .ref 0)]) (st2 := [.long h25]) rfl (by rw [eh25] <;> rfl) ?_
  refine mB hT 18 rfl ?_
  obtain ⟨h26, eh26⟩ : ∃ z, z = ((31 * h25) + ((B 6 1 2).toInt64)) := ⟨_, rfl⟩
  refine mNf (lv2 := [(4, .int 2), (1, .long h25), (3, .int 1), (0, .ref 0)]) (st2 := [.long h26]) rfl (by rw [eh26] <;> rfl) ?_
  refine mB hT 18 rfl ?_
  obtain ⟨h27, eh27⟩ : ∃ z, z = ((31 * h26) + ((B 6 1 3).toInt64)) := ⟨_, rfl⟩
  refine mNf (lv2 := [(4, .int 3), (1, .long h26), (3, .int 1), (0, .ref 0)]) (st2 := [.long h27]) rfl (by rw [eh27] <;> rfl) ?_
  refine mB hT 18 rfl ?_
  obtain ⟨h28, eh28⟩ : ∃ z, z = ((31 * h27) + ((B 6 1 4).toInt64)) := ⟨_, rfl⟩
  refine mNf (lv2 := [(4, .int 4), (1, .long h27), (3, .int 1), (0, .ref 0)]) (st2 := [.long h28]) rfl (by rw [eh28] <;> rfl) ?_
  refine mB hT 18 rfl ?_
  obtain ⟨h29, eh29⟩ : ∃ z, z = ((31 * h28) + ((B 6 1 5).toInt64)) := ⟨_, rfl⟩
  refine mNf (lv2 := [(4, .int 5), (1, .long h28), (3, .int 1), (0, .ref 0)]) (st2 := [.long h29]) rfl (by rw [eh29] <;> rfl) ?_
  refine mB hT 18 rfl ?_
  obtain ⟨h30, eh30⟩ : ∃ z, z = ((31 * h29) + ((B 6 1 6).toInt64)) := ⟨_, rfl⟩
  refine mNf (lv2 := [(4, .int 6), (1, .long h29), (3, .int 1), (0, .ref 0)]) (st2 := [.long h30]) rfl (by rw [eh30] <;> rfl) ?_
  refine mB hT 18 rfl ?_
  obtain ⟨h31, eh31⟩ : ∃ z, z = ((31 * h30) + ((B 6 1 7).toInt64)) := ⟨_, rfl⟩
  refine mNf (lv2 := [(4, .int 7), (1, .long h30), (3, .int 1), (0, .ref 0)]) (st2 := [.long h31]) rfl (by rw [eh31] <;> rfl) ?_
  refine mB hT 18 rfl ?_
  obtain ⟨h32, eh32⟩ : ∃ z, z = ((31 * h31) + ((B 6 1 8).toInt64)) := ⟨_, rfl⟩
  refine mNf (lv2 := [(4, .int 8), (1, .long h31), (3, .int 1), (0, .ref 0)]) (st2 := [.long h32]) rfl (by rw [eh32] <;> rfl) ?_
  refine mB hT 18 rfl ?_
  obtain ⟨h33, eh33⟩ : ∃ z, z = ((31 * h32) + ((B 6 1 9).toInt64)) := ⟨_, rfl⟩
  refine mNf (lv2 := [(4, .int 9), (1, .long h32), (3, .int 1), (0, .ref 0)]) (st2 := [.long h33]) rfl (by rw [eh33] <;> rfl) ?_
  refine mB hT 18 rfl ?_
  obtain ⟨h34, eh34⟩ : ∃ z, z = ((31 * h33) + ((B 6 1 10).toInt64)) := ⟨_, rfl⟩
  refine mNf (lv2 := [(4, .int 10), (1, .long h33), (3, .int 1), (0, .ref 0)]) (st2 := [.long h34]) rfl (by rw [eh34] <;> rfl) ?_
  refine mB hT 18 rfl ?_
  obtain ⟨h35, eh35⟩ : ∃ z, z = ((31 * h34) + ((B 6 1 11).toInt64)) := ⟨_, rfl⟩
  refine mNf (lv2 := [(4, .int 11), (1, .long h34), (3, .int 1), (0, .ref 0)]) (st2 := [.long h35]) rfl (by rw [eh35] <;> rfl) ?_
  refine mB hT 18 rfl ?_
  obtain ⟨h36, eh36⟩ : ∃ z, z = ((31 * h35) + ((B 6 1 12).toInt64)) := ⟨_, rfl⟩
  refine mNf (lv2 := [(4, .int 12), (1, .long h35), (3, .int 1), (0, .ref 0)]) (st2 := [.long h36]) rfl (by rw [eh36] <;> rfl) ?_
  refine mB hT 18 rfl ?_
  obtain ⟨h37, eh37⟩ : ∃ z, z = ((31 * h36) + ((B 6 1 13).toInt64)) := ⟨_, rfl⟩
  refine mNf (lv2 := [(4, .int 13), (1, .long h36), (3, .int 1), (0, .ref 0)]) (st2 := [.long h37]) rfl (by rw [eh37] <;> rfl) ?_
  refine mB hT 18 rfl ?_
  obtain ⟨h38, eh38⟩ : ∃ z, z = ((31 * h37) + ((B 6 1 14).toInt64)) := ⟨_, rfl⟩
  refine mNf (lv2 := [(4, .int 14), (1, .long h37), (3, .int 1), (0, .ref 0)]) (st2 := [.long h38]) rfl (by rw [eh38] <;> rfl) ?_
  refine mB hT 18 rfl ?_
  obtain ⟨h39, eh39⟩ : ∃ z, z = ((31 * h38) + ((B 6 1 15).toInt64)) := ⟨_, rfl⟩
  refine mNf (lv2 := [(4, .int 15), (1, .long h38), (3, .int 1), (0, .ref 0)]) (st2 := [.long h39]) rfl (by rw [eh39] <;> rfl) ?_
  refine mB hT 18 rfl ?_
  obtain ⟨h40, eh40⟩ : ∃ z, z = ((31 * h39) + ((B 6 1 16).toInt64)) := ⟨_, rfl⟩
  refine mNf (lv2 := [(4, .int 16), (1, .long h39), (3, .int 1), (0, .ref 0)]) (st2 := [.long h40]) rfl (by rw [eh40] <;> rfl) ?_
  refine mB hT 18 rfl ?_
  obtain ⟨h41, eh41⟩ : ∃ z, z = ((31 * h40) + ((B 6 1 17).toInt64)) := ⟨_, rfl⟩
  refine mNf (lv2 := [(4, .int 17), (1, .long h40), (3, .int 1), (0, .ref 0)]) (st2 := [.long h41]) rfl (by rw [eh41] <;> rfl) ?_
  refine mB hT 18 rfl ?_
  obtain ⟨h42, eh42⟩ : ∃ z, z = ((31 * h41) + ((B 6 1 18).toInt64)) := ⟨_, rfl⟩
  refine mNf (lv2 := [(4, .int 18), (1, .long h41), (3, .int 1), (0, .ref 0)]) (st2 := [.long h42]) rfl (by rw [eh42] <;> rfl) ?_
  refine mB hT 18 rfl ?_
  obtain ⟨h43, eh43⟩ : ∃ z, z = ((31 * h42) + ((B 6 1 19).toInt64)) := ⟨_, rfl⟩
  refine mNf (lv2 := [(4, .int 19), (1, .long h42), (3, .int 1), (0, .ref 0)]) (st2 := [.long h43]) rfl (by rw [eh43] <;> rfl) ?_
  refine mB hT 18 rfl ?_
  obtain ⟨h44, eh44⟩ : ∃ z, z = ((31 * h43) + ((B 6 1 20).toInt64)) := ⟨_, rfl⟩
  refine mNf (lv2 := [(4, .int 20), (1, .long h43), (3, .int 1), (0, .ref 0)]) (st2 := [.long h44]) rfl (by rw [eh44] <;> rfl) ?_
  refine mB hT 18 rfl ?_
  obtain ⟨h45, eh45⟩ : ∃ z, z = ((31 * h44) + ((B 6 1 21).toInt64)) := ⟨_, rfl⟩
  refine mNf (lv2 := [(4, .int 21), (1, .long h44), (3, .int 1), (0, .ref 0)]) (st2 := [.long h45]) rfl (by rw [eh45] <;> rfl) ?_
  refine mB hT 18 rfl ?_
  obtain ⟨h46, eh46⟩ : ∃ z, z = ((31 * h45) + ((B 6 1 22).toInt64)) := ⟨_, rfl⟩
  refine mNf (lv2 := [(4, .int 22), (1, .long h45), (3, .int 1), (0, .ref 0)]) (st2 := [.long h46]) rfl (by rw [eh46] <;> rfl) ?_
  refine mB hT 29 rfl ?_
  obtain ⟨h47, eh47⟩ : ∃ z, z = ((31 * h46) + ((B 6 2 0).toInt64)) := ⟨_, rfl⟩
  refine mNf (lv2 := [(4, .int 0), (3, .int 2), (1, .long h46), (0, .ref 0)]) (st2 := [.long h47]) rfl (by rw [eh47] <;> rfl) ?_
  refine mB hT 18 rfl ?_
  obtain ⟨h48, eh48⟩ : ∃ z, z = ((31 * h47) + ((B 6 2 1).toInt64)) := ⟨_, rfl⟩
  refine mNf (lv2 := [(4, .int 1), (1, .long h47), (3, .int 2), (0, .ref 0)]) (st2 := [.long h48]) rfl (by rw [eh48] <;> rfl) ?_
  refine mB hT 18 rfl ?_
  obtain ⟨h49, eh49⟩ : ∃ z, z = ((31 * h48) + ((B 6 2 2).toInt64)) := ⟨_, rfl⟩
  refine mNf (lv2 := [(4, .int 2), (1, .long h48), (3, .int 2), (0, .ref 0)]) (st2 := [.long h49]) rfl (by rw [eh49] <;> rfl) ?_
  refine mB hT 18 rfl ?_
  obtain ⟨h50, eh50⟩ : ∃ z, z = ((31 * h49) + ((B 6 2 3).toInt64)) := ⟨_, rfl⟩
  refine mNf (lv2 := [(4, .int 3), (1, .long h49), (3, .int 2), (0, .ref 0)]) (st2 := [.long h50]) rfl (by rw [eh50] <;> rfl) ?_
  refine mB hT 18 rfl ?_
  obtain ⟨h51, eh51⟩ : ∃ z, z = ((31 * h50) + ((B 6 2 4).toInt64)) := ⟨_, rfl⟩
  refine mNf (lv2 := [(4, .int 4), (1, .long h50), (3, .int 2), (0, .ref 0)]) (st2 := [.long h51]) rfl (by rw [eh51] <;> rfl) ?_
  refine mB hT 18 rfl ?_
  obtain ⟨h52, eh52⟩ : ∃ z, z = ((31 * h51) + ((B 6 2 5).toInt64)) := ⟨_, rfl⟩
  refine mNf (lv2 := [(4, .int 5), (1, .long h51), (3, .int 2), (0, .ref 0)]) (st2 := [.long h52]) rfl (by rw [eh52] <;> rfl) ?_
  refine mB hT 18 rfl ?_
  obtain ⟨h53, eh53⟩ : ∃ z, z = ((31 * h52) + ((B 6 2 6).toInt64)) := ⟨_, rfl⟩
  refine mNf (lv2 := [(4, .int 6), (1, .long h52), (3, .int 2), (0, .ref 0)]) (st2 := [.long h53]) rfl (by rw [eh53] <;> rfl) ?_
  refine mB hT 18 rfl ?_
  obtain ⟨h54, eh54⟩ : ∃ z, z = ((31 * h53) + ((B 6 2 7).toInt64)) := ⟨_, rfl⟩
  refine mNf (lv2 := [(4, .int 7), (1, .long h53), (3, .int 2), (0, .ref 0)]) (st2 := [.long h54]) rfl (by rw [eh54] <;> rfl) ?_
  refine mB hT 18 rfl ?_
  obtain ⟨h55, eh55⟩ : ∃ z, z = ((31 * h54) + ((B 6 2 8).toInt64)) := ⟨_, rfl⟩
  refine mNf (lv2 := [(4, .int 8), (1, .long h54), (3, .int 2), (0, .ref 0)]) (st2 := [.long h55]) rfl (by rw [eh55] <;> rfl) ?_
  refine mB hT 18 rfl ?_
  obtain ⟨h56, eh56⟩ : ∃ z, z = ((31 * h55) + ((B 6 2 9).toInt64)) := ⟨_, rfl⟩
  refine mNf (lv2 := [(4, .int 9), (1, .long h55), (3, .int 2), (0, .ref 0)]) (st2 := [.long h56]) rfl (by rw [eh56] <;> rfl) ?_
  refine mB hT 18 rfl ?_
  obtain ⟨h57, eh57⟩ : ∃ z, z = ((31 * h56) + ((B 6 2 10).toInt64)) := ⟨_, rfl⟩
  refine mNf (lv2 := [(4, .int 10), (1, .long h56), (3, .int 2), (0, .ref 0)]) (st2 := [.long h57]) rfl (by rw [eh57] <;> rfl) ?_
  refine mB hT 18 rfl ?_
  obtain ⟨h58, eh58⟩ : ∃ z, z = ((31 * h57) + ((B 6 2 11).toInt64)) := ⟨_, rfl⟩
  refine mNf (lv2 := [(4, .int 11), (1, .long h57), (3, .int 2), (0, .ref 0)]) (st2 := [.long h58]) rfl (by rw [eh58] <;> rfl) ?_
  refine mB hT 18 rfl ?_
  obtain ⟨h59, eh59⟩ : ∃ z, z = ((31 * h58) + ((B 6 2 12).toInt64)) := ⟨_, rfl⟩
  refine mNf (lv2 := [(4, .int 12), (1, .long h58), (3, .int 2), (0, .ref 0)]) (st2 := [.long h59]) rfl (by rw [eh59] <;> rfl) ?_
  refine mB hT 18 rfl ?_
  obtain ⟨h60, eh60⟩ : ∃ z, z = ((31 * h59) + ((B 6 2 13).toInt64)) := ⟨_, rfl⟩
  refine mNf (lv2 := [(4, .int 13), (1, .long h59), (3, .int 2), (0, .ref 0)]) (st2 := [.long h60]) rfl (by rw [eh60] <;> rfl) ?_
  refine mB hT 18 rfl ?_
  obtain ⟨h61, eh61⟩ : ∃ z, z = ((31 * h60) + ((B 6 2 14).toInt64)) := ⟨_, rfl⟩
  refine mNf (lv2 := [(4, .int 14), (1, .long h60), (3, .int 2), (0, .ref 0)]) (st2 := [.long h61]) rfl (by rw [eh61] <;> rfl) ?_
  refine mB hT 18 rfl ?_
  obtain ⟨h62, eh62⟩ : ∃ z, z = ((31 * h61) + ((B 6 2 15).toInt64)) := ⟨_, rfl⟩
  refine mNf (lv2 := [(4, .int 15), (1, .long h61), (3, .int 2), (0, .ref 0)]) (st2 := [.long h62]) rfl (by rw [eh62] <;> rfl) ?_
  refine mB hT 18 rfl ?_
  obtain ⟨h63, eh63⟩ : ∃ z, z = ((31 * h62) + ((B 6 2 16).toInt64)) := ⟨_, rfl⟩
  refine mNf (lv2 := [(4, .int 16), (1, .long h62), (3, .int 2), (0, .ref 0)]) (st2 := [.long h63]) rfl (by rw [eh63] <;> rfl) ?_
  refine mB hT 18 rfl ?_
  obtain ⟨h64, eh64⟩ : ∃ z, z = ((31 * h63) + ((B 6 2 17).toInt64)) := ⟨_, rfl⟩
  refine mNf (lv2 := [(4, .int 17), (1, .long h63), (3, .int 2), (0, .ref 0)]) (st2 := [.long h64]) rfl (by rw [eh64] <;> rfl) ?_
  refine mB hT 18 rfl ?_
  obtain ⟨h65, eh65⟩ : ∃ z, z = ((31 * h64) + ((B 6 2 18).toInt64)) := ⟨_, rfl⟩
  refine mNf (lv2 := [(4, .int 18), (1, .long h64), (3, .int 2), (0, .ref 0)]) (st2 := [.long h65]) rfl (by rw [eh65] <;> rfl) ?_
  refine mB hT 18 rfl ?_
  obtain ⟨h66, eh66⟩ : ∃ z, z = ((31 * h65) + ((B 6 2 19).toInt64)) := ⟨_, rfl⟩
  refine mNf (lv2 := [(4, .int 19), (1, .long h65), (3, .int 2), (0, .ref 0)]) (st2 := [.long h66]) rfl (by rw [eh66] <;> rfl) ?_
  refine mB hT 18 rfl ?_
  obtain ⟨h67, eh67⟩ : ∃ z, z = ((31 * h66) + ((B 6 2 20).toInt64)) := ⟨_, rfl⟩
  refine mNf (lv2 := [(4, .int 20), (1, .long h66), (3, .int 2), (0, .ref 0)]) (st2 := [.long h67]) rfl (by rw [eh67] <;> rfl) ?_
  refine mB hT 18 rfl ?_
  obtain ⟨h68, eh68⟩ : ∃ z, z = ((31 * h67) + ((B 6 2 21).toInt64)) := ⟨_, rfl⟩
  refine mNf (lv2 := [(4, .int 21), (1, .long h67), (3, .int 2), (0, .ref 0)]) (st2 := [.long h68]) rfl (by rw [eh68] <;> rfl) ?_
  refine mB hT 18 rfl ?_
  obtain ⟨h69, eh69⟩ : ∃ z, z = ((31 * h68) + ((B 6 2 22).toInt64)) := ⟨_, rfl⟩
  refine mNf (lv2 := [(4, .int 22), (1, .long h68), (3, .int 2), (0, .ref 0)]) (st2 := [.long h69]) rfl (by rw [eh69] <;> rfl) ?_
  refine mB hT 34 rfl ?_
  obtain ⟨h70, eh70⟩ : ∃ z, z = ((31 * h69) + ((hd 0 0).toInt64)) := ⟨_, rfl⟩
  refine mNf (lv2 := [(4, .int 0), (3, .int 0), (1, .long h69), (0, .ref 0)]) (st2 := [.long h70]) rfl (by rw [eh70] <;> rfl) ?_
  refine mB hT 18 rfl ?_
  obtain ⟨h71, eh71⟩ : ∃ z, z = ((31 * h70) + ((hd 0 1).toInt64)) := ⟨_, rfl⟩
  refine mNf (lv2 := [(4, .int 1), (1, .long h70), (3, .int 0), (0, .ref 0)]) (st2 := [.long h71]) rfl (by rw [eh71] <;> rfl) ?_
  refine mB hT 18 rfl ?_
  obtain ⟨h72, eh72⟩ : ∃ z, z = ((31 * h71) + ((hd 0 2).toInt64)) := ⟨_, rfl⟩
  refine mNf (lv2 := [(4, .int 2), (1, .long h71), (3, .int 0), (0, .ref 0)]) (st2 := [.long h72]) rfl (by rw [eh72] <;> rfl) ?_
  refine mB hT 29 rfl ?_
  obtain ⟨h73, eh73⟩ : ∃ z, z = ((31 * h72) + ((hd 1 0).toInt64)) := ⟨_, rfl⟩
  refine mNf (lv2 := [(4, .int 0), (3, .int 1), (1, .long h72), (0, .ref 0)]) (st2 := [.long h73]) rfl (by rw [eh73] <;> rfl) ?_
  refine mB hT 18 rfl ?_
  obtain ⟨h74, eh74⟩ : ∃ z, z = ((31 * h73) + ((hd 1 1).toInt64)) := ⟨_, rfl⟩
  refine mNf (lv2 := [(4, .int 1), (1, .long h73), (3, .int 1), (0, .ref 0)]) (st2 := [.long h74]) rfl (by rw [eh74] <;> rfl) ?_
  refine mB hT 18 rfl ?_
  obtain ⟨h75, eh75⟩ : ∃ z, z = ((31 * h74) + ((hd 1 2).toInt64)) := ⟨_, rfl⟩
  refine mNf (lv2 := [(4, .int 2), (1, .long h74), (3, .int 1), (0, .ref 0)]) (st2 := [.long h75]) rfl (by rw [eh75] <;> rfl) ?_
  refine mB hT 29 rfl ?_
  obtain ⟨h76, eh76⟩ : ∃ z, z = ((31 * h75) + ((hd 2 0).toInt64)) := ⟨_, rfl⟩
  refine mNf (lv2 := [(4, .int 0), (3, .int 2), (1, .long h75), (0, .ref 0)]) (st2 := [.long h76]) rfl (by rw [eh76] <;> rfl) ?_
  refine mB hT 18 rfl ?_
  obtain ⟨h77, eh77⟩ : ∃ z, z = ((31 * h76) + ((hd 2 1).toInt64)) := ⟨_, rfl⟩
  refine mNf (lv2 := [(4, .int 1), (1, .long h76), (3, .int 2), (0, .ref 0)]) (st2 := [.long h77]) rfl (by rw [eh77] <;> rfl) ?_
  refine mB hT 18 rfl ?_
  obtain ⟨h78, eh78⟩ : ∃ z, z = ((31 * h77) + ((hd 2 2).toInt64)) := ⟨_, rfl⟩
  refine mNf (lv2 := [(4, .int 2), (1, .long h77), (3, .int 2), (0, .ref 0)]) (st2 := [.long h78]) rfl (by rw [eh78] <;> rfl) ?_
  refine mB hT 29 rfl ?_
  obtain ⟨h79, eh79⟩ : ∃ z, z = ((31 * h78) + ((hd 3 0).toInt64)) := ⟨_, rfl⟩
  refine mNf (lv2 := [(4, .int 0), (3, .int 3), (1, .long h78), (0, .ref 0)]) (st2 := [.long h79]) rfl (by rw [eh79] <;> rfl) ?_
  refine mB hT 18 rfl ?_
  obtain ⟨h80, eh80⟩ : ∃ z, z = ((31 * h79) + ((hd 3 1).toInt64)) := ⟨_, rfl⟩
  refine mNf (lv2 := [(4, .int 1), (1, .long h79), (3, .int 3), (0, .ref 0)]) (st2 := [.long h80]) rfl (by rw [eh80] <;> rfl) ?_
  refine mB hT 18 rfl ?_
  obtain ⟨h81, eh81⟩ : ∃ z, z = ((31 * h80) + ((hd 3 2).toInt64)) := ⟨_, rfl⟩
  refine mNf (lv2 := [(4, .int 2), (1, .long h80), (3, .int 3), (0, .ref 0)]) (st2 := [.long h81]) rfl (by rw [eh81] <;> rfl) ?_
  refine mB hT 19 rfl ?_
  obtain ⟨h82, eh82⟩ : ∃ z, z = ((31 * h81) + ((Int32.ofNat vs).toInt64)) := ⟨_, rfl⟩
  refine mNf (lv2 := [(3, .int 4), (4, .int 3), (1, .long h81), (0, .ref 0)]) (st2 := [.long h82]) rfl (by rw [eh82] <;> rfl) ?_
  refine mB hT 5 rfl ?_
  refine hC _ 0 [] _ _ _ _ _ (hk2) rfl rfl (Nat.le_of_ble_eq_true rfl) rfl ?_
  refine mB hT 1 rfl ?_
  exact hR _ (by decide) _ _ _ (by subst eh1 eh2 eh3 eh4 eh5 eh6 eh7 eh8 eh9 eh10 eh11 eh12 eh13 eh14 eh15 eh16 eh17 eh18 eh19 eh20 eh21 eh22 eh23 eh24 eh25 eh26 eh27 eh28 eh29 eh30 eh31 eh32 eh33 eh34 eh35 eh36 eh37 eh38 eh39 eh40 eh41 eh42 eh43 eh44 eh45 eh46 eh47 eh48 eh49 eh50 eh51 eh52 eh53 eh54 eh55 eh56 eh57 eh58 eh59 eh60 eh61 eh62 eh63 eh64 eh65 eh66 eh67 eh68 eh69 eh70 eh71 eh72 eh73 eh74 eh75 eh76 eh77 eh78 eh79 eh80 eh81 eh82; rfl) rfl
set_option maxRecDepth 100000 in
set_option maxHeartbeats 4000000 in
theorem x_digest_4 {vs : Nat} {be de : Int64} {sz : Int32} {ro co mi : Nat → Int64} {T : Nat → Nat → Int64} {B : Nat → Nat → Nat → Int32} {hd : Nat → Nat → Int32} {df : Nat → Int32} : ∃ (be2 de2 : Int64) (sz2 : Int32) (ro2 co2 mi2 : Nat → Int64) (T2 : Nat → Nat → Int64), KX2_digest l D ca ad [.ref 0] (XW 4 (Int32.ofNat vs) be de sz ro co mi T B hd df) (some (.long (dgS 151 (dgL 4 (B 6) hd (Int32.ofNat vs) (detX 4 (lyT 4 (B 6) T)))))) (XW 4 (Int32.ofNat vs) be2 de2 sz2 ro2 co2 mi2 T2 B hd df) := by
  obtain ⟨be2, de2, sz2, ro2, co2, mi2, T2, hk2⟩ := x_worth_4 (l := l) (D := D) (ca := ca) (ad := ad) (vs := vs) (be := be) (de := de) (sz := sz) (ro := ro) (co := co) (mi := mi) (T := T) (B := B) (hd := hd) (df := df)
  obtain ⟨dt, edt⟩ : ∃ z, z = (detX 4 (lyT 4 (B 6) T)) := ⟨_, rfl⟩
  rw [← edt] at hk2 ⊢
  refine ⟨be2, de2, sz2, ro2, co2, mi2, T2, ?_⟩
  refine PX2_digest (Nat.le_of_ble_eq_true rfl) ?_
  intro G hT hC hR
  refine mB hT 25 rfl ?_
  obtain ⟨h1, eh1⟩ : ∃ z, z = (4681 + ((B 6 0 0).toInt64)) := ⟨_, rfl⟩
  refine mNf (lv2 := [(4, .int 0), (3, .int 0), (1, .long 151), (0, .ref 0)]) (st2 := [.long h1]) rfl (by rw [eh1] <;> rfl) ?_
  refine mB hT 18 rfl ?_
  obtain ⟨h2, eh2⟩ : ∃ z, z = ((31 * h1) + ((B 6 0 1).toInt64)) := ⟨_, rfl⟩
  refine mNf (lv2 := [(4, .int 1), (1, .long h1), (3, .int 0), (0, .ref 0)]) (st2 := [.long h2]) rfl (by rw [eh2] <;> rfl) ?_
  refine mB hT 18 rfl ?_
  obtain ⟨h3, eh3⟩ : ∃ z, z = ((31 * h2) + ((B 6 0 2).toInt64)) := ⟨_, rfl⟩
  refine mNf (lv2 := [(4, .int 2), (1, .long h2), (3, .int 0), (0, .ref 0)]) (st2 := [.long h3]) rfl (by rw [eh3] <;> rfl) ?_
  refine mB hT 18 rfl ?_
  obtain ⟨h4, eh4⟩ : ∃ z, z = ((31 * h3) + ((B 6 0 3).toInt64)) := ⟨_, rfl⟩
  refine mNf (lv2 := [(4, .int 3), (1, .long h3), (3, .int 0), (0, .ref 0)]) (st2 := [.long h4]) rfl (by rw [eh4] <;> rfl) ?_
  refine mB hT 18 rfl ?_
  obtain ⟨h5, eh5⟩ : ∃ z, z = ((31 * h4) + ((B 6 0 4).toInt64)) := ⟨_, rfl⟩
  refine mNf (lv2 := [(4, .int 4), (1, .long h4), (3, .int 0), (0, .ref 0)]) (st2 := [.long h5]) rfl (by rw [eh5] <;> rfl) ?_
  refine mB hT 18 rfl ?_
  obtain ⟨h6, eh6⟩ : ∃ z, z = ((31 * h5) + ((B 6 0 5).toInt64)) := ⟨_, rfl⟩
  refine mNf (lv2 := [(4, .int 5), (1, .long h5), (3, .int 0), (0, .ref 0)]) (st2 := [.long h6]) rfl (by rw [eh6] <;> rfl) ?_
  refine mB hT 18 rfl ?_
  obtain ⟨h7, eh7⟩ : ∃ z, z = ((31 * h6) + ((B 6 0 6).toInt64)) := ⟨_, rfl⟩
  refine mNf (lv2 := [(4, .int 6), (1, .long h6), (3, .int 0), (0, .ref 0)]) (st2 := [.long h7]) rfl (by rw [eh7] <;> rfl) ?_
  refine mB hT 18 rfl ?_
  obtain ⟨h8, eh8⟩ : ∃ z, z = ((31 * h7) + ((B 6 0 7).toInt64)) := ⟨_, rfl⟩
  refine mNf (lv2 := [(4, .int 7), (1, .long h7), (3, .int 0), (0, .ref 0)]) (st2 := [.long h8]) rfl (by rw [eh8] <;> rfl) ?_
  refine mB hT 18 rfl ?_
  obtain ⟨h9, eh9⟩ : ∃ z, z = ((31 * h8) + ((B 6 0 8).toInt64)) := ⟨_, rfl⟩
  refine mNf (lv2 := [(4, .int 8), (1, .long h8), (3, .int 0), (0, .ref 0)]) (st2 := [.long h9]) rfl (by rw [eh9] <;> rfl) ?_
  refine mB hT 18 rfl ?_
  obtain ⟨h10, eh10⟩ : ∃ z, z = ((31 * h9) + ((B 6 0 9).toInt64)) := ⟨_, rfl⟩
  refine mNf (lv2 := [(4, .int 9), (1, .long h9), (3, .int 0), (0, .ref 0)]) (st2 := [.long h10]) rfl (by rw [eh10] <;> rfl) ?_
  refine mB hT 18 rfl ?_
  obtain ⟨h11, eh11⟩ : ∃ z, z = ((31 * h10) + ((B 6 0 10).toInt64)) := ⟨_, rfl⟩
  refine mNf (lv2 := [(4, .int 10), (1, .long h10), (3, .int 0), (0, .ref 0)]) (st2 := [.long h11]) rfl (by rw [eh11] <;> rfl) ?_
  refine mB hT 18 rfl ?_
  obtain ⟨h12, eh12⟩ : ∃ z, z = ((31 * h11) + ((B 6 0 11).toInt64)) := ⟨_, rfl⟩
  refine mNf (lv2 := [(4, .int 11), (1, .long h11), (3, .int 0), (0, .ref 0)]) (st2 := [.long h12]) rfl (by rw [eh12] <;> rfl) ?_
  refine mB hT 18 rfl ?_
  obtain ⟨h13, eh13⟩ : ∃ z, z = ((31 * h12) + ((B 6 0 12).toInt64)) := ⟨_, rfl⟩
  refine mNf (lv2 := [(4, .int 12), (1, .long h12), (3, .int 0), (0, .ref 0)]) (st2 := [.long h13]) rfl (by rw [eh13] <;> rfl) ?_
  refine mB hT 18 rfl ?_
  obtain ⟨h14, eh14⟩ : ∃ z, z = ((31 * h13) + ((B 6 0 13).toInt64)) := ⟨_, rfl⟩
  refine mNf (lv2 := [(4, .int 13), (1, .long h13), (3, .int 0), (0, .ref 0)]) (st2 := [.long h14]) rfl (by rw [eh14] <;> rfl) ?_
  refine mB hT 18 rfl ?_
  obtain ⟨h15, eh15⟩ : ∃ z, z = ((31 * h14) + ((B 6 0 14).toInt64)) := ⟨_, rfl⟩
  refine mNf (lv2 := [(4, .int 14), (1, .long h14), (3, .int 0), (0, .ref 0)]) (st2 := [.long h15]) rfl (by rw [eh15] <;> rfl) ?_
  refine mB hT 18 rfl ?_
  obtain ⟨h16, eh16⟩ : ∃ z, z = ((31 * h15) + ((B 6 0 15).toInt64)) := ⟨_, rfl⟩
  refine mNf (lv2 := [(4, .int 15), (1, .long h15), (3, .int 0), (0, .ref 0)]) (st2 := [.long h16]) rfl (by rw [eh16] <;> rfl) ?_
  refine mB hT 18 rfl ?_
  obtain ⟨h17, eh17⟩ : ∃ z, z = ((31 * h16) + ((B 6 0 16).toInt64)) := ⟨_, rfl⟩
  refine mNf (lv2 := [(4, .int 16), (1, .long h16), (3, .int 0), (0, .ref 0)]) (st2 := [.long h17]) rfl (by rw [eh17] <;> rfl) ?_
  refine mB hT 18 rfl ?_
  obtain ⟨h18, eh18⟩ : ∃ z, z = ((31 * h17) + ((B 6 0 17).toInt64)) := ⟨_, rfl⟩
  refine mNf (lv2 := [(4, .int 17), (1, .long h17), (3, .int 0), (0, .ref 0)]) (st2 := [.long h18]) rfl (by rw [eh18] <;> rfl) ?_
  refine mB hT 18 rfl ?_
  obtain ⟨h19, eh19⟩ : ∃ z, z = ((31 * h18) + ((B 6 0 18).toInt64)) := ⟨_, rfl⟩
  refine mNf (lv2 := [(4, .int 18), (1, .long h18), (3, .int 0), (0, .ref 0)]) (st2 := [.long h19]) rfl (by rw [eh19] <;> rfl) ?_
  refine mB hT 18 rfl ?_
  obtain ⟨h20, eh20⟩ : ∃ z, z = ((31 * h19) + ((B 6 0 19).toInt64)) := ⟨_, rfl⟩
  refine mNf (lv2 := [(4, .int 19), (1, .long h19), (3, .int 0), (0, .ref 0)]) (st2 := [.long h20]) rfl (by rw [eh20] <;> rfl) ?_
  refine mB hT 18 rfl ?_
  obtain ⟨h21, eh21⟩ : ∃ z, z = ((31 * h20) + ((B 6 0 20).toInt64)) := ⟨_, rfl⟩
  refine mNf (lv2 := [(4, .int 20), (1, .long h20), (3, .int 0), (0, .ref 0)]) (st2 := [.long h21]) rfl (by rw [eh21] <;> rfl) ?_
  refine mB hT 18 rfl ?_
  obtain ⟨h22, eh22⟩ : ∃ z, z = ((31 * h21) + ((B 6 0 21).toInt64)) := ⟨_, rfl⟩
  refine mNf (lv2 := [(4, .int 21), (1, .long h21), (3, .int 0), (0, .ref 0)]) (st2 := [.long h22]) rfl (by rw [eh22] <;> rfl) ?_
  refine mB hT 18 rfl ?_
  obtain ⟨h23, eh23⟩ : ∃ z, z = ((31 * h22) + ((B 6 0 22).toInt64)) := ⟨_, rfl⟩
  refine mNf (lv2 := [(4, .int 22), (1, .long h22), (3, .int 0), (0, .ref 0)]) (st2 := [.long h23]) rfl (by rw [eh23] <;> rfl) ?_
  refine mB hT 29 rfl ?_
  obtain ⟨h24, eh24⟩ : ∃ z, z = ((31 * h23) + ((B 6 1 0).toInt64)) := ⟨_, rfl⟩
  refine mNf (lv2 := [(4, .int 0), (3, .int 1), (1, .long h23), (0, .ref 0)]) (st2 := [.long h24]) rfl (by rw [eh24] <;> rfl) ?_
  refine mB hT 18 rfl ?_
  obtain ⟨h25, eh25⟩ : ∃ z, z = ((31 * h24) + ((B 6 1 1).toInt64)) := ⟨_, rfl⟩
  refine mNf (lv2 := [(4, .int 1), (1, .long h24), (3, .int 1), (0, .ref 0)]) (st2 := [.long h25]) rfl (by rw [eh25] <;> rfl) ?_
  refine mB hT 18 rfl ?_
  obtain ⟨h26, eh26⟩ : ∃ z, z = ((31 * h25) + ((B 6 1 2).toInt64)) := ⟨_, rfl⟩
  refine mNf (lv2 := [(4, .int 2), (1, .long h25), (3, .int 1), (0, .ref 0)]) (st2 := [.long h26]) rfl (by rw [eh26] <;> rfl) ?_
  refine mB hT 18 rfl ?_
  obtain ⟨h27, eh27⟩ : ∃ z, z = ((31 * h26) + ((B 6 1 3).toInt64)) := ⟨_, rfl⟩
  refine mNf (lv2 := [(4, .int 3), (1, .long h26), (3, .int 1), (0, .ref 0)]) (st2 := [.long h27]) rfl (by rw [eh27] <;> rfl) ?_
  refine mB hT 18 rfl ?_
  obtain ⟨h28, eh28⟩ : ∃ z, z = ((31 * h27) + ((B 6 1 4).toInt64)) := ⟨_, rfl⟩
  refine mNf (lv2 := [(4, .int 4), (1, .long h27), (3, .int 1), (0, .ref 0)]) (st2 := [.long h28]) rfl (by rw [eh28] <;> rfl) ?_
  refine mB hT 18 rfl ?_
  obtain ⟨h29, eh29⟩ : ∃ z, z = ((31 * h28) + ((B 6 1 5).toInt64)) := ⟨_, rfl⟩
  refine mNf (lv2 := [(4, .int 5), (1, .long h28), (3, .int 1), (0, .ref 0)]) (st2 := [.long h29]) rfl (by rw [eh29] <;> rfl) ?_
  refine mB hT 18 rfl ?_
  obtain ⟨h30, eh30⟩ : ∃ z, z = ((31 * h29) + ((B 6 1 6).toInt64)) := ⟨_, rfl⟩
  refine mNf (lv2 := [(4, .int 6), (1, .long h29), (3, .int 1), (0, .ref 0)]) (st2 := [.long h30]) rfl (by rw [eh30] <;> rfl) ?_
  refine mB hT 18 rfl ?_
  obtain ⟨h31, eh31⟩ : ∃ z, z = ((31 * h30) + ((B 6 1 7).toInt64)) := ⟨_, rfl⟩
  refine mNf (lv2 := [(4, .int 7), (1, .long h30), (3, .int 1), (0, .ref 0)]) (st2 := [.long h31]) rfl (by rw [eh31] <;> rfl) ?_
  refine mB hT 18 rfl ?_
  obtain ⟨h32, eh32⟩ : ∃ z, z = ((31 * h31) + ((B 6 1 8).toInt64)) := ⟨_, rfl⟩
  refine mNf (lv2 := [(4, .int 8), (1, .long h31), (3, .int 1), (0, .ref 0)]) (st2 := [.long h32]) rfl (by rw [eh32] <;> rfl) ?_
  refine mB hT 18 rfl ?_
  obtain ⟨h33, eh33⟩ : ∃ z, z = ((31 * h32) + ((B 6 1 9).toInt64)) := ⟨_, rfl⟩
  refine mNf (lv2 := [(4, .int 9), (1, .long h32), (3, .int 1), (0, .ref 0)]) (st2 := [.long h33]) rfl (by rw [eh33] <;> rfl) ?_
  refine mB hT 18 rfl ?_
  obtain ⟨h34, eh34⟩ : ∃ z, z = ((31 * h33) + ((B 6 1 10).toInt64)) := ⟨_, rfl⟩
  refine mNf (lv2 := [(4, .int 10), (1, .long h33), (3, .int 1), (0, .ref 0)]) (st2 := [.long h34]) rfl (by rw [eh34] <;> rfl) ?_
  refine mB hT 18 rfl ?_
  obtain ⟨h35, eh35⟩ : ∃ z, z = ((31 * h34) + ((B 6 1 11).toInt64)) := ⟨_, rfl⟩
  refine mNf (lv2 := [(4, .int 11), (1, .long h34), (3, .int 1), (0, .ref 0)]) (st2 := [.long h35]) rfl (by rw [eh35] <;> rfl) ?_
  refine mB hT 18 rfl ?_
  obtain ⟨h36, eh36⟩ : ∃ z, z = ((31 * h35) + ((B 6 1 12).toInt64)) := ⟨_, rfl⟩
  refine mNf (lv2 := [(4, .int 12), (1, .long h35), (3, .int 1), (0, .ref 0)]) (st2 := [.long h36]) rfl (by rw [eh36] <;> rfl) ?_
  refine mB hT 18 rfl ?_
  obtain ⟨h37, eh37⟩ : ∃ z, z = ((31 * h36) + ((B 6 1 13).toInt64)) := ⟨_, rfl⟩
  refine mNf (lv2 := [(4, .int 13), (1, .long h36), (3, .int 1), (0, .ref 0)]) (st2 := [.long h37]) rfl (by rw [eh37] <;> rfl) ?_
  refine mB hT 18 rfl ?_
  obtain ⟨h38, eh38⟩ : ∃ z, z = ((31 * h37) + ((B 6 1 14).toInt64)) := ⟨_, rfl⟩
  refine mNf (lv2 := [(4, .int 14), (1, .long h37), (3, .int 1), (0, .ref 0)]) (st2 := [.long h38]) rfl (by rw [eh38] <;> rfl) ?_
  refine mB hT 18 rfl ?_
  obtain ⟨h39, eh39⟩ : ∃ z, z = ((31 * h38) + ((B 6 1 15).toInt64)) := ⟨_, rfl⟩
  refine mNf (lv2 := [(4, .int 15), (1, .long h38), (3, .int 1), (0, .ref 0)]) (st2 := [.long h39]) rfl (by rw [eh39] <;> rfl) ?_
  refine mB hT 18 rfl ?_
  obtain ⟨h40, eh40⟩ : ∃ z, z = ((31 * h39) + ((B 6 1 16).toInt64)) := ⟨_, rfl⟩
  refine mNf (lv2 := [(4, .int 16), (1, .long h39), (3, .int 1), (0, .ref 0)]) (st2 := [.long h40]) rfl (by rw [eh40] <;> rfl) ?_
  refine mB hT 18 rfl ?_
  obtain ⟨h41, eh41⟩ : ∃ z, z = ((31 * h40) + ((B 6 1 17).toInt64)) := ⟨_, rfl⟩
  refine mNf (lv2 := [(4, .int 17), (1, .long h40), (3, .int 1), (0, .ref 0)]) (st2 := [.long h41]) rfl (by rw [eh41] <;> rfl) ?_
  refine mB hT 18 rfl ?_
  obtain ⟨h42, eh42⟩ : ∃ z, z = ((31 * h41) + ((B 6 1 18).toInt64)) := ⟨_, rfl⟩
  refine mNf (lv2 := [(4, .int 18), (1, .long h41), (3, .int 1), (0, .ref 0)]) (st2 := [.long h42]) rfl (by rw [eh42] <;> rfl) ?_
  refine mB hT 18 rfl ?_
  obtain ⟨h43, eh43⟩ : ∃ z, z = ((31 * h42) + ((B 6 1 19).toInt64)) := ⟨_, rfl⟩
  refine mNf (lv2 := [(4, .int 19), (1, .long h42), (3, .int 1), (0, .ref 0)]) (st2 := [.long h43]) rfl (by rw [eh43] <;> rfl) ?_
  refine mB hT 18 rfl ?_
  obtain ⟨h44, eh44⟩ : ∃ z, z = ((31 * h43) + ((B 6 1 20).toInt64)) := ⟨_, rfl⟩
  refine mNf (lv2 := [(4, .int 20), (1, .long h43), (3, .int 1), (0, .ref 0)]) (st2 := [.long h44]) rfl (by rw [eh44] <;> rfl) ?_
  refine mB hT 18 rfl ?_
  obtain ⟨h45, eh45⟩ : ∃ z, z = ((31 * h44) + ((B 6 1 21).toInt64)) := ⟨_, rfl⟩
  refine mNf (lv2 := [(4, .int 21), (1, .long h44), (3, .int 1), (0, .ref 0)]) (st2 := [.long h45]) rfl (by rw [eh45] <;> rfl) ?_
  refine mB hT 18 rfl ?_
  obtain ⟨h46, eh46⟩ : ∃ z, z = ((31 * h45) + ((B 6 1 22).toInt64)) := ⟨_, rfl⟩
  refine mNf (lv2 := [(4, .int 22), (1, .long h45), (3, .int 1), (0, .ref 0)]) (st2 := [.long h46]) rfl (by rw [eh46] <;> rfl) ?_
  refine mB hT 29 rfl ?_
  obtain ⟨h47, eh47⟩ : ∃ z, z = ((31 * h46) + ((B 6 2 0).toInt64)) := ⟨_, rfl⟩
  refine mNf (lv2 := [(4, .int 0), (3, .int 2), (1, .long h46), (0, .ref 0)]) (st2 := [.long h47]) rfl (by rw [eh47] <;> rfl) ?_
  refine mB hT 18 rfl ?_
  obtain ⟨h48, eh48⟩ : ∃ z, z = ((31 * h47) + ((B 6 2 1).toInt64)) := ⟨_, rfl⟩
  refine mNf (lv2 := [(4, .int 1), (1, .long h47), (3, .int 2), (0, .ref 0)]) (st2 := [.long h48]) rfl (by rw [eh48] <;> rfl) ?_
  refine mB hT 18 rfl ?_
  obtain ⟨h49, eh49⟩ : ∃ z, z = ((31 * h48) + ((B 6 2 2).toInt64)) := ⟨_, rfl⟩
  refine mNf (lv2 := [(4, .int 2), (1, .long h48), (3, .int 2), (0, .ref 0)]) (st2 := [.long h49]) rfl (by rw [eh49] <;> rfl) ?_
  refine mB hT 18 rfl ?_
  obtain ⟨h50, eh50⟩ : ∃ z, z = ((31 * h49) + ((B 6 2 3).toInt64)) := ⟨_, rfl⟩
  refine mNf (lv2 := [(4, .int 3), (1, .long h49), (3, .int 2), (0, .ref 0)]) (st2 := [.long h50]) rfl (by rw [eh50] <;> rfl) ?_
  refine mB hT 18 rfl ?_
  obtain ⟨h51, eh51⟩ : ∃ z, z = ((31 * h50) + ((B 6 2 4).toInt64)) := ⟨_, rfl⟩
  refine mNf (lv2 := [(4, .int 4), (1, .long h50), (3, .int 2), (0, .ref 0)]) (st2 := [.long h51]) rfl (by rw [eh51] <;> rfl) ?_
  refine mB hT 18 rfl ?_
  obtain ⟨h52, eh52⟩ : ∃ z, z = ((31 * h51) + ((B 6 2 5).toInt64)) := ⟨_, rfl⟩
  refine mNf (lv2 := [(4, .int 5), (1, .long h51), (3, .int 2), (0, .ref 0)]) (st2 := [.long h52]) rfl (by rw [eh52] <;> rfl) ?_
  refine mB hT 18 rfl ?_
  obtain ⟨h53, eh53⟩ : ∃ z, z = ((31 * h52) + ((B 6 2 6).toInt64)) := ⟨_, rfl⟩
  refine mNf (lv2 := [(4, .int 6), (1, .long h52), (3, .int 2), (0, .ref 0)]) (st2 := [.long h53]) rfl (by rw [eh53] <;> rfl) ?_
  refine mB hT 18 rfl ?_
  obtain ⟨h54, eh54⟩ : ∃ z, z = ((31 * h53) + ((B 6 2 7).toInt64)) := ⟨_, rfl⟩
  refine mNf (lv2 := [(4, .int 7), (1, .long h53), (3, .int 2), (0, .ref 0)]) (st2 := [.long h54]) rfl (by rw [eh54] <;> rfl) ?_
  refine mB hT 18 rfl ?_
  obtain ⟨h55, eh55⟩ : ∃ z, z = ((31 * h54) + ((B 6 2 8).toInt64)) := ⟨_, rfl⟩
  refine mNf (lv2 := [(4, .int 8), (1, .long h54), (3, .int 2), (0, .ref 0)]) (st2 := [.long h55]) rfl (by rw [eh55] <;> rfl) ?_
  refine mB hT 18 rfl ?_
  obtain ⟨h56, eh56⟩ : ∃ z, z = ((31 * h55) + ((B 6 2 9).toInt64)) := ⟨_, rfl⟩
  refine mNf (lv2 := [(4, .int 9), (1, .long h55), (3, .int 2), (0, .ref 0)]) (st2 := [.long h56]) rfl (by rw [eh56] <;> rfl) ?_
  refine mB hT 18 rfl ?_
  obtain ⟨h57, eh57⟩ : ∃ z, z = ((31 * h56) + ((B 6 2 10).toInt64)) := ⟨_, rfl⟩
  refine mNf (lv2 := [(4, .int 10), (1, .long h56), (3, .int 2), (0, .ref 0)]) (st2 := [.long h57]) rfl (by rw [eh57] <;> rfl) ?_
  refine mB hT 18 rfl ?_
  obtain ⟨h58, eh58⟩ : ∃ z, z = ((31 * h57) + ((B 6 2 11).toInt64)) := ⟨_, rfl⟩
  refine mNf (lv2 := [(4, .int 11), (1, .long h57), (3, .int 2), (0, .ref 0)]) (st2 := [.long h58]) rfl (by rw [eh58] <;> rfl) ?_
  refine mB hT 18 rfl ?_
  obtain ⟨h59, eh59⟩ : ∃ z, z = ((31 * h58) + ((B 6 2 12).toInt64)) := ⟨_, rfl⟩
  refine mNf (lv2 := [(4, .int 12), (1, .long h58), (3, .int 2), (0, .ref 0)]) (st2 := [.long h59]) rfl (by rw [eh59] <;> rfl) ?_
  refine mB hT 18 rfl ?_
  obtain ⟨h60, eh60⟩ : ∃ z, z = ((31 * h59) + ((B 6 2 13).toInt64)) := ⟨_, rfl⟩
  refine mNf (lv2 := [(4, .int 13), (1, .long h59), (3, .int 2), (0, .ref 0)]) (st2 := [.long h60]) rfl (by rw [eh60] <;> rfl) ?_
  refine mB hT 18 rfl ?_
  obtain ⟨h61, eh61⟩ : ∃ z, z = ((31 * h60) + ((B 6 2 14).toInt64)) := ⟨_, rfl⟩
  refine mNf (lv2 := [(4, .int 14), (1, .long h60), (3, .int 2), (0, .ref 0)]) (st2 := [.long h61]) rfl (by rw [eh61] <;> rfl) ?_
  refine mB hT 18 rfl ?_
  obtain ⟨h62, eh62⟩ : ∃ z, z = ((31 * h61) + ((B 6 2 15).toInt64)) := ⟨_, rfl⟩
  refine mNf (lv2 := [(4, .int 15), (1, .long h61), (3, .int 2), (0, .ref 0)]) (st2 := [.long h62]) rfl (by rw [eh62] <;> rfl) ?_
  refine mB hT 18 rfl ?_
  obtain ⟨h63, eh63⟩ : ∃ z, z = ((31 * h62) + ((B 6 2 16).toInt64)) := ⟨_, rfl⟩
  refine mNf (lv2 := [(4, .int 16), (1, .long h62), (3, .int 2), (0, .ref 0)]) (st2 := [.long h63]) rfl (by rw [eh63] <;> rfl) ?_
  refine mB hT 18 rfl ?_
  obtain ⟨h64, eh64⟩ : ∃ z, z = ((31 * h63) + ((B 6 2 17).toInt64)) := ⟨_, rfl⟩
  refine mNf (lv2 := [(4, .int 17), (1, .long h63), (3, .int 2), (0, .ref 0)]) (st2 := [.long h64]) rfl (by rw [eh64] <;> rfl) ?_
  refine mB hT 18 rfl ?_
  obtain ⟨h65, eh65⟩ : ∃ z, z = ((31 * h64) + ((B 6 2 18).toInt64)) := ⟨_, rfl⟩
  refine mNf (lv2 := [(4, .int 18), (1, .long h64), (3, .int 2), (0, .ref 0)]) (st2 := [.long h65]) rfl (by rw [eh65] <;> rfl) ?_
  refine mB hT 18 rfl ?_
  obtain ⟨h66, eh66⟩ : ∃ z, z = ((31 * h65) + ((B 6 2 19).toInt64)) := ⟨_, rfl⟩
  refine mNf (lv2 := [(4, .int 19), (1, .long h65), (3, .int 2), (0, .ref 0)]) (st2 := [.long h66]) rfl (by rw [eh66] <;> rfl) ?_
  refine mB hT 18 rfl ?_
  obtain ⟨h67, eh67⟩ : ∃ z, z = ((31 * h66) + ((B 6 2 20).toInt64)) := ⟨_, rfl⟩
  refine mNf (lv2 := [(4, .int 20), (1, .long h66), (3, .int 2), (0, .ref 0)]) (st2 := [.long h67]) rfl (by rw [eh67] <;> rfl) ?_
  refine mB hT 18 rfl ?_
  obtain ⟨h68, eh68⟩ : ∃ z, z = ((31 * h67) + ((B 6 2 21).toInt64)) := ⟨_, rfl⟩
  refine mNf (lv2 := [(4, .int 21), (1, .long h67), (3, .int 2), (0, .ref 0)]) (st2 := [.long h68]) rfl (by rw [eh68] <;> rfl) ?_
  refine mB hT 18 rfl ?_
  obtain ⟨h69, eh69⟩ : ∃ z, z = ((31 * h68) + ((B 6 2 22).toInt64)) := ⟨_, rfl⟩
  refine mNf (lv2 := [(4, .int 22), (1, .long h68), (3, .int 2), (0, .ref 0)]) (st2 := [.long h69]) rfl (by rw [eh69] <;> rfl) ?_
  refine mB hT 29 rfl ?_
  obtain ⟨h70, eh70⟩ : ∃ z, z = ((31 * h69) + ((B 6 3 0).toInt64)) := ⟨_, rfl⟩
  refine mNf (lv2 := [(4, .int 0), (3, .int 3), (1, .long h69), (0, .ref 0)]) (st2 := [.long h70]) rfl (by rw [eh70] <;> rfl) ?_
  refine mB hT 18 rfl ?_
  obtain ⟨h71, eh71⟩ : ∃ z, z = ((31 * h70) + ((B 6 3 1).toInt64)) := ⟨_, rfl⟩
  refine mNf (lv2 := [(4, .int 1), (1, .long h70), (3, .int 3), (0, .ref 0)]) (st2 := [.long h71]) rfl (by rw [eh71] <;> rfl) ?_
  refine mB hT 18 rfl ?_
  obtain ⟨h72, eh72⟩ : ∃ z, z = ((31 * h71) + ((B 6 3 2).toInt64)) := ⟨_, rfl⟩
  refine mNf (lv2 := [(4, .int 2), (1, .long h71), (3, .int 3), (0, .ref 0)]) (st2 := [.long h72]) rfl (by rw [eh72] <;> rfl) ?_
  refine mB hT 18 rfl ?_
  obtain ⟨h73, eh73⟩ : ∃ z, z = ((31 * h72) + ((B 6 3 3).toInt64)) := ⟨_, rfl⟩
  refine mNf (lv2 := [(4, .int 3), (1, .long h72), (3, .int 3), (0, .ref 0)]) (st2 := [.long h73]) rfl (by rw [eh73] <;> rfl) ?_
  refine mB hT 18 rfl ?_
  obtain ⟨h74, eh74⟩ : ∃ z, z = ((31 * h73) + ((B 6 3 4).toInt64)) := ⟨_, rfl⟩
  refine mNf (lv2 := [(4, .int 4), (1, .long h73), (3, .int 3), (0, .ref 0)]) (st2 := [.long h74]) rfl (by rw [eh74] <;> rfl) ?_
  refine mB hT 18 rfl ?_
  obtain ⟨h75, eh75⟩ : ∃ z, z = ((31 * h74) + ((B 6 3 5).toInt64)) := ⟨_, rfl⟩
  refine mNf (lv2 := [(4, .int 5), (1, .long h74), (3, .int 3), (0, .ref 0)]) (st2 := [.long h75]) rfl (by rw [eh75] <;> rfl) ?_
  refine mB hT 18 rfl ?_
  obtain ⟨h76, eh76⟩ : ∃ z, z = ((31 * h75) + ((B 6 3 6).toInt64)) := ⟨_, rfl⟩
  refine mNf (lv2 := [(4, .int 6), (1, .long h75), (3, .int 3), (0, .ref 0)]) (st2 := [.long h76]) rfl (by rw [eh76] <;> rfl) ?_
  refine mB hT 18 rfl ?_
  obtain ⟨h77, eh77⟩ : ∃ z, z = ((31 * h76) + ((B 6 3 7).toInt64)) := ⟨_, rfl⟩
  refine mNf (lv2 := [(4, .int 7), (1, .long h76), (3, .int 3), (0, .ref 0)]) (st2 := [.long h77]) rfl (by rw [eh77] <;> rfl) ?_
  refine mB hT 18 rfl ?_
  obtain ⟨h78, eh78⟩ : ∃ z, z = ((31 * h77) + ((B 6 3 8).toInt64)) := ⟨_, rfl⟩
  refine mNf (lv2 := [(4, .int 8), (1, .long h77), (3, .int 3), (0, .ref 0)]) (st2 := [.long h78]) rfl (by rw [eh78] <;> rfl) ?_
  refine mB hT 18 rfl ?_
  obtain ⟨h79, eh79⟩ : ∃ z, z = ((31 * h78) + ((B 6 3 9).toInt64)) := ⟨_, rfl⟩
  refine mNf (lv2 := [(4, .int 9), (1, .long h78), (3, .int 3), (0, .ref 0)]) (st2 := [.long h79]) rfl (by rw [eh79] <;> rfl) ?_
  refine mB hT 18 rfl ?_
  obtain ⟨h80, eh80⟩ : ∃ z, z = ((31 * h79) + ((B 6 3 10).toInt64)) := ⟨_, rfl⟩
  refine mNf (lv2 := [(4, .int 10), (1, .long h79), (3, .int 3), (0, .ref 0)]) (st2 := [.long h80]) rfl (by rw [eh80] <;> rfl) ?_
  refine mB hT 18 rfl ?_
  obtain ⟨h81, eh81⟩ : ∃ z, z = ((31 * h80) + ((B 6 3 11).toInt64)) := ⟨_, rfl⟩
  refine mNf (lv2 := [(4, .int 11), (1, .long h80), (3, .int 3), (0, .ref 0)]) (st2 := [.long h81]) rfl (by rw [eh81] <;> rfl) ?_
  refine mB hT 18 rfl ?_
  obtain ⟨h82, eh82⟩ : ∃ z, z = ((31 * h81) + ((B 6 3 12).toInt64)) := ⟨_, rfl⟩
  refine mNf (lv2 := [(4, .int 12), (1, .long h81), (3, .int 3), (0, .ref 0)]) (st2 := [.long h82]) rfl (by rw [eh82] <;> rfl) ?_
  refine mB hT 18 rfl ?_
  obtain ⟨h83, eh83⟩ : ∃ z, z = ((31 * h82) + ((B 6 3 13).toInt64)) := ⟨_, rfl⟩
  refine mNf (lv2 := [(4, .int 13), (1, .long h82), (3, .int 3), (0, .ref 0)]) (st2 := [.long h83]) rfl (by rw [eh83] <;> rfl) ?_
  refine mB hT 18 rfl ?_
  obtain ⟨h84, eh84⟩ : ∃ z, z = ((31 * h83) + ((B 6 3 14).toInt64)) := ⟨_, rfl⟩
  refine mNf (lv2 := [(4, .int 14), (1, .long h83), (3, .int 3), (0, .ref 0)]) (st2 := [.long h84]) rfl (by rw [eh84] <;> rfl) ?_
  refine mB hT 18 rfl ?_
  obtain ⟨h85, eh85⟩ : ∃ z, z = ((31 * h84) + ((B 6 3 15).toInt64)) := ⟨_, rfl⟩
  refine mNf (lv2 := [(4, .int 15), (1, .long h84), (3, .int 3), (0, .ref 0)]) (st2 := [.long h85]) rfl (by rw [eh85] <;> rfl) ?_
  refine mB hT 18 rfl ?_
  obtain ⟨h86, eh86⟩ : ∃ z, z = ((31 * h85) + ((B 6 3 16).toInt64)) := ⟨_, rfl⟩
  refine mNf (lv2 := [(4, .int 16), (1, .long h85), (3, .int 3), (0, .ref 0)]) (st2 := [.long h86]) rfl (by rw [eh86] <;> rfl) ?_
  refine mB hT 18 rfl ?_
  obtain ⟨h87, eh87⟩ : ∃ z, z = ((31 * h86) + ((B 6 3 17).toInt64)) := ⟨_, rfl⟩
  refine mNf (lv2 := [(4, .int 17), (1, .long h86), (3, .int 3), (0, .ref 0)]) (st2 := [.long h87]) rfl (by rw [eh87] <;> rfl) ?_
  refine mB hT 18 rfl ?_
  obtain ⟨h88, eh88⟩ : ∃ z, z = ((31 * h87) + ((B 6 3 18).toInt64)) := ⟨_, rfl⟩
  refine mNf (lv2 := [(4, .int 18), (1, .long h87), (3, .int 3), (0, .ref 0)]) (st2 := [.long h88]) rfl (by rw [eh88] <;> rfl) ?_
  refine mB hT 18 rfl ?_
  obtain ⟨h89, eh89⟩ : ∃ z, z = ((31 * h88) + ((B 6 3 19).toInt64)) := ⟨_, rfl⟩
  refine mNf (lv2 := [(4, .int 19), (1, .long h88), (3, .int 3), (0, .ref 0)]) (st2 := [.long h89]) rfl (by rw [eh89] <;> rfl) ?_
  refine mB hT 18 rfl ?_
  obtain ⟨h90, eh90⟩ : ∃ z, z = ((31 * h89) + ((B 6 3 20).toInt64)) := ⟨_, rfl⟩
  refine mNf (lv2 := [(4, .int 20), (1, .long h89), (3, .int 3), (0, .ref 0)]) (st2 := [.long h90]) rfl (by rw [eh90] <;> rfl) ?_
  refine mB hT 18 rfl ?_
  obtain ⟨h91, eh91⟩ : ∃ z, z = ((31 * h90) + ((B 6 3 21).toInt64)) := ⟨_, rfl⟩
  refine mNf (lv2 := [(4, .int 21), (1, .long h90), (3, .int 3), (0, .ref 0)]) (st2 := [.long h91]) rfl (by rw [eh91] <;> rfl) ?_
  refine mB hT 18 rfl ?_
  obtain ⟨h92, eh92⟩ : ∃ z, z = ((31 * h91) + ((B 6 3 22).toInt64)) := ⟨_, rfl⟩
  refine mNf (lv2 := [(4, .int 22), (1, .long h91), (3, .int 3), (0, .ref 0)]) (st2 := [.long h92]) rfl (by rw [eh92] <;> rfl) ?_
  refine mB hT 34 rfl ?_
  obtain ⟨h93, eh93⟩ : ∃ z, z = ((31 * h92) + ((hd 0 0).toInt64)) := ⟨_, rfl⟩
  refine mNf (lv2 := [(4, .int 0), (3, .int 0), (1, .long h92), (0, .ref 0)]) (st2 := [.long h93]) rfl (by rw [eh93] <;> rfl) ?_
  refine mB hT 18 rfl ?_
  obtain ⟨h94, eh94⟩ : ∃ z, z = ((31 * h93) + ((hd 0 1).toInt64)) := ⟨_, rfl⟩
  refine mNf (lv2 := [(4, .int 1), (1, .long h93), (3, .int 0), (0, .ref 0)]) (st2 := [.long h94]) rfl (by rw [eh94] <;> rfl) ?_
  refine mB hT 18 rfl ?_
  obtain ⟨h95, eh95⟩ : ∃ z, z = ((31 * h94) + ((hd 0 2).toInt64)) := ⟨_, rfl⟩
  refine mNf (lv2 := [(4, .int 2), (1, .long h94), (3, .int 0), (0, .ref 0)]) (st2 := [.long h95]) rfl (by rw [eh95] <;> rfl) ?_
  refine mB hT 18 rfl ?_
  obtain ⟨h96, eh96⟩ : ∃ z, z = ((31 * h95) + ((hd 0 3).toInt64)) := ⟨_, rfl⟩
  refine mNf (lv2 := [(4, .int 3), (1, .long h95), (3, .int 0), (0, .ref 0)]) (st2 := [.long h96]) rfl (by rw [eh96] <;> rfl) ?_
  refine mB hT 29 rfl ?_
  obtain ⟨h97, eh97⟩ : ∃ z, z = ((31 * h96) + ((hd 1 0).toInt64)) := ⟨_, rfl⟩
  refine mNf (lv2 := [(4, .int 0), (3, .int 1), (1, .long h96), (0, .ref 0)]) (st2 := [.long h97]) rfl (by rw [eh97] <;> rfl) ?_
  refine mB hT 18 rfl ?_
  obtain ⟨h98, eh98⟩ : ∃ z, z = ((31 * h97) + ((hd 1 1).toInt64)) := ⟨_, rfl⟩
  refine mNf (lv2 := [(4, .int 1), (1, .long h97), (3, .int 1), (0, .ref 0)]) (st2 := [.long h98]) rfl (by rw [eh98] <;> rfl) ?_
  refine mB hT 18 rfl ?_
  obtain ⟨h99, eh99⟩ : ∃ z, z = ((31 * h98) + ((hd 1 2).toInt64)) := ⟨_, rfl⟩
  refine mNf (lv2 := [(4, .int 2), (1, .long h98), (3, .int 1), (0, .ref 0)]) (st2 := [.long h99]) rfl (by rw [eh99] <;> rfl) ?_
  refine mB hT 18 rfl ?_
  obtain ⟨h100, eh100⟩ : ∃ z, z = ((31 * h99) + ((hd 1 3).toInt64)) := ⟨_, rfl⟩
  refine mNf (lv2 := [(4, .int 3), (1, .long h99), (3, .int 1), (0, .ref 0)]) (st2 := [.long h100]) rfl (by rw [eh100] <;> rfl) ?_
  refine mB hT 29 rfl ?_
  obtain ⟨h101, eh101⟩ : ∃ z, z = ((31 * h100) + ((hd 2 0).toInt64)) := ⟨_, rfl⟩
  refine mNf (lv2 := [(4, .int 0), (3, .int 2), (1, .long h100), (0, .ref 0)]) (st2 := [.long h101]) rfl (by rw [eh101] <;> rfl) ?_
  refine mB hT 18 rfl ?_
  obtain ⟨h102, eh102⟩ : ∃ z, z = ((31 * h101) + ((hd 2 1).toInt64)) := ⟨_, rfl⟩
  refine mNf (lv2 := [(4, .int 1), (1, .long h101), (3, .int 2), (0, .ref 0)]) (st2 := [.long h102]) rfl (by rw [eh102] <;> rfl) ?_
  refine mB hT 18 rfl ?_
  obtain ⟨h103, eh103⟩ : ∃ z, z = ((31 * h102) + ((hd 2 2).toInt64)) := ⟨_, rfl⟩
  refine mNf (lv2 := [(4, .int 2), (1, .long h102), (3, .int 2), (0, .ref 0)]) (st2 := [.long h103]) rfl (by rw [eh103] <;> rfl) ?_
  refine mB hT 18 rfl ?_
  obtain ⟨h104, eh104⟩ : ∃ z, z = ((31 * h103) + ((hd 2 3).toInt64)) := ⟨_, rfl⟩
  refine mNf (lv2 := [(4, .int 3), (1, .long h103), (3, .int 2), (0, .ref 0)]) (st2 := [.long h104]) rfl (by rw [eh104] <;> rfl) ?_
  refine mB hT 29 rfl ?_
  obtain ⟨h105, eh105⟩ : ∃ z, z = ((31 * h104) + ((hd 3 0).toInt64)) := ⟨_, rfl⟩
  refine mNf (lv2 := [(4, .int 0), (3, .int 3), (1, .long h104), (0, .ref 0)]) (st2 := [.long h105]) rfl (by rw [eh105] <;> rfl) ?_
  refine mB hT 18 rfl ?_
  obtain ⟨h106, eh106⟩ : ∃ z, z = ((31 * h105) + ((hd 3 1).toInt64)) := ⟨_, rfl⟩
  refine mNf (lv2 := [(4, .int 1), (1, .long h105), (3, .int 3), (0, .ref 0)]) (st2 := [.long h106]) rfl (by rw [eh106] <;> rfl) ?_
  refine mB hT 18 rfl ?_
  obtain ⟨h107, eh107⟩ : ∃ z, z = ((31 * h106) + ((hd 3 2).toInt64)) := ⟨_, rfl⟩
  refine mNf (lv2 := [(4, .int 2), (1, .long h106), (3, .int 3), (0, .ref 0)]) (st2 := [.long h107]) rfl (by rw [eh107] <;> rfl) ?_
  refine mB hT 18 rfl ?_
  obtain ⟨h108, eh108⟩ : ∃ z, z = ((31 * h107) + ((hd 3 3).toInt64)) := ⟨_, rfl⟩
  refine mNf (lv2 := [(4, .int 3), (1, .long h107), (3, .int 3), (0, .ref 0)]) (st2 := [.long h108]) rfl (by rw [eh108] <;> rfl) ?_
  refine mB hT 19 rfl ?_
  obtain ⟨h109, eh109⟩ : ∃ z, z = ((31 * h108) + ((Int32.ofNat vs).toInt64)) := ⟨_, rfl⟩
  refine mNf (lv2 := [(3, .int 4), (4, .int 4), (1, .long h108), (0, .ref 0)]) (st2 := [.long h109]) rfl (by rw [eh109] <;> rfl) ?_
  refine mB hT 5 rfl ?_
  refine hC _ 0 [] _ _ _ _ _ (hk2) rfl rfl (Nat.le_of_ble_eq_true rfl) rfl ?_
  refine mB hT 1 rfl ?_
  exact hR _ (by decide) _ _ _ (by subst eh1 eh2 eh3 eh4 eh5 eh6 eh7 eh8 eh9 eh10 eh11 eh12 eh13 eh14 eh15 eh16 eh17 eh18 eh19 eh20 eh21 eh22 eh23 eh24 eh25 eh26 eh27 eh28 eh29 eh30 eh31 eh32 eh33 eh34 eh35 eh36 eh37 eh38 eh39 eh40 eh41 eh42 eh43 eh44 eh45 eh46 eh47 eh48 eh49 eh50 eh51 eh52 eh53 eh54 eh55 eh56 eh57 eh58 eh59 eh60 eh61 eh62 eh63 eh64 eh65 eh66 eh67 eh68 eh69 eh70 eh71 eh72 eh73 eh74 eh75 eh76 eh77 eh78 eh79 eh80 eh81 eh82 eh83 eh84 eh85 eh86 eh87 eh88 eh89 eh90 eh91 eh92 eh93 eh94 eh95 eh96 eh97 eh98 eh99 eh100 eh101 eh102 eh103 eh104 eh105 eh106 eh107 eh108 eh109; rfl) rfl
theorem x_digest {n vs : Nat} {be de : Int64} {sz : Int32} {ro co mi : Nat → Int64} {T : Nat → Nat → Int64} {B : Nat → Nat → Nat → Int32} {hd : Nat → Nat → Int32} {df : Nat → Int32} (hn : n ≤ 4) : ∃ (be2 de2 : Int64) (sz2 : Int32) (ro2 co2 mi2 : Nat → Int64) (T2 : Nat → Nat → Int64), KX2_digest l D ca ad [.ref 0] (XW (Int32.ofNat n) (Int32.ofNat vs) be de sz ro co mi T B hd df) (some (.long (dgS 151 (dgL n (B 6) hd (Int32.ofNat vs) (detX n (lyT n (B 6) T)))))) (XW (Int32.ofNat n) (Int32.ofNat vs) be2 de2 sz2 ro2 co2 mi2 T2 B hd df) := by
  rcases (show n = 0 ∨ n = 1 ∨ n = 2 ∨ n = 3 ∨ n = 4 by omega) with e | e | e | e | e
  · subst e; exact x_digest_0
  · subst e; exact x_digest_1
  · subst e; exact x_digest_2
  · subst e; exact x_digest_3
  · subst e; exact x_digest_4
end
