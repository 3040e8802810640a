
def gcX : Nat → Int64 → Int64 → Int64
  | 0, a, _ => a
  | k + 1, a, b => if b = 0 then a else gcX k b (a - a / b * b)
def mbX : Nat → (Nat → Int64) → Int32 × Int64
  | 0, _ => (-1, 0)
  | 1, f => (0, f 0)
  | m + 2, f => if (mbX (m + 1) f).2 < f (m + 1) then (Int32.ofNat (m + 1), f (m + 1)) else mbX (m + 1) f
def tnF : Nat → Nat → (Nat → Int64) → Int32
  | 0, _, _ => -1
  | k + 1, i, ro => if ro i < 0 then Int32.ofNat i else tnF k (i + 1) ro
def cbX : Nat → (Nat → Nat → Int32) → Int32
  | 0, _ => 0
  | m + 1, rows => if hbX (rows m) = 0 then cbX m rows else cbX m rows + 1
theorem ofNat_succ (n : Nat) : Int32.ofNat n + 1 = Int32.ofNat (n + 1) := nI_1 n
set_option maxRecDepth 20000 in
theorem gcd_loop {G : mS → Prop} (hT : mTb G tbX2_greatestCommonDivisor) {w : mW} {x y : Int64} : ∀ (k step : Nat) (a b c : Int64), step + k = 1000 → mRet G (some (.long (gcX k a b))) w [47] →
    G (9, [(8, .int (Int32.ofNat step)), (6, .long b), (4, .long a), (9, .long c), (0, .long x), (2, .long y)], [], w)
  | 0, step, a, b, c, hs, hR => by
    obtain rfl : step = 1000 := by omega
    refine mB hT 4 rfl ?_
    exact hR _ (by decide) _ _ _ rfl rfl
  | k + 1, step, a, b, c, hs, hR => by
    refine mB hT 3 rfl ?_
    refine mIf (fun hp => absurd hp (ofNat_nle (n := 1000) (by omega) (by omega))) (fun _ => ?_)
    refine mB hT 4 rfl ?_
    refine mIf (fun h => ?_) (fun h => ?_)
    · refine mB hT 1 rfl ?_
      exact hR _ (by decide) _ _ _ (congrArg (fun z => [Value.long z]) (if_pos (lc_eq.mp h)).symm) rfl
    · have hb : ¬ b = 0 := fun q => h (lc_eq.mpr q)
      refine mB hT 2 rfl ?_
      refine mDiv hT (List.mem_of_getElem? (i := 15) rfl) hb ?_
      refine mB hT 7 rfl ?_
      refine mNf (lv2 := [(8, .int (Int32.ofNat (step + 1))), (6, .long (a - a / b * b)), (4, .long b), (9, .long (a - a / b * b)), (0, .long x), (2, .long y)]) (st2 := []) (by rw [← ofNat_succ]; rfl) rfl ?_
      have e : gcX (k + 1) a b = gcX k b (a - a / b * b) := if_neg hb
      rw [e] at hR
      exact gcd_loop hT k (step + 1) b _ _ (by omega) hR

section
variable {l : Launch} {D : va_G} {ca : Nat → ClassId} {ad : Nat → Nat}


set_option maxRecDepth 20000 in
theorem c_gcd {w : mW} {a b : Int64} : KX2_greatestCommonDivisor l D ca ad [.long a, .long b] w (some (.long (gcX 1000 a b))) w := by
  refine PX2_greatestCommonDivisor (Nat.le_of_ble_eq_true rfl) ?_
  intro G hT hC hR
  refine mB hT 9 rfl ?_
  refine mB hT 4 rfl ?_
  refine mIf (fun h => ?_) (fun h => ?_)
  · refine mB hT 1 rfl ?_
    exact hR _ (by decide) _ _ _ (congrArg (fun z => [Value.long z]) (if_pos (lc_eq.mp h)).symm) rfl
  · have hb : ¬ b = 0 := fun q => h (lc_eq.mpr q)
    refine mB hT 2 rfl ?_
    refine mDiv hT (List.mem_of_getElem? (i := 15) rfl) hb ?_
    refine mB hT 7 rfl ?_
    refine mNf (lv2 := [(8, .int (Int32.ofNat 1)), (6, .long (a - a / b * b)), (4, .long b), (9, .long (a - a / b * b)), (0, .long a), (2, .long b)]) (st2 := []) rfl rfl ?_
    have e : gcX 1000 a b = gcX 999 b (a - a / b * b) := if_neg hb
    rw [e] at hR
    exact gcd_loop hT 999 1 b _ _ (by omega) hR

set_option maxRecDepth 20000 in
theorem c_low {w : mW} {p a b : Int64} (hg : ¬ (gcX 1000 (absX a) (absX b)) = 0) : KX2_inLowestTerms l D ca ad [.long p, .long a, .long b] w (some (.long (p / (gcX 1000 (absX a) (absX b))))) w := by
  refine PX2_inLowestTerms (Nat.le_of_ble_eq_true rfl) ?_
  intro G hT hC hR
  refine mB hT 1 rfl ?_
  refine hC.1 _ [_] _ _ _ _ (c_abs _) rfl (Nat.le_of_ble_eq_true rfl) rfl ?_
  refine mB hT 1 rfl ?_
  refine hC.2.1 _ [_] _ _ _ _ (c_abs _) rfl (Nat.le_of_ble_eq_true rfl) rfl ?_
  refine hC.2.2 _ [_, _] _ _ _ _ (c_gcd) rfl (Nat.le_of_ble_eq_true rfl) rfl ?_
  refine mB hT 5 rfl ?_
  refine mIf (fun hp => absurd hp (fun q => hg (lc_eq.mp q))) (fun _ => ?_)
  refine mB hT 2 rfl ?_
  refine mDiv hT (List.mem_of_getElem? (i := 11) rfl) hg ?_
  exact hR _ (by decide) _ _ _ rfl rfl
theorem c_solve1_d {n vs : Nat} {be de : Int64} {sz : Int32} {ro co mi : Nat → Int64} {T : Nat → Nat → Int64} {B : Nat → Nat → Nat → Int32} {hd : Nat → Nat → Int32} {df : Nat → Int32} (hn : n ≤ 4) (h0 : ¬ detX n (lyT n (B 6) T) = 0) : ∃ (de2 : Int64) (co2 mi2 : Nat → Int64) (T2 : Nat → Nat → Int64), KX1_solve l D ca ad [.ref 1, .ref 10, .int (Int32.ofNat n), .ref 27] (XW (Int32.ofNat n) (Int32.ofNat vs) be de sz ro co mi T B hd df) (some (.int 1)) (XW (Int32.ofNat n) (Int32.ofNat vs) (absX (detX n (lyT n (B 6) T))) de2 (Int32.ofNat n) (roX n (lyT n (B 6) T) df ro) co2 mi2 T2 B hd df) := by
  match n, hn, h0 with
  | 0, _, h0 => exact c_solve1_6_0_4 h0
  | 1, _, h0 => exact c_solve1_6_1_4 h0
  | 2, _, h0 => exact c_solve1_6_2_4 h0
  | 3, _, h0 => exact c_solve1_6_3_4 h0
  | 4, _, h0 => exact c_solve1_6_4_4 h0
theorem c_solve0_d {n vs : Nat} {be de : Int64} {sz : Int32} {ro co mi : Nat → Int64} {T : Nat → Nat → Int64} {B : Nat → Nat → Nat → Int32} {hd : Nat → Nat → Int32} {df : Nat → Int32} (hn : n ≤ 4) (h0 : detX n (lyT n (B 6) T) = 0) : ∃ (de2 : Int64) (mi2 : Nat → Int64) (T2 : Nat → Nat → Int64), KX1_solve l D ca ad [.ref 1, .ref 10, .int (Int32.ofNat n), .ref 27] (XW (Int32.ofNat n) (Int32.ofNat vs) be de sz ro co mi T B hd df) (some (.int 0)) (XW (Int32.ofNat n) (Int32.ofNat vs) be de2 (Int32.ofNat n) ro co mi2 T2 B hd df) := by
  match n, hn, h0 with
  | 0, _, h0 => exact absurd (show (1 : Int64) = 0 from h0) (by decide)
  | 1, _, h0 => exact c_solve0_6_1_4 h0
  | 2, _, h0 => exact c_solve0_6_2_4 h0
  | 3, _, h0 => exact c_solve0_6_3_4 h0
  | 4, _, h0 => exact c_solve0_6_4_4 h0
set_option maxRecDepth 20000 in
theorem x_runs_B_0 {n vs : Nat} {be de : Int64} {sz : Int32} {ro co mi : Nat → Int64} {T : Nat → Nat → Int64} {B : Nat → Nat → Nat → Int32} {hd : Nat → Nat → Int32} {df : Nat → Int32} (hi : 0 < n) (hn : n ≤ 4) {b : Nat} (hb : b < 4) (h0 : detX n (lyT n (B 6) T) = 0) : ∃ (be2 de2 : Int64) (sz2 : Int32) (ro2 co2 mi2 : Nat → Int64) (T2 : Nat → Nat → Int64), KX2_runs l D ca ad [.ref 0, .int (Int32.ofNat b), .int 0] (XW (Int32.ofNat n) (Int32.ofNat vs) be de sz ro co mi T B hd df) (some (.long (-9000000000000000004))) (XW (Int32.ofNat n) (Int32.ofNat vs) be2 de2 sz2 ro2 co2 mi2 T2 B hd df) := by
  obtain ⟨de2, mi2, T2, hk2⟩ := c_solve0_6 (l := l) (D := D) (ca := ca) (ad := ad) (vs := vs) (be := be) (de := de) (sz := sz) (ro := ro) (co := co) (mi := mi) (df := df) hn hb h0
  refine ⟨be, de2, (Int32.ofNat n), ro, co, mi2, T2, ?_⟩
  refine PX2_runs (Nat.le_of_ble_eq_true rfl) ?_
  intro G hT hC hR
  refine mB hT 1 rfl ?_
  refine hC.1 _ [_] _ _ _ _ (c_isBasket_t hb) rfl (Nat.le_of_ble_eq_true rfl) rfl ?_
  refine mB hT 3 rfl ?_
  refine hC.2.1 _ 0 [_] _ _ _ _ _ (c_isMaking_t (i := 0) hi hn) rfl rfl (Nat.le_of_ble_eq_true rfl) rfl ?_
  refine mB hT 10 rfl ?_
  refine mAaldH hT (List.mem_of_getElem? (i := 15) rfl) hb ?_
  refine hC.2.2.1 _ 1 [_, _, _] _ _ _ _ _ (hk2) rfl rfl (Nat.le_of_ble_eq_true rfl) rfl ?_
  refine mB hT 2 rfl ?_
  exact hR _ (by decide) _ _ _ rfl rfl
set_option maxRecDepth 20000 in
theorem x_runs_0 {n vs : Nat} {be de : Int64} {sz : Int32} {ro co mi : Nat → Int64} {T : Nat → Nat → Int64} {B : Nat → Nat → Nat → Int32} {hd : Nat → Nat → Int32} {df : Nat → Int32} (hi : 0 < n) (hn : n ≤ 4) {b : Nat} (hb : b < 4) (h0 : ¬ detX n (lyT n (B 6) T) = 0) : ∃ (be2 de2 : Int64) (sz2 : Int32) (ro2 co2 mi2 : Nat → Int64) (T2 : Nat → Nat → Int64), KX2_runs l D ca ad [.ref 0, .int (Int32.ofNat b), .int 0] (XW (Int32.ofNat n) (Int32.ofNat vs) be de sz ro co mi T B hd df) (some (.long (thX ((roX n (lyT n (B 6) T) (hd b) ro) 0 * (B 6 0 3).toInt64) (absX (detX n (lyT n (B 6) T)))))) (XW (Int32.ofNat n) (Int32.ofNat vs) be2 de2 sz2 ro2 co2 mi2 T2 B hd df) := by
  obtain ⟨de2, co2, mi2, T2, hk2⟩ := c_solve1_6 (l := l) (D := D) (ca := ca) (ad := ad) (vs := vs) (be := be) (de := de) (sz := sz) (ro := ro) (co := co) (mi := mi) (df := df) hn hb h0
  obtain ⟨r1, er1⟩ : ∃ z, z = roX n (lyT n (B 6) T) (hd b) ro := ⟨_, rfl⟩
  rw [← er1] at hk2
  obtain ⟨dt, edt⟩ : ∃ z, z = detX n (lyT n (B 6) T) := ⟨_, rfl⟩
  rw [← edt] at hk2 h0
  rw [← er1, ← edt]
  refine ⟨absX dt, de2, (Int32.ofNat n), r1, co2, mi2, T2, ?_⟩
  refine PX2_runs (Nat.le_of_ble_eq_true rfl) ?_
  intro G hT hC hR
  refine mB hT 1 rfl ?_
  refine hC.1 _ [_] _ _ _ _ (c_isBasket_t hb) rfl (Nat.le_of_ble_eq_true rfl) rfl ?_
  refine mB hT 3 rfl ?_
  refine hC.2.1 _ 0 [_] _ _ _ _ _ (c_isMaking_t (i := 0) hi hn) rfl rfl (Nat.le_of_ble_eq_true rfl) rfl ?_
  refine mB hT 10 rfl ?_
  refine mAaldH hT (List.mem_of_getElem? (i := 15) rfl) hb ?_
  refine hC.2.2.1 _ 1 [_, _, _] _ _ _ _ _ (hk2) rfl rfl (Nat.le_of_ble_eq_true rfl) rfl ?_
  refine mB hT 18 rfl ?_
  refine hC.2.2.2 _ [_, _] _ _ _ _ (c_th (absX_ne h0)) rfl (Nat.le_of_ble_eq_true rfl) rfl ?_
  exact hR _ (by decide) _ _ _ rfl rfl
set_option maxRecDepth 20000 in
theorem x_share_B_0 {n vs : Nat} {be de : Int64} {sz : Int32} {ro co mi : Nat → Int64} {T : Nat → Nat → Int64} {B : Nat → Nat → Nat → Int32} {hd : Nat → Nat → Int32} {df : Nat → Int32} (hi : 0 < n) (hn : n ≤ 4) {b : Nat} (hb : b < 4) {k : Nat} (hk : k < 3) (h0 : detX n (lyT n (B 6) T) = 0) : ∃ (be2 de2 : Int64) (sz2 : Int32) (ro2 co2 mi2 : Nat → Int64) (T2 : Nat → Nat → Int64), KX2_share l D ca ad [.ref 0, .int (Int32.ofNat b), .int (Int32.ofNat k), .int 0] (XW (Int32.ofNat n) (Int32.ofNat vs) be de sz ro co mi T B hd df) (some (.long (-9000000000000000004))) (XW (Int32.ofNat n) (Int32.ofNat vs) be2 de2 sz2 ro2 co2 mi2 T2 B hd df) := by
  obtain ⟨de2, mi2, T2, hk2⟩ := c_solve0_6 (l := l) (D := D) (ca := ca) (ad := ad) (vs := vs) (be := be) (de := de) (sz := sz) (ro := ro) (co := co) (mi := mi) (df := df) hn hb h0
  refine ⟨be, de2, (Int32.ofNat n), ro, co, mi2, T2, ?_⟩
  refine PX2_share (Nat.le_of_ble_eq_true rfl) ?_
  intro G hT hC hR
  refine mB hT 1 rfl ?_
  refine hC.1 _ [_] _ _ _ _ (c_isBasket_t hb) rfl (Nat.le_of_ble_eq_true rfl) rfl ?_
  refine mB hT 2 rfl ?_
  refine hC.2.1 _ [_] _ _ _ _ (c_isStuff_t hk) rfl (Nat.le_of_ble_eq_true rfl) rfl ?_
  refine mB hT 3 rfl ?_
  refine hC.2.2.1 _ 0 [_] _ _ _ _ _ (c_isMaking_t (i := 0) hi hn) rfl rfl (Nat.le_of_ble_eq_true rfl) rfl ?_
  refine mB hT 10 rfl ?_
  refine mAaldH hT (List.mem_of_getElem? (i := 17) rfl) hb ?_
  refine hC.2.2.2.1 _ 1 [_, _, _] _ _ _ _ _ (hk2) rfl rfl (Nat.le_of_ble_eq_true rfl) rfl ?_
  refine mB hT 2 rfl ?_
  exact hR _ (by decide) _ _ _ rfl rfl
set_option maxRecDepth 20000 in
theorem x_share_0 {n vs : Nat} {be de : Int64} {sz : Int32} {ro co mi : Nat → Int64} {T : Nat → Nat → Int64} {B : Nat → Nat → Nat → Int32} {hd : Nat → Nat → Int32} {df : Nat → Int32} (hi : 0 < n) (hn : n ≤ 4) {b : Nat} (hb : b < 4) {k : Nat} (hk : k < 3) (h0 : ¬ detX n (lyT n (B 6) T) = 0) : ∃ (be2 de2 : Int64) (sz2 : Int32) (ro2 co2 mi2 : Nat → Int64) (T2 : Nat → Nat → Int64), KX2_share l D ca ad [.ref 0, .int (Int32.ofNat b), .int (Int32.ofNat k), .int 0] (XW (Int32.ofNat n) (Int32.ofNat vs) be de sz ro co mi T B hd df) (some (.long (thX (emX (B 6 0) k 1 * (roX n (lyT n (B 6) T) (hd b) ro) 0) (absX (detX n (lyT n (B 6) T)))))) (XW (Int32.ofNat n) (Int32.ofNat vs) be2 de2 sz2 ro2 co2 mi2 T2 B hd df) := by
  obtain ⟨de2, co2, mi2, T2, hk2⟩ := c_solve1_6 (l := l) (D := D) (ca := ca) (ad := ad) (vs := vs) (be := be) (de := de) (sz := sz) (ro := ro) (co := co) (mi := mi) (df := df) hn hb h0
  obtain ⟨r1, er1⟩ : ∃ z, z = roX n (lyT n (B 6) T) (hd b) ro := ⟨_, rfl⟩
  rw [← er1] at hk2
  obtain ⟨dt, edt⟩ : ∃ z, z = detX n (lyT n (B 6) T) := ⟨_, rfl⟩
  rw [← edt] at hk2 h0
  rw [← er1, ← edt]
  refine ⟨absX dt, de2, (Int32.ofNat n), r1, co2, mi2, T2, ?_⟩
  refine PX2_share (Nat.le_of_ble_eq_true rfl) ?_
  intro G hT hC hR
  refine mB hT 1 rfl ?_
  refine hC.1 _ [_] _ _ _ _ (c_isBasket_t hb) rfl (Nat.le_of_ble_eq_true rfl) rfl ?_
  refine mB hT 2 rfl ?_
  refine hC.2.1 _ [_] _ _ _ _ (c_isStuff_t hk) rfl (Nat.le_of_ble_eq_true rfl) rfl ?_
  refine mB hT 3 rfl ?_
  refine hC.2.2.1 _ 0 [_] _ _ _ _ _ (c_isMaking_t (i := 0) hi hn) rfl rfl (Nat.le_of_ble_eq_true rfl) rfl ?_
  refine mB hT 10 rfl ?_
  refine mAaldH hT (List.mem_of_getElem? (i := 17) rfl) hb ?_
  refine hC.2.2.2.1 _ 1 [_, _, _] _ _ _ _ _ (hk2) rfl rfl (Nat.le_of_ble_eq_true rfl) rfl ?_
  refine mB hT 8 rfl ?_
  refine hC.2.2.2.2.1 _ 1 [_, _, _, _] _ _ _ _ _ (c_brought_6_0 k 1 hk (by decide)) rfl rfl (Nat.le_of_ble_eq_true rfl) rfl ?_
  refine mB hT 3 rfl ?_
  refine hC.2.2.2.2.2 _ [_, _] _ _ _ _ (c_th (absX_ne h0)) rfl (Nat.le_of_ble_eq_true rfl) rfl ?_
  exact hR _ (by decide) _ _ _ rfl rfl
set_option maxRecDepth 20000 in
theorem x_runs_B_1 {n vs : Nat} {be de : Int64} {sz : Int32} {ro co mi : Nat → Int64} {T : Nat → Nat → Int64} {B : Nat → Nat → Nat → Int32} {hd : Nat → Nat → Int32} {df : Nat → Int32} (hi : 1 < n) (hn : n ≤ 4) {b : Nat} (hb : b < 4) (h0 : detX n (lyT n (B 6) T) = 0) : ∃ (be2 de2 : Int64) (sz2 : Int32) (ro2 co2 mi2 : Nat → Int64) (T2 : Nat → Nat → Int64), KX2_runs l D ca ad [.ref 0, .int (Int32.ofNat b), .int 1] (XW (Int32.ofNat n) (Int32.ofNat vs) be de sz ro co mi T B hd df) (some (.long (-9000000000000000004))) (XW (Int32.ofNat n) (Int32.ofNat vs) be2 de2 sz2 ro2 co2 mi2 T2 B hd df) := by
  obtain ⟨de2, mi2, T2, hk2⟩ := c_solve0_6 (l := l) (D := D) (ca := ca) (ad := ad) (vs := vs) (be := be) (de := de) (sz := sz) (ro := ro) (co := co) (mi := mi) (df := df) hn hb h0
  refine ⟨be, de2, (Int32.ofNat n), ro, co, mi2, T2, ?_⟩
  refine PX2_runs (Nat.le_of_ble_eq_true rfl) ?_
  intro G hT hC hR
  refine mB hT 1 rfl ?_
  refine hC.1 _ [_] _ _ _ _ (c_isBasket_t hb) rfl (Nat.le_of_ble_eq_true rfl) rfl ?_
  refine mB hT 3 rfl ?_
  refine hC.2.1 _ 0 [_] _ _ _ _ _ (c_isMaking_t (i := 1) hi hn) rfl rfl (Nat.le_of_ble_eq_true rfl) rfl ?_
  refine mB hT 10 rfl ?_
  refine mAaldH hT (List.mem_of_getElem? (i := 15) rfl) hb ?_
  refine hC.2.2.1 _ 1 [_, _, _] _ _ _ _ _ (hk2) rfl rfl (Nat.le_of_ble_eq_true rfl) rfl ?_
  refine mB hT 2 rfl ?_
  exact hR _ (by decide) _ _ _ rfl rfl
set_option maxRecDepth 20000 in
theorem x_runs_1 {n vs : Nat} {be de : Int64} {sz : Int32} {ro co mi : Nat → Int64} {T : Nat → Nat → Int64} {B : Nat → Nat → Nat → Int32} {hd : Nat → Nat → Int32} {df : Nat → Int32} (hi : 1 < n) (hn : n ≤ 4) {b : Nat} (hb : b < 4) (h0 : ¬ detX n (lyT n (B 6) T) = 0) : ∃ (be2 de2 : Int64) (sz2 : Int32) (ro2 co2 mi2 : Nat → Int64) (T2 : Nat → Nat → Int64), KX2_runs l D ca ad [.ref 0, .int (Int32.ofNat b), .int 1] (XW (Int32.ofNat n) (Int32.ofNat vs) be de sz ro co mi T B hd df) (some (.long (thX ((roX n (lyT n (B 6) T) (hd b) ro) 1 * (B 6 1 3).toInt64) (absX (detX n (lyT n (B 6) T)))))) (XW (Int32.ofNat n) (Int32.ofNat vs) be2 de2 sz2 ro2 co2 mi2 T2 B hd df) := by
  obtain ⟨de2, co2, mi2, T2, hk2⟩ := c_solve1_6 (l := l) (D := D) (ca := ca) (ad := ad) (vs := vs) (be := be) (de := de) (sz := sz) (ro := ro) (co := co) (mi := mi) (df := df) hn hb h0
  obtain ⟨r1, er1⟩ : ∃ z, z = roX n (lyT n (B 6) T) (hd b) ro := ⟨_, rfl⟩
  rw [← er1] at hk2
  obtain ⟨dt, edt⟩ : ∃ z, z = detX n (lyT n (B 6) T) := ⟨_, rfl⟩
  rw [← edt] at hk2 h0
  rw [← er1, ← edt]
  refine ⟨absX dt, de2, (Int32.ofNat n), r1, co2, mi2, T2, ?_⟩
  refine PX2_runs (Nat.le_of_ble_eq_true rfl) ?_
  intro G hT hC hR
  refine mB hT 1 rfl ?_
  refine hC.1 _ [_] _ _ _ _ (c_isBasket_t hb) rfl (Nat.le_of_ble_eq_true rfl) rfl ?_
  refine mB hT 3 rfl ?_
  refine hC.2.1 _ 0 [_] _ _ _ _ _ (c_isMaking_t (i := 1) hi hn) rfl rfl (Nat.le_of_ble_eq_true rfl) rfl ?_
  refine mB hT 10 rfl ?_
  refine mAaldH hT (List.mem_of_getElem? (i := 15) rfl) hb ?_
  refine hC.2.2.1 _ 1 [_, _, _] _ _ _ _ _ (hk2) rfl rfl (Nat.le_of_ble_eq_true rfl) rfl ?_
  refine mB hT 18 rfl ?_
  refine hC.2.2.2 _ [_, _] _ _ _ _ (c_th (absX_ne h0)) rfl (Nat.le_of_ble_eq_true rfl) rfl ?_
  exact hR _ (by decide) _ _ _ rfl rfl
set_option maxRecDepth 20000 in
theorem x_share_B_1 {n vs : Nat} {be de : Int64} {sz : Int32} {ro co mi : Nat → Int64} {T : Nat → Nat → Int64} {B : Nat → Nat → Nat → Int32} {hd : Nat → Nat → Int32} {df : Nat → Int32} (hi : 1 < n) (hn : n ≤ 4) {b : Nat} (hb : b < 4) {k : Nat} (hk : k < 3) (h0 : detX n (lyT n (B 6) T) = 0) : ∃ (be2 de2 : Int64) (sz2 : Int32) (ro2 co2 mi2 : Nat → Int64) (T2 : Nat → Nat → Int64), KX2_share l D ca ad [.ref 0, .int (Int32.ofNat b), .int (Int32.ofNat k), .int 1] (XW (Int32.ofNat n) (Int32.ofNat vs) be de sz ro co mi T B hd df) (some (.long (-9000000000000000004))) (XW (Int32.ofNat n) (Int32.ofNat vs) be2 de2 sz2 ro2 co2 mi2 T2 B hd df) := by
  obtain ⟨de2, mi2, T2, hk2⟩ := c_solve0_6 (l := l) (D := D) (ca := ca) (ad := ad) (vs := vs) (be := be) (de := de) (sz := sz) (ro := ro) (co := co) (mi := mi) (df := df) hn hb h0
  refine ⟨be, de2, (Int32.ofNat n), ro, co, mi2, T2, ?_⟩
  refine PX2_share (Nat.le_of_ble_eq_true rfl) ?_
  intro G hT hC hR
  refine mB hT 1 rfl ?_
  refine hC.1 _ [_] _ _ _ _ (c_isBasket_t hb) rfl (Nat.le_of_ble_eq_true rfl) rfl ?_
  refine mB hT 2 rfl ?_
  refine hC.2.1 _ [_] _ _ _ _ (c_isStuff_t hk) rfl (Nat.le_of_ble_eq_true rfl) rfl ?_
  refine mB hT 3 rfl ?_
  refine hC.2.2.1 _ 0 [_] _ _ _ _ _ (c_isMaking_t (i := 1) hi hn) rfl rfl (Nat.le_of_ble_eq_true rfl) rfl ?_
  refine mB hT 10 rfl ?_
  refine mAaldH hT (List.mem_of_getElem? (i := 17) rfl) hb ?_
  refine hC.2.2.2.1 _ 1 [_, _, _] _ _ _ _ _ (hk2) rfl rfl (Nat.le_of_ble_eq_true rfl) rfl ?_
  refine mB hT 2 rfl ?_
  exact hR _ (by decide) _ _ _ rfl rfl
set_option maxRecDepth 20000 in
theorem x_share_1 {n vs : Nat} {be de : Int64} {sz : Int32} {ro co mi : Nat → Int64} {T : Nat → Nat → Int64} {B : Nat → Nat → Nat → Int32} {hd : Nat → Nat → Int32} {df : Nat → Int32} (hi : 1 < n) (hn : n ≤ 4) {b : Nat} (hb : b < 4) {k : Nat} (hk : k < 3) (h0 : ¬ detX n (lyT n (B 6) T) = 0) : ∃ (be2 de2 : Int64) (sz2 : Int32) (ro2 co2 mi2 : Nat → Int64) (T2 : Nat → Nat → Int64), KX2_share l D ca ad [.ref 0, .int (Int32.ofNat b), .int (Int32.ofNat k), .int 1] (XW (Int32.ofNat n) (Int32.ofNat vs) be de sz ro co mi T B hd df) (some (.long (thX (emX (B 6 1) k 1 * (roX n (lyT n (B 6) T) (hd b) ro) 1) (absX (detX n (lyT n (B 6) T)))))) (XW (Int32.ofNat n) (Int32.ofNat vs) be2 de2 sz2 ro2 co2 mi2 T2 B hd df) := by
  obtain ⟨de2, co2, mi2, T2, hk2⟩ := c_solve1_6 (l := l) (D := D) (ca := ca) (ad := ad) (vs := vs) (be := be) (de := de) (sz := sz) (ro := ro) (co := co) (mi := mi) (df := df) hn hb h0
  obtain ⟨r1, er1⟩ : ∃ z, z = roX n (lyT n (B 6) T) (hd b) ro := ⟨_, rfl⟩
  rw [← er1] at hk2
  obtain ⟨dt, edt⟩ : ∃ z, z = detX n (lyT n (B 6) T) := ⟨_, rfl⟩
  rw [← edt] at hk2 h0
  rw [← er1, ← edt]
  refine ⟨absX dt, de2, (Int32.ofNat n), r1, co2, mi2, T2, ?_⟩
  refine PX2_share (Nat.le_of_ble_eq_true rfl) ?_
  intro G hT hC hR
  refine mB hT 1 rfl ?_
  refine hC.1 _ [_] _ _ _ _ (c_isBasket_t hb) rfl (Nat.le_of_ble_eq_true rfl) rfl ?_
  refine mB hT 2 rfl ?_
  refine hC.2.1 _ [_] _ _ _ _ (c_isStuff_t hk) rfl (Nat.le_of_ble_eq_true rfl) rfl ?_
  refine mB hT 3 rfl ?_
  refine hC.2.2.1 _ 0 [_] _ _ _ _ _ (c_isMaking_t (i := 1) hi hn) rfl rfl (Nat.le_of_ble_eq_true rfl) rfl ?_
  refine mB hT 10 rfl ?_
  refine mAaldH hT (List.mem_of_getElem? (i := 17) rfl) hb ?_
  refine hC.2.2.2.1 _ 1 [_, _, _] _ _ _ _ _ (hk2) rfl rfl (Nat.le_of_ble_eq_true rfl) rfl ?_
  refine mB hT 8 rfl ?_
  refine hC.2.2.2.2.1 _ 1 [_, _, _, _] _ _ _ _ _ (c_brought_6_1 k 1 hk (by decide)) rfl rfl (Nat.le_of_ble_eq_true rfl) rfl ?_
  refine mB hT 3 rfl ?_
  refine hC.2.2.2.2.2 _ [_, _] _ _ _ _ (c_th (absX_ne h0)) rfl (Nat.le_of_ble_eq_true rfl) rfl ?_
  exact hR _ (by decide) _ _ _ rfl rfl
set_option maxRecDepth 20000 in
theorem x_runs_B_2 {n vs : Nat} {be de : Int64} {sz : Int32} {ro co mi : Nat → Int64} {T : Nat → Nat → Int64} {B : Nat → Nat → Nat → Int32} {hd : Nat → Nat → Int32} {df : Nat → Int32} (hi : 2 < n) (hn : n ≤ 4) {b : Nat} (hb : b < 4) (h0 : detX n (lyT n (B 6) T) = 0) : ∃ (be2 de2 : Int64) (sz2 : Int32) (ro2 co2 mi2 : Nat → Int64) (T2 : Nat → Nat → Int64), KX2_runs l D ca ad [.ref 0, .int (Int32.ofNat b), .int 2] (XW (Int32.ofNat n) (Int32.ofNat vs) be de sz ro co mi T B hd df) (some (.long (-9000000000000000004))) (XW (Int32.ofNat n) (Int32.ofNat vs) be2 de2 sz2 ro2 co2 mi2 T2 B hd df) := by
  obtain ⟨de2, mi2, T2, hk2⟩ := c_solve0_6 (l := l) (D := D) (ca := ca) (ad := ad) (vs := vs) (be := be) (de := de) (sz := sz) (ro := ro) (co := co) (mi := mi) (df := df) hn hb h0
  refine ⟨be, de2, (Int32.ofNat n), ro, co, mi2, T2, ?_⟩
  refine PX2_runs (Nat.le_of_ble_eq_true rfl) ?_
  intro G hT hC hR
  refine mB hT 1 rfl ?_
  refine hC.1 _ [_] _ _ _ _ (c_isBasket_t hb) rfl (Nat.le_of_ble_eq_true rfl) rfl ?_
  refine mB hT 3 rfl ?_
  refine hC.2.1 _ 0 [_] _ _ _ _ _ (c_isMaking_t (i := 2) hi hn) rfl rfl (Nat.le_of_ble_eq_true rfl) rfl ?_
  refine mB hT 10 rfl ?_
  refine mAaldH hT (List.mem_of_getElem? (i := 15) rfl) hb ?_
  refine hC.2.2.1 _ 1 [_, _, _] _ _ _ _ _ (hk2) rfl rfl (Nat.le_of_ble_eq_true rfl) rfl ?_
  refine mB hT 2 rfl ?_
  exact hR _ (by decide) _ _ _ rfl rfl
set_option maxRecDepth 20000 in
theorem x_runs_2 {n vs : Nat} {be de : Int64} {sz : Int32} {ro co mi : Nat → Int64} {T : Nat → Nat → Int64} {B : Nat → Nat → Nat → Int32} {hd : Nat → Nat → Int32} {df : Nat → Int32} (hi : 2 < n) (hn : n ≤ 4) {b : Nat} (hb : b < 4) (h0 : ¬ detX n (lyT n (B 6) T) = 0) : ∃ (be2 de2 : Int64) (sz2 : Int32) (ro2 co2 mi2 : Nat → Int64) (T2 : Nat → Nat → Int64), KX2_runs l D ca ad [.ref 0, .int (Int32.ofNat b), .int 2] (XW (Int32.ofNat n) (Int32.ofNat vs) be de sz ro co mi T B hd df) (some (.long (thX ((roX n (lyT n (B 6) T) (hd b) ro) 2 * (B 6 2 3).toInt64) (absX (detX n (lyT n (B 6) T)))))) (XW (Int32.ofNat n) (Int32.ofNat vs) be2 de2 sz2 ro2 co2 mi2 T2 B hd df) := by
  obtain ⟨de2, co2, mi2, T2, hk2⟩ := c_solve1_6 (l := l) (D := D) (ca := ca) (ad := ad) (vs := vs) (be := be) (de := de) (sz := sz) (ro := ro) (co := co) (mi := mi) (df := df) hn hb h0
  obtain ⟨r1, er1⟩ : ∃ z, z = roX n (lyT n (B 6) T) (hd b) ro := ⟨_, rfl⟩
  rw [← er1] at hk2
  obtain ⟨dt, edt⟩ : ∃ z, z = detX n (lyT n (B 6) T) := ⟨_, rfl⟩
  rw [← edt] at hk2 h0
  rw [← er1, ← edt]
  refine ⟨absX dt, de2, (Int32.ofNat n), r1, co2, mi2, T2, ?_⟩
  refine PX2_runs (Nat.le_of_ble_eq_true rfl) ?_
  intro G hT hC hR
  refine mB hT 1 rfl ?_
  refine hC.1 _ [_] _ _ _ _ (c_isBasket_t hb) rfl (Nat.le_of_ble_eq_true rfl) rfl ?_
  refine mB hT 3 rfl ?_
  refine hC.2.1 _ 0 [_] _ _ _ _ _ (c_isMaking_t (i := 2) hi hn) rfl rfl (Nat.le_of_ble_eq_true rfl) rfl ?_
  refine mB hT 10 rfl ?_
  refine mAaldH hT (List.mem_of_getElem? (i := 15) rfl) hb ?_
  refine hC.2.2.1 _ 1 [_, _, _] _ _ _ _ _ (hk2) rfl rfl (Nat.le_of_ble_eq_true rfl) rfl ?_
  refine mB hT 18 rfl ?_
  refine hC.2.2.2 _ [_, _] _ _ _ _ (c_th (absX_ne h0)) rfl (Nat.le_of_ble_eq_true rfl) rfl ?_
  exact hR _ (by decide) _ _ _ rfl rfl
set_option maxRecDepth 20000 in
theorem x_share_B_2 {n vs : Nat} {be de : Int64} {sz : Int32} {ro co mi : Nat → Int64} {T : Nat → Nat → Int64} {B : Nat → Nat → Nat → Int32} {hd : Nat → Nat → Int32} {df : Nat → Int32} (hi : 2 < n) (hn : n ≤ 4) {b : Nat} (hb : b < 4) {k : Nat} (hk : k < 3) (h0 : detX n (lyT n (B 6) T) = 0) : ∃ (be2 de2 : Int64) (sz2 : Int32) (ro2 co2 mi2 : Nat → Int64) (T2 : Nat → Nat → Int64), KX2_share l D ca ad [.ref 0, .int (Int32.ofNat b), .int (Int32.ofNat k), .int 2] (XW (Int32.ofNat n) (Int32.ofNat vs) be de sz ro co mi T B hd df) (some (.long (-9000000000000000004))) (XW (Int32.ofNat n) (Int32.ofNat vs) be2 de2 sz2 ro2 co2 mi2 T2 B hd df) := by
  obtain ⟨de2, mi2, T2, hk2⟩ := c_solve0_6 (l := l) (D := D) (ca := ca) (ad := ad) (vs := vs) (be := be) (de := de) (sz := sz) (ro := ro) (co := co) (mi := mi) (df := df) hn hb h0
  refine ⟨be, de2, (Int32.ofNat n), ro, co, mi2, T2, ?_⟩
  refine PX2_share (Nat.le_of_ble_eq_true rfl) ?_
  intro G hT hC hR
  refine mB hT 1 rfl ?_
  refine hC.1 _ [_] _ _ _ _ (c_isBasket_t hb) rfl (Nat.le_of_ble_eq_true rfl) rfl ?_
  refine mB hT 2 rfl ?_
  refine hC.2.1 _ [_] _ _ _ _ (c_isStuff_t hk) rfl (Nat.le_of_ble_eq_true rfl) rfl ?_
  refine mB hT 3 rfl ?_
  refine hC.2.2.1 _ 0 [_] _ _ _ _ _ (c_isMaking_t (i := 2) hi hn) rfl rfl (Nat.le_of_ble_eq_true rfl) rfl ?_
  refine mB hT 10 rfl ?_
  refine mAaldH hT (List.mem_of_getElem? (i := 17) rfl) hb ?_
  refine hC.2.2.2.1 _ 1 [_, _, _] _ _ _ _ _ (hk2) rfl rfl (Nat.le_of_ble_eq_true rfl) rfl ?_
  refine mB hT 2 rfl ?_
  exact hR _ (by decide) _ _ _ rfl rfl
set_option maxRecDepth 20000 in
theorem x_share_2 {n vs : Nat} {be de : Int64} {sz : Int32} {ro co mi : Nat → Int64} {T : Nat → Nat → Int64} {B : Nat → Nat → Nat → Int32} {hd : Nat → Nat → Int32} {df : Nat → Int32} (hi : 2 < n) (hn : n ≤ 4) {b : Nat} (hb : b < 4) {k : Nat} (hk : k < 3) (h0 : ¬ detX n (lyT n (B 6) T) = 0) : ∃ (be2 de2 : Int64) (sz2 : Int32) (ro2 co2 mi2 : Nat → Int64) (T2 : Nat → Nat → Int64), KX2_share l D ca ad [.ref 0, .int (Int32.ofNat b), .int (Int32.ofNat k), .int 2] (XW (Int32.ofNat n) (Int32.ofNat vs) be de sz ro co mi T B hd df) (some (.long (thX (emX (B 6 2) k 1 * (roX n (lyT n (B 6) T) (hd b) ro) 2) (absX (detX n (lyT n (B 6) T)))))) (XW (Int32.ofNat n) (Int32.ofNat vs) be2 de2 sz2 ro2 co2 mi2 T2 B hd df) := by
  obtain ⟨de2, co2, mi2, T2, hk2⟩ := c_solve1_6 (l := l) (D := D) (ca := ca) (ad := ad) (vs := vs) (be := be) (de := de) (sz := sz) (ro := ro) (co := co) (mi := mi) (df := df) hn hb h0
  obtain ⟨r1, er1⟩ : ∃ z, z = roX n (lyT n (B 6) T) (hd b) ro := ⟨_, rfl⟩
  rw [← er1] at hk2
  obtain ⟨dt, edt⟩ : ∃ z, z = detX n (lyT n (B 6) T) := ⟨_, rfl⟩
  rw [← edt] at hk2 h0
  rw [← er1, ← edt]
  refine ⟨absX dt, de2, (Int32.ofNat n), r1, co2, mi2, T2, ?_⟩
  refine PX2_share (Nat.le_of_ble_eq_true rfl) ?_
  intro G hT hC hR
  refine mB hT 1 rfl ?_
  refine hC.1 _ [_] _ _ _ _ (c_isBasket_t hb) rfl (Nat.le_of_ble_eq_true rfl) rfl ?_
  refine mB hT 2 rfl ?_
  refine hC.2.1 _ [_] _ _ _ _ (c_isStuff_t hk) rfl (Nat.le_of_ble_eq_true rfl) rfl ?_
  refine mB hT 3 rfl ?_
  refine hC.2.2.1 _ 0 [_] _ _ _ _ _ (c_isMaking_t (i := 2) hi hn) rfl rfl (Nat.le_of_ble_eq_true rfl) rfl ?_
  refine mB hT 10 rfl ?_
  refine mAaldH hT (List.mem_of_getElem? (i := 17) rfl) hb ?_
  refine hC.2.2.2.1 _ 1 [_, _, _] _ _ _ _ _ (hk2) rfl rfl (Nat.le_of_ble_eq_true rfl) rfl ?_
  refine mB hT 8 rfl ?_
  refine hC.2.2.2.2.1 _ 1 [_, _, _, _] _ _ _ _ _ (c_brought_6_2 k 1 hk (by decide)) rfl rfl (Nat.le_of_ble_eq_true rfl) rfl ?_
  refine mB hT 3 rfl ?_
  refine hC.2.2.2.2.2 _ [_, _] _ _ _ _ (c_th (absX_ne h0)) rfl (Nat.le_of_ble_eq_true rfl) rfl ?_
  exact hR _ (by decide) _ _ _ rfl rfl
set_option maxRecDepth 20000 in
theorem x_runs_B_3 {n vs : Nat} {be de : Int64} {sz : Int32} {ro co mi : Nat → Int64} {T : Nat → Nat → Int64} {B : Nat → Nat → Nat → Int32} {hd : Nat → Nat → Int32} {df : Nat → Int32} (hi : 3 < n) (hn : n ≤ 4) {b : Nat} (hb : b < 4) (h0 : detX n (lyT n (B 6) T) = 0) : ∃ (be2 de2 : Int64) (sz2 : Int32) (ro2 co2 mi2 : Nat → Int64) (T2 : Nat → Nat → Int64), KX2_runs l D ca ad [.ref 0, .int (Int32.ofNat b), .int 3] (XW (Int32.ofNat n) (Int32.ofNat vs) be de sz ro co mi T B hd df) (some (.long (-9000000000000000004))) (XW (Int32.ofNat n) (Int32.ofNat vs) be2 de2 sz2 ro2 co2 mi2 T2 B hd df) := by
  obtain ⟨de2, mi2, T2, hk2⟩ := c_solve0_6 (l := l) (D := D) (ca := ca) (ad := ad) (vs := vs) (be := be) (de := de) (sz := sz) (ro := ro) (co := co) (mi := mi) (df := df) hn hb h0
  refine ⟨be, de2, (Int32.ofNat n), ro, co, mi2, T2, ?_⟩
  refine PX2_runs (Nat.le_of_ble_eq_true rfl) ?_
  intro G hT hC hR
  refine mB hT 1 rfl ?_
  refine hC.1 _ [_] _ _ _ _ (c_isBasket_t hb) rfl (Nat.le_of_ble_eq_true rfl) rfl ?_
  refine mB hT 3 rfl ?_
  refine hC.2.1 _ 0 [_] _ _ _ _ _ (c_isMaking_t (i := 3) hi hn) rfl rfl (Nat.le_of_ble_eq_true rfl) rfl ?_
  refine mB hT 10 rfl ?_
  refine mAaldH hT (List.mem_of_getElem? (i := 15) rfl) hb ?_
  refine hC.2.2.1 _ 1 [_, _, _] _ _ _ _ _ (hk2) rfl rfl (Nat.le_of_ble_eq_true rfl) rfl ?_
  refine mB hT 2 rfl ?_
  exact hR _ (by decide) _ _ _ rfl rfl
set_option maxRecDepth 20000 in
theorem x_runs_3 {n vs : Nat} {be de : Int64} {sz : Int32} {ro co mi : Nat → Int64} {T : Nat → Nat → Int64} {B : Nat → Nat → Nat → Int32} {hd : Nat → Nat → Int32} {df : Nat → Int32} (hi : 3 < n) (hn : n ≤ 4) {b : Nat} (hb : b < 4) (h0 : ¬ detX n (lyT n (B 6) T) = 0) : ∃ (be2 de2 : Int64) (sz2 : Int32) (ro2 co2 mi2 : Nat → Int64) (T2 : Nat → Nat → Int64), KX2_runs l D ca ad [.ref 0, .int (Int32.ofNat b), .int 3] (XW (Int32.ofNat n) (Int32.ofNat vs) be de sz ro co mi T B hd df) (some (.long (thX ((roX n (lyT n (B 6) T) (hd b) ro) 3 * (B 6 3 3).toInt64) (absX (detX n (lyT n (B 6) T)))))) (XW (Int32.ofNat n) (Int32.ofNat vs) be2 de2 sz2 ro2 co2 mi2 T2 B hd df) := by
  obtain ⟨de2, co2, mi2, T2, hk2⟩ := c_solve1_6 (l := l) (D := D) (ca := ca) (ad := ad) (vs := vs) (be := be) (de := de) (sz := sz) (ro := ro) (co := co) (mi := mi) (df := df) hn hb h0
  obtain ⟨r1, er1⟩ : ∃ z, z = roX n (lyT n (B 6) T) (hd b) ro := ⟨_, rfl⟩
  rw [← er1] at hk2
  obtain ⟨dt, edt⟩ : ∃ z, z = detX n (lyT n (B 6) T) := ⟨_, rfl⟩
  rw [← edt] at hk2 h0
  rw [← er1, ← edt]
  refine ⟨absX dt, de2, (Int32.ofNat n), r1, co2, mi2, T2, ?_⟩
  refine PX2_runs (Nat.le_of_ble_eq_true rfl) ?_
  intro G hT hC hR
  refine mB hT 1 rfl ?_
  refine hC.1 _ [_] _ _ _ _ (c_isBasket_t hb) rfl (Nat.le_of_ble_eq_true rfl) rfl ?_
  refine mB hT 3 rfl ?_
  refine hC.2.1 _ 0 [_] _ _ _ _ _ (c_isMaking_t (i := 3) hi hn) rfl rfl (Nat.le_of_ble_eq_true rfl) rfl ?_
  refine mB hT 10 rfl ?_
  refine mAaldH hT (List.mem_of_getElem? (i := 15) rfl) hb ?_
  refine hC.2.2.1 _ 1 [_, _, _] _ _ _ _ _ (hk2) rfl rfl (Nat.le_of_ble_eq_true rfl) rfl ?_
  refine mB hT 18 rfl ?_
  refine hC.2.2.2 _ [_, _] _ _ _ _ (c_th (absX_ne h0)) rfl (Nat.le_of_ble_eq_true rfl) rfl ?_
  exact hR _ (by decide) _ _ _ rfl rfl
set_option maxRecDepth 20000 in
theorem x_share_B_3 {n vs : Nat} {be de : Int64} {sz : Int32} {ro co mi : Nat → Int64} {T : Nat → Nat → Int64} {B : Nat → Nat → Nat → Int32} {hd : Nat → Nat → Int32} {df : Nat → Int32} (hi : 3 < n) (hn : n ≤ 4) {b : Nat} (hb : b < 4) {k : Nat} (hk : k < 3) (h0 : detX n (lyT n (B 6) T) = 0) : ∃ (be2 de2 : Int64) (sz2 : Int32) (ro2 co2 mi2 : Nat → Int64) (T2 : Nat → Nat → Int64), KX2_share l D ca ad [.ref 0, .int (Int32.ofNat b), .int (Int32.ofNat k), .int 3] (XW (Int32.ofNat n) (Int32.ofNat vs) be de sz ro co mi T B hd df) (some (.long (-9000000000000000004))) (XW (Int32.ofNat n) (Int32.ofNat vs) be2 de2 sz2 ro2 co2 mi2 T2 B hd df) := by
  obtain ⟨de2, mi2, T2, hk2⟩ := c_solve0_6 (l := l) (D := D) (ca := ca) (ad := ad) (vs := vs) (be := be) (de := de) (sz := sz) (ro := ro) (co := co) (mi := mi) (df := df) hn hb h0
  refine ⟨be, de2, (Int32.ofNat n), ro, co, mi2, T2, ?_⟩
  refine PX2_share (Nat.le_of_ble_eq_true rfl) ?_
  intro G hT hC hR
  refine mB hT 1 rfl ?_
  refine hC.1 _ [_] _ _ _ _ (c_isBasket_t hb) rfl (Nat.le_of_ble_eq_true rfl) rfl ?_
  refine mB hT 2 rfl ?_
  refine hC.2.1 _ [_] _ _ _ _ (c_isStuff_t hk) rfl (Nat.le_of_ble_eq_true rfl) rfl ?_
  refine mB hT 3 rfl ?_
  refine hC.2.2.1 _ 0 [_] _ _ _ _ _ (c_isMaking_t (i := 3) hi hn) rfl rfl (Nat.le_of_ble_eq_true rfl) rfl ?_
  refine mB hT 10 rfl ?_
  refine mAaldH hT (List.mem_of_getElem? (i := 17) rfl) hb ?_
  refine hC.2.2.2.1 _ 1 [_, _, _] _ _ _ _ _ (hk2) rfl rfl (Nat.le_of_ble_eq_true rfl) rfl ?_
  refine mB hT 2 rfl ?_
  exact hR _ (by decide) _ _ _ rfl rfl
set_option maxRecDepth 20000 in
theorem x_share_3 {n vs : Nat} {be de : Int64} {sz : Int32} {ro co mi : Nat → Int64} {T : Nat → Nat → Int64} {B : Nat → Nat → Nat → Int32} {hd : Nat → Nat → Int32} {df : Nat → Int32} (hi : 3 < n) (hn : n ≤ 4) {b : Nat} (hb : b < 4) {k : Nat} (hk : k < 3) (h0 : ¬ detX n (lyT n (B 6) T) = 0) : ∃ (be2 de2 : Int64) (sz2 : Int32) (ro2 co2 mi2 : Nat → Int64) (T2 : Nat → Nat → Int64), KX2_share l D ca ad [.ref 0, .int (Int32.ofNat b), .int (Int32.ofNat k), .int 3] (XW (Int32.ofNat n) (Int32.ofNat vs) be de sz ro co mi T B hd df) (some (.long (thX (emX (B 6 3) k 1 * (roX n (lyT n (B 6) T) (hd b) ro) 3) (absX (detX n (lyT n (B 6) T)))))) (XW (Int32.ofNat n) (Int32.ofNat vs) be2 de2 sz2 ro2 co2 mi2 T2 B hd df) := by
  obtain ⟨de2, co2, mi2, T2, hk2⟩ := c_solve1_6 (l := l) (D := D) (ca := ca) (ad := ad) (vs := vs) (be := be) (de := de) (sz := sz) (ro := ro) (co := co) (mi := mi) (df := df) hn hb h0
  obtain ⟨r1, er1⟩ : ∃ z, z = roX n (lyT n (B 6) T) (hd b) ro := ⟨_, rfl⟩
  rw [← er1] at hk2
  obtain ⟨dt, edt⟩ : ∃ z, z = detX n (lyT n (B 6) T) := ⟨_, rfl⟩
  rw [← edt] at hk2 h0
  rw [← er1, ← edt]
  refine ⟨absX dt, de2, (Int32.ofNat n), r1, co2, mi2, T2, ?_⟩
  refine PX2_share (Nat.le_of_ble_eq_true rfl) ?_
  intro G hT hC hR
  refine mB hT 1 rfl ?_
  refine hC.1 _ [_] _ _ _ _ (c_isBasket_t hb) rfl (Nat.le_of_ble_eq_true rfl) rfl ?_
  refine mB hT 2 rfl ?_
  refine hC.2.1 _ [_] _ _ _ _ (c_isStuff_t hk) rfl (Nat.le_of_ble_eq_true rfl) rfl ?_
  refine mB hT 3 rfl ?_
  refine hC.2.2.1 _ 0 [_] _ _ _ _ _ (c_isMaking_t (i := 3) hi hn) rfl rfl (Nat.le_of_ble_eq_true rfl) rfl ?_
  refine mB hT 10 rfl ?_
  refine mAaldH hT (List.mem_of_getElem? (i := 17) rfl) hb ?_
  refine hC.2.2.2.1 _ 1 [_, _, _] _ _ _ _ _ (hk2) rfl rfl (Nat.le_of_ble_eq_true rfl) rfl ?_
  refine mB hT 8 rfl ?_
  refine hC.2.2.2.2.1 _ 1 [_, _, _, _] _ _ _ _ _ (c_brought_6_3 k 1 hk (by decide)) rfl rfl (Nat.le_of_ble_eq_true rfl) rfl ?_
  refine mB hT 3 rfl ?_
  refine hC.2.2.2.2.2 _ [_, _] _ _ _ _ (c_th (absX_ne h0)) rfl (Nat.le_of_ble_eq_true rfl) rfl ?_
  exact hR _ (by decide) _ _ _ rfl rfl
theorem x_runs_B {n vs : Nat} {be de : Int64} {sz : Int32} {ro co mi : Nat → Int64} {T : Nat → Nat → Int64} {B : Nat → Nat → Nat → Int32} {hd : Nat → Nat → Int32} {df : Nat → Int32} {i : Nat} (hi : i < n) (hn : n ≤ 4) {b : Nat} (hb : b < 4) (h0 : detX n (lyT n (B 6) T) = 0) : ∃ (be2 de2 : Int64) (sz2 : Int32) (ro2 co2 mi2 : Nat → Int64) (T2 : Nat → Nat → Int64), KX2_runs l D ca ad [.ref 0, .int (Int32.ofNat b), .int (Int32.ofNat i)] (XW (Int32.ofNat n) (Int32.ofNat vs) be de sz ro co mi T B hd df) (some (.long (-9000000000000000004))) (XW (Int32.ofNat n) (Int32.ofNat vs) be2 de2 sz2 ro2 co2 mi2 T2 B hd df) := by
  match i, hi with
  | 0, hi => exact x_runs_B_0 hi hn hb h0
  | 1, hi => exact x_runs_B_1 hi hn hb h0
  | 2, hi => exact x_runs_B_2 hi hn hb h0
  | 3, hi => exact x_runs_B_3 hi hn hb h0
  | i + 4, hi => omega
theorem x_runs {n vs : Nat} {be de : Int64} {sz : Int32} {ro co mi : Nat → Int64} {T : Nat → Nat → Int64} {B : Nat → Nat → Nat → Int32} {hd : Nat → Nat → Int32} {df : Nat → Int32} {i : Nat} (hi : i < n) (hn : n ≤ 4) {b : Nat} (hb : b < 4) (h0 : ¬ detX n (lyT n (B 6) T) = 0) : ∃ (be2 de2 : Int64) (sz2 : Int32) (ro2 co2 mi2 : Nat → Int64) (T2 : Nat → Nat → Int64), KX2_runs l D ca ad [.ref 0, .int (Int32.ofNat b), .int (Int32.ofNat i)] (XW (Int32.ofNat n) (Int32.ofNat vs) be de sz ro co mi T B hd df) (some (.long (thX ((roX n (lyT n (B 6) T) (hd b) ro) i * (B 6 i 3).toInt64) (absX (detX n (lyT n (B 6) T)))))) (XW (Int32.ofNat n) (Int32.ofNat vs) be2 de2 sz2 ro2 co2 mi2 T2 B hd df) := by
  match i, hi with
  | 0, hi => exact x_runs_0 hi hn hb h0
  | 1, hi => exact x_runs_1 hi hn hb h0
  | 2, hi => exact x_runs_2 hi hn hb h0
  | 3, hi => exact x_runs_3 hi hn hb h0
  | i + 4, hi => omega
theorem x_share_B {n vs : Nat} {be de : Int64} {sz : Int32} {ro co mi : Nat → Int64} {T : Nat → Nat → Int64} {B : Nat → Nat → Nat → Int32} {hd : Nat → Nat → Int32} {df : Nat → Int32} {i : Nat} (hi : i < n) (hn : n ≤ 4) {b : Nat} (hb : b < 4) {k : Nat} (hk : k < 3) (h0 : detX n (lyT n (B 6) T) = 0) : ∃ (be2 de2 : Int64) (sz2 : Int32) (ro2 co2 mi2 : Nat → Int64) (T2 : Nat → Nat → Int64), KX2_share l D ca ad [.ref 0, .int (Int32.ofNat b), .int (Int32.ofNat k), .int (Int32.ofNat i)] (XW (Int32.ofNat n) (Int32.ofNat vs) be de sz ro co mi T B hd df) (some (.long (-9000000000000000004))) (XW (Int32.ofNat n) (Int32.ofNat vs) be2 de2 sz2 ro2 co2 mi2 T2 B hd df) := by
  match i, hi with
  | 0, hi => exact x_share_B_0 hi hn hb hk h0
  | 1, hi => exact x_share_B_1 hi hn hb hk h0
  | 2, hi => exact x_share_B_2 hi hn hb hk h0
  | 3, hi => exact x_share_B_3 hi hn hb hk h0
  | i + 4, hi => omega
theorem x_share {n vs : Nat} {be de : Int64} {sz : Int32} {ro co mi : Nat → Int64} {T : Nat → Nat → Int64} {B : Nat → Nat → Nat → Int32} {hd : Nat → Nat → Int32} {df : Nat → Int32} {i : Nat} (hi : i < n) (hn : n ≤ 4) {b : Nat} (hb : b < 4) {k : Nat} (hk : k < 3) (h0 : ¬ detX n (lyT n (B 6) T) = 0) : ∃ (be2 de2 : Int64) (sz2 : Int32) (ro2 co2 mi2 : Nat → Int64) (T2 : Nat → Nat → Int64), KX2_share l D ca ad [.ref 0, .int (Int32.ofNat b), .int (Int32.ofNat k), .int (Int32.ofNat i)] (XW (Int32.ofNat n) (Int32.ofNat vs) be de sz ro co mi T B hd df) (some (.long (thX (emX (B 6 i) k 1 * (roX n (lyT n (B 6) T) (hd b) ro) i) (absX (detX n (lyT n (B 6) T)))))) (XW (Int32.ofNat n) (Int32.ofNat vs) be2 de2 sz2 ro2 co2 mi2 T2 B hd df) := by
  match i, hi with
  | 0, hi => exact x_share_0 hi hn hb hk h0
  | 1, hi => exact x_share_1 hi hn hb hk h0
  | 2, hi => exact x_share_2 hi hn hb hk h0
  | 3, hi => exact x_share_3 hi hn hb hk h0
  | i + 4, hi => omega
set_option maxRecDepth 20000 in
theorem x_total_B_0 {n vs : Nat} {be de : Int64} {sz : Int32} {ro co mi : Nat → Int64} {T : Nat → Nat → Int64} {B : Nat → Nat → Nat → Int32} {hd : Nat → Nat → Int32} {df : Nat → Int32} (hn : n ≤ 4) {b : Nat} (hb : b < 4) {k : Nat} (hk : k < 3) {s : Nat} (hs : s < 3) (h0 : detX n (lyT n (B 6) T) = 0) : ∃ (be2 de2 : Int64) (sz2 : Int32) (ro2 co2 mi2 : Nat → Int64) (T2 : Nat → Nat → Int64), KX2_total l D ca ad [.ref 0, .int (Int32.ofNat b), .int (Int32.ofNat k), .int (Int32.ofNat s), .int 0] (XW (Int32.ofNat n) (Int32.ofNat vs) be de sz ro co mi T B hd df) (some (.long (-9000000000000000004))) (XW (Int32.ofNat n) (Int32.ofNat vs) be2 de2 sz2 ro2 co2 mi2 T2 B hd df) := by
  obtain ⟨de2, mi2, T2, hk2⟩ := c_solve0_6 (l := l) (D := D) (ca := ca) (ad := ad) (vs := vs) (be := be) (de := de) (sz := sz) (ro := ro) (co := co) (mi := mi) (df := df) hn hb h0
  refine ⟨be, de2, (Int32.ofNat n), ro, co, mi2, T2, ?_⟩
  refine PX2_total (Nat.le_of_ble_eq_true rfl) ?_
  intro G hT hC hR
  refine mB hT 1 rfl ?_
  refine hC.1 _ [_] _ _ _ _ (c_isBasket_t hb) rfl (Nat.le_of_ble_eq_true rfl) rfl ?_
  refine mB hT 2 rfl ?_
  refine hC.2.1 _ [_] _ _ _ _ (c_isStuff_t hk) rfl (Nat.le_of_ble_eq_true rfl) rfl ?_
  refine mB hT 4 rfl ?_
  refine hC.2.2.1 _ [_, _, _] _ _ _ _ (c_isWithin_t (nI_pos' (by omega)) (nI_le (b := 2) (by omega) (by omega))) rfl (Nat.le_of_ble_eq_true rfl) rfl ?_
  refine mB hT 4 rfl ?_
  refine hC.2.2.2.1 _ [_, _, _] _ _ _ _ (c_isWithin_t (by decide) (by decide)) rfl (Nat.le_of_ble_eq_true rfl) rfl ?_
  refine mB hT 10 rfl ?_
  refine mAaldH hT (List.mem_of_getElem? (i := 23) rfl) hb ?_
  refine hC.2.2.2.2.1 _ 1 [_, _, _] _ _ _ _ _ (hk2) rfl rfl (Nat.le_of_ble_eq_true rfl) rfl ?_
  refine mB hT 2 rfl ?_
  exact hR _ (by decide) _ _ _ rfl rfl
set_option maxRecDepth 20000 in
theorem x_total_0 {n vs : Nat} {be de : Int64} {sz : Int32} {ro co mi : Nat → Int64} {T : Nat → Nat → Int64} {B : Nat → Nat → Nat → Int32} {hd : Nat → Nat → Int32} {df : Nat → Int32} (hn : n ≤ 4) {b : Nat} (hb : b < 4) {k : Nat} (hk : k < 3) {s : Nat} (hs : s < 3) (h0 : ¬ detX n (lyT n (B 6) T) = 0) (hg : ¬ (gcX 1000 (absX (smX n (B 6) (roX n (lyT n (B 6) T) (hd b) ro) k s)) (absX (absX (detX n (lyT n (B 6) T))))) = 0) : ∃ (be2 de2 : Int64) (sz2 : Int32) (ro2 co2 mi2 : Nat → Int64) (T2 : Nat → Nat → Int64), KX2_total l D ca ad [.ref 0, .int (Int32.ofNat b), .int (Int32.ofNat k), .int (Int32.ofNat s), .int 0] (XW (Int32.ofNat n) (Int32.ofNat vs) be de sz ro co mi T B hd df) (some (.long ((smX n (B 6) (roX n (lyT n (B 6) T) (hd b) ro) k s) / (gcX 1000 (absX (smX n (B 6) (roX n (lyT n (B 6) T) (hd b) ro) k s)) (absX (absX (detX n (lyT n (B 6) T)))))))) (XW (Int32.ofNat n) (Int32.ofNat vs) be2 de2 sz2 ro2 co2 mi2 T2 B hd df) := by
  obtain ⟨de2, co2, mi2, T2, hk2⟩ := c_solve1_6 (l := l) (D := D) (ca := ca) (ad := ad) (vs := vs) (be := be) (de := de) (sz := sz) (ro := ro) (co := co) (mi := mi) (df := df) hn hb h0
  obtain ⟨r1, er1⟩ : ∃ z, z = roX n (lyT n (B 6) T) (hd b) ro := ⟨_, rfl⟩
  rw [← er1] at hk2 hg
  obtain ⟨dt, edt⟩ : ∃ z, z = detX n (lyT n (B 6) T) := ⟨_, rfl⟩
  rw [← edt] at hk2 h0 hg
  rw [← er1, ← edt]
  refine ⟨absX dt, de2, (Int32.ofNat n), r1, co2, mi2, T2, ?_⟩
  refine PX2_total (Nat.le_of_ble_eq_true rfl) ?_
  intro G hT hC hR
  refine mB hT 1 rfl ?_
  refine hC.1 _ [_] _ _ _ _ (c_isBasket_t hb) rfl (Nat.le_of_ble_eq_true rfl) rfl ?_
  refine mB hT 2 rfl ?_
  refine hC.2.1 _ [_] _ _ _ _ (c_isStuff_t hk) rfl (Nat.le_of_ble_eq_true rfl) rfl ?_
  refine mB hT 4 rfl ?_
  refine hC.2.2.1 _ [_, _, _] _ _ _ _ (c_isWithin_t (nI_pos' (by omega)) (nI_le (b := 2) (by omega) (by omega))) rfl (Nat.le_of_ble_eq_true rfl) rfl ?_
  refine mB hT 4 rfl ?_
  refine hC.2.2.2.1 _ [_, _, _] _ _ _ _ (c_isWithin_t (by decide) (by decide)) rfl (Nat.le_of_ble_eq_true rfl) rfl ?_
  refine mB hT 10 rfl ?_
  refine mAaldH hT (List.mem_of_getElem? (i := 23) rfl) hb ?_
  refine hC.2.2.2.2.1 _ 1 [_, _, _] _ _ _ _ _ (hk2) rfl rfl (Nat.le_of_ble_eq_true rfl) rfl ?_
  refine mB hT 7 rfl ?_
  refine hC.2.2.2.2.2.1 _ 1 [_, _, _] _ _ _ _ _ (c_sum_6 hn k s hk hs) rfl rfl (Nat.le_of_ble_eq_true rfl) rfl ?_
  refine mB hT 9 rfl ?_
  refine hC.2.2.2.2.2.2 _ [_, _, _] _ _ _ _ (c_low hg) rfl (Nat.le_of_ble_eq_true rfl) rfl ?_
  exact hR _ (by decide) _ _ _ rfl rfl
set_option maxRecDepth 20000 in
theorem x_total_B_1 {n vs : Nat} {be de : Int64} {sz : Int32} {ro co mi : Nat → Int64} {T : Nat → Nat → Int64} {B : Nat → Nat → Nat → Int32} {hd : Nat → Nat → Int32} {df : Nat → Int32} (hn : n ≤ 4) {b : Nat} (hb : b < 4) {k : Nat} (hk : k < 3) {s : Nat} (hs : s < 3) (h0 : detX n (lyT n (B 6) T) = 0) : ∃ (be2 de2 : Int64) (sz2 : Int32) (ro2 co2 mi2 : Nat → Int64) (T2 : Nat → Nat → Int64), KX2_total l D ca ad [.ref 0, .int (Int32.ofNat b), .int (Int32.ofNat k), .int (Int32.ofNat s), .int 1] (XW (Int32.ofNat n) (Int32.ofNat vs) be de sz ro co mi T B hd df) (some (.long (-9000000000000000004))) (XW (Int32.ofNat n) (Int32.ofNat vs) be2 de2 sz2 ro2 co2 mi2 T2 B hd df) := by
  obtain ⟨de2, mi2, T2, hk2⟩ := c_solve0_6 (l := l) (D := D) (ca := ca) (ad := ad) (vs := vs) (be := be) (de := de) (sz := sz) (ro := ro) (co := co) (mi := mi) (df := df) hn hb h0
  refine ⟨be, de2, (Int32.ofNat n), ro, co, mi2, T2, ?_⟩
  refine PX2_total (Nat.le_of_ble_eq_true rfl) ?_
  intro G hT hC hR
  refine mB hT 1 rfl ?_
  refine hC.1 _ [_] _ _ _ _ (c_isBasket_t hb) rfl (Nat.le_of_ble_eq_true rfl) rfl ?_
  refine mB hT 2 rfl ?_
  refine hC.2.1 _ [_] _ _ _ _ (c_isStuff_t hk) rfl (Nat.le_of_ble_eq_true rfl) rfl ?_
  refine mB hT 4 rfl ?_
  refine hC.2.2.1 _ [_, _, _] _ _ _ _ (c_isWithin_t (nI_pos' (by omega)) (nI_le (b := 2) (by omega) (by omega))) rfl (Nat.le_of_ble_eq_true rfl) rfl ?_
  refine mB hT 4 rfl ?_
  refine hC.2.2.2.1 _ [_, _, _] _ _ _ _ (c_isWithin_t (by decide) (by decide)) rfl (Nat.le_of_ble_eq_true rfl) rfl ?_
  refine mB hT 10 rfl ?_
  refine mAaldH hT (List.mem_of_getElem? (i := 23) rfl) hb ?_
  refine hC.2.2.2.2.1 _ 1 [_, _, _] _ _ _ _ _ (hk2) rfl rfl (Nat.le_of_ble_eq_true rfl) rfl ?_
  refine mB hT 2 rfl ?_
  exact hR _ (by decide) _ _ _ rfl rfl
set_option maxRecDepth 20000 in
theorem x_total_1 {n vs : Nat} {be de : Int64} {sz : Int32} {ro co mi : Nat → Int64} {T : Nat → Nat → Int64} {B : Nat → Nat → Nat → Int32} {hd : Nat → Nat → Int32} {df : Nat → Int32} (hn : n ≤ 4) {b : Nat} (hb : b < 4) {k : Nat} (hk : k < 3) {s : Nat} (hs : s < 3) (h0 : ¬ detX n (lyT n (B 6) T) = 0) (hg : ¬ (gcX 1000 (absX (smX n (B 6) (roX n (lyT n (B 6) T) (hd b) ro) k s)) (absX (absX (detX n (lyT n (B 6) T))))) = 0) : ∃ (be2 de2 : Int64) (sz2 : Int32) (ro2 co2 mi2 : Nat → Int64) (T2 : Nat → Nat → Int64), KX2_total l D ca ad [.ref 0, .int (Int32.ofNat b), .int (Int32.ofNat k), .int (Int32.ofNat s), .int 1] (XW (Int32.ofNat n) (Int32.ofNat vs) be de sz ro co mi T B hd df) (some (.long ((absX (detX n (lyT n (B 6) T))) / (gcX 1000 (absX (smX n (B 6) (roX n (lyT n (B 6) T) (hd b) ro) k s)) (absX (absX (detX n (lyT n (B 6) T)))))))) (XW (Int32.ofNat n) (Int32.ofNat vs) be2 de2 sz2 ro2 co2 mi2 T2 B hd df) := by
  obtain ⟨de2, co2, mi2, T2, hk2⟩ := c_solve1_6 (l := l) (D := D) (ca := ca) (ad := ad) (vs := vs) (be := be) (de := de) (sz := sz) (ro := ro) (co := co) (mi := mi) (df := df) hn hb h0
  obtain ⟨r1, er1⟩ : ∃ z, z = roX n (lyT n (B 6) T) (hd b) ro := ⟨_, rfl⟩
  rw [← er1] at hk2 hg
  obtain ⟨dt, edt⟩ : ∃ z, z = detX n (lyT n (B 6) T) := ⟨_, rfl⟩
  rw [← edt] at hk2 h0 hg
  rw [← er1, ← edt]
  refine ⟨absX dt, de2, (Int32.ofNat n), r1, co2, mi2, T2, ?_⟩
  refine PX2_total (Nat.le_of_ble_eq_true rfl) ?_
  intro G hT hC hR
  refine mB hT 1 rfl ?_
  refine hC.1 _ [_] _ _ _ _ (c_isBasket_t hb) rfl (Nat.le_of_ble_eq_true rfl) rfl ?_
  refine mB hT 2 rfl ?_
  refine hC.2.1 _ [_] _ _ _ _ (c_isStuff_t hk) rfl (Nat.le_of_ble_eq_true rfl) rfl ?_
  refine mB hT 4 rfl ?_
  refine hC.2.2.1 _ [_, _, _] _ _ _ _ (c_isWithin_t (nI_pos' (by omega)) (nI_le (b := 2) (by omega) (by omega))) rfl (Nat.le_of_ble_eq_true rfl) rfl ?_
  refine mB hT 4 rfl ?_
  refine hC.2.2.2.1 _ [_, _, _] _ _ _ _ (c_isWithin_t (by decide) (by decide)) rfl (Nat.le_of_ble_eq_true rfl) rfl ?_
  refine mB hT 10 rfl ?_
  refine mAaldH hT (List.mem_of_getElem? (i := 23) rfl) hb ?_
  refine hC.2.2.2.2.1 _ 1 [_, _, _] _ _ _ _ _ (hk2) rfl rfl (Nat.le_of_ble_eq_true rfl) rfl ?_
  refine mB hT 7 rfl ?_
  refine hC.2.2.2.2.2.1 _ 1 [_, _, _] _ _ _ _ _ (c_sum_6 hn k s hk hs) rfl rfl (Nat.le_of_ble_eq_true rfl) rfl ?_
  refine mB hT 10 rfl ?_
  refine hC.2.2.2.2.2.2 _ [_, _, _] _ _ _ _ (c_low hg) rfl (Nat.le_of_ble_eq_true rfl) rfl ?_
  exact hR _ (by decide) _ _ _ rfl rfl
set_option maxRecDepth 20000 in
theorem x_turned_0 {vs : Nat} {be de : Int64} {sz : Int32} {ro co mi : Nat → Int64} {T : Nat → Nat → Int64} {B : Nat → Nat → Nat → Int32} {hd : Nat → Nat → Int32} {df : Nat → Int32} {b : Nat} (hb : b < 4) (h0 : ¬ detX 0 (lyT 0 (B 6) T) = 0) : ∃ (be2 de2 : Int64) (sz2 : Int32) (ro2 co2 mi2 : Nat → Int64) (T2 : Nat → Nat → Int64), KX2_turned l D ca ad [.ref 0, .int (Int32.ofNat b)] (XW 0 (Int32.ofNat vs) be de sz ro co mi T B hd df) (some (.int (tnF 0 0 (roX 0 (lyT 0 (B 6) T) (hd b) ro)))) (XW 0 (Int32.ofNat vs) be2 de2 sz2 ro2 co2 mi2 T2 B hd df) := by
  obtain ⟨de2, co2, mi2, T2, hk2⟩ := c_solve1_6 (l := l) (D := D) (ca := ca) (ad := ad) (n := 0) (vs := vs) (be := be) (de := de) (sz := sz) (ro := ro) (co := co) (mi := mi) (df := df) (by decide) hb h0
  obtain ⟨r1, er1⟩ : ∃ z, z = roX 0 (lyT 0 (B 6) T) (hd b) ro := ⟨_, rfl⟩
  rw [← er1] at hk2
  obtain ⟨dt, edt⟩ : ∃ z, z = detX 0 (lyT 0 (B 6) T) := ⟨_, rfl⟩
  rw [← edt] at hk2 h0
  rw [← er1]
  refine ⟨absX dt, de2, 0, r1, co2, mi2, T2, ?_⟩
  refine PX2_turned (Nat.le_of_ble_eq_true rfl) ?_
  intro G hT hC hR
  refine mB hT 1 rfl ?_
  refine hC.1 _ [_] _ _ _ _ (c_isBasket_t hb) rfl (Nat.le_of_ble_eq_true rfl) rfl ?_
  refine mB hT 10 rfl ?_
  refine mAaldH hT (List.mem_of_getElem? (i := 12) rfl) hb ?_
  refine hC.2 _ 1 [_, _, _] _ _ _ _ _ (hk2) rfl rfl (Nat.le_of_ble_eq_true rfl) rfl ?_
  refine mB hT 8 rfl ?_
  exact hR _ (by decide) _ _ _ (by simp only [tnF]; rfl) rfl
set_option maxRecDepth 20000 in
theorem x_most_0 {vs : Nat} {be de : Int64} {sz : Int32} {ro co mi : Nat → Int64} {T : Nat → Nat → Int64} {B : Nat → Nat → Nat → Int32} {hd : Nat → Nat → Int32} {df : Nat → Int32} {b : Nat} (hb : b < 4) {k : Nat} (hk : k < 3) (h0 : ¬ detX 0 (lyT 0 (B 6) T) = 0) : ∃ (be2 de2 : Int64) (sz2 : Int32) (ro2 co2 mi2 : Nat → Int64) (T2 : Nat → Nat → Int64), KX2_most l D ca ad [.ref 0, .int (Int32.ofNat b), .int (Int32.ofNat k)] (XW 0 (Int32.ofNat vs) be de sz ro co mi T B hd df) (some (.int (mbX 0 (fun i => emX (B 6 i) k 1 * (roX 0 (lyT 0 (B 6) T) (hd b) ro) i)).1)) (XW 0 (Int32.ofNat vs) be2 de2 sz2 ro2 co2 mi2 T2 B hd df) := by
  obtain ⟨de2, co2, mi2, T2, hk2⟩ := c_solve1_6 (l := l) (D := D) (ca := ca) (ad := ad) (n := 0) (vs := vs) (be := be) (de := de) (sz := sz) (ro := ro) (co := co) (mi := mi) (df := df) (by decide) hb h0
  obtain ⟨r1, er1⟩ : ∃ z, z = roX 0 (lyT 0 (B 6) T) (hd b) ro := ⟨_, rfl⟩
  rw [← er1] at hk2
  obtain ⟨dt, edt⟩ : ∃ z, z = detX 0 (lyT 0 (B 6) T) := ⟨_, rfl⟩
  rw [← edt] at hk2 h0
  rw [← er1]
  obtain ⟨f, ef⟩ : ∃ z : Nat → Int64, z = fun i => emX (B 6 i) k 1 * r1 i := ⟨_, rfl⟩
  rw [← ef]
  refine ⟨absX dt, de2, 0, r1, co2, mi2, T2, ?_⟩
  refine PX2_most (Nat.le_of_ble_eq_true rfl) ?_
  intro G hT hC hR
  refine mB hT 1 rfl ?_
  refine hC.1 _ [_] _ _ _ _ (c_isBasket_t hb) rfl (Nat.le_of_ble_eq_true rfl) rfl ?_
  refine mB hT 2 rfl ?_
  refine hC.2.1 _ [_] _ _ _ _ (c_isStuff_t hk) rfl (Nat.le_of_ble_eq_true rfl) rfl ?_
  refine mB hT 10 rfl ?_
  refine mAaldH hT (List.mem_of_getElem? (i := 14) rfl) hb ?_
  refine hC.2.2.1 _ 1 [_, _, _] _ _ _ _ _ (hk2) rfl rfl (Nat.le_of_ble_eq_true rfl) rfl ?_
  refine mB hT 12 rfl ?_
  exact hR _ (by decide) _ _ _ rfl rfl
set_option maxRecDepth 20000 in
theorem x_turned_B_1 {vs : Nat} {be de : Int64} {sz : Int32} {ro co mi : Nat → Int64} {T : Nat → Nat → Int64} {B : Nat → Nat → Nat → Int32} {hd : Nat → Nat → Int32} {df : Nat → Int32} {b : Nat} (hb : b < 4) (h0 : detX 1 (lyT 1 (B 6) T) = 0) : ∃ (be2 de2 : Int64) (sz2 : Int32) (ro2 co2 mi2 : Nat → Int64) (T2 : Nat → Nat → Int64), KX2_turned l D ca ad [.ref 0, .int (Int32.ofNat b)] (XW 1 (Int32.ofNat vs) be de sz ro co mi T B hd df) (some (.int (-104))) (XW 1 (Int32.ofNat vs) be2 de2 sz2 ro2 co2 mi2 T2 B hd df) := by
  obtain ⟨de2, mi2, T2, hk2⟩ := c_solve0_6 (l := l) (D := D) (ca := ca) (ad := ad) (n := 1) (vs := vs) (be := be) (de := de) (sz := sz) (ro := ro) (co := co) (mi := mi) (df := df) (by decide) hb h0
  refine ⟨be, de2, 1, ro, co, mi2, T2, ?_⟩
  refine PX2_turned (Nat.le_of_ble_eq_true rfl) ?_
  intro G hT hC hR
  refine mB hT 1 rfl ?_
  refine hC.1 _ [_] _ _ _ _ (c_isBasket_t hb) rfl (Nat.le_of_ble_eq_true rfl) rfl ?_
  refine mB hT 10 rfl ?_
  refine mAaldH hT (List.mem_of_getElem? (i := 12) rfl) hb ?_
  refine hC.2 _ 1 [_, _, _] _ _ _ _ _ (hk2) rfl rfl (Nat.le_of_ble_eq_true rfl) rfl ?_
  refine mB hT 2 rfl ?_
  exact hR _ (by decide) _ _ _ rfl rfl
set_option maxRecDepth 20000 in
theorem x_turned_1 {vs : Nat} {be de : Int64} {sz : Int32} {ro co mi : Nat → Int64} {T : Nat → Nat → Int64} {B : Nat → Nat → Nat → Int32} {hd : Nat → Nat → Int32} {df : Nat → Int32} {b : Nat} (hb : b < 4) (h0 : ¬ detX 1 (lyT 1 (B 6) T) = 0) : ∃ (be2 de2 : Int64) (sz2 : Int32) (ro2 co2 mi2 : Nat → Int64) (T2 : Nat → Nat → Int64), KX2_turned l D ca ad [.ref 0, .int (Int32.ofNat b)] (XW 1 (Int32.ofNat vs) be de sz ro co mi T B hd df) (some (.int (tnF 1 0 (roX 1 (lyT 1 (B 6) T) (hd b) ro)))) (XW 1 (Int32.ofNat vs) be2 de2 sz2 ro2 co2 mi2 T2 B hd df) := by
  obtain ⟨de2, co2, mi2, T2, hk2⟩ := c_solve1_6 (l := l) (D := D) (ca := ca) (ad := ad) (n := 1) (vs := vs) (be := be) (de := de) (sz := sz) (ro := ro) (co := co) (mi := mi) (df := df) (by decide) hb h0
  obtain ⟨r1, er1⟩ : ∃ z, z = roX 1 (lyT 1 (B 6) T) (hd b) ro := ⟨_, rfl⟩
  rw [← er1] at hk2
  obtain ⟨dt, edt⟩ : ∃ z, z = detX 1 (lyT 1 (B 6) T) := ⟨_, rfl⟩
  rw [← edt] at hk2 h0
  rw [← er1]
  refine ⟨absX dt, de2, 1, r1, co2, mi2, T2, ?_⟩
  refine PX2_turned (Nat.le_of_ble_eq_true rfl) ?_
  intro G hT hC hR
  refine mB hT 1 rfl ?_
  refine hC.1 _ [_] _ _ _ _ (c_isBasket_t hb) rfl (Nat.le_of_ble_eq_true rfl) rfl ?_
  refine mB hT 10 rfl ?_
  refine mAaldH hT (List.mem_of_getElem? (i := 12) rfl) hb ?_
  refine hC.2 _ 1 [_, _, _] _ _ _ _ _ (hk2) rfl rfl (Nat.le_of_ble_eq_true rfl) rfl ?_
  refine mB hT 15 rfl ?_
  refine mIf (fun h1 => ?_) (fun h1 => ?_)
  · refine mB hT 7 rfl ?_
    exact hR _ (by decide) _ _ _ (by simp only [tnF, if_neg (Int64.not_lt.mpr (lc_ge.mp h1))]; rfl) rfl
  · refine mB hT 1 rfl ?_
    exact hR _ (by decide) _ _ _ (by simp only [tnF, if_pos (Int64.not_le.mp (fun q => h1 (lc_ge.mpr q)))]; rfl) rfl
set_option maxRecDepth 20000 in
theorem x_most_B_1 {vs : Nat} {be de : Int64} {sz : Int32} {ro co mi : Nat → Int64} {T : Nat → Nat → Int64} {B : Nat → Nat → Nat → Int32} {hd : Nat → Nat → Int32} {df : Nat → Int32} {b : Nat} (hb : b < 4) {k : Nat} (hk : k < 3) (h0 : detX 1 (lyT 1 (B 6) T) = 0) : ∃ (be2 de2 : Int64) (sz2 : Int32) (ro2 co2 mi2 : Nat → Int64) (T2 : Nat → Nat → Int64), KX2_most l D ca ad [.ref 0, .int (Int32.ofNat b), .int (Int32.ofNat k)] (XW 1 (Int32.ofNat vs) be de sz ro co mi T B hd df) (some (.int (-104))) (XW 1 (Int32.ofNat vs) be2 de2 sz2 ro2 co2 mi2 T2 B hd df) := by
  obtain ⟨de2, mi2, T2, hk2⟩ := c_solve0_6 (l := l) (D := D) (ca := ca) (ad := ad) (n := 1) (vs := vs) (be := be) (de := de) (sz := sz) (ro := ro) (co := co) (mi := mi) (df := df) (by decide) hb h0
  refine ⟨be, de2, 1, ro, co, mi2, T2, ?_⟩
  refine PX2_most (Nat.le_of_ble_eq_true rfl) ?_
  intro G hT hC hR
  refine mB hT 1 rfl ?_
  refine hC.1 _ [_] _ _ _ _ (c_isBasket_t hb) rfl (Nat.le_of_ble_eq_true rfl) rfl ?_
  refine mB hT 2 rfl ?_
  refine hC.2.1 _ [_] _ _ _ _ (c_isStuff_t hk) rfl (Nat.le_of_ble_eq_true rfl) rfl ?_
  refine mB hT 10 rfl ?_
  refine mAaldH hT (List.mem_of_getElem? (i := 14) rfl) hb ?_
  refine hC.2.2.1 _ 1 [_, _, _] _ _ _ _ _ (hk2) rfl rfl (Nat.le_of_ble_eq_true rfl) rfl ?_
  refine mB hT 2 rfl ?_
  exact hR _ (by decide) _ _ _ rfl rfl
set_option maxRecDepth 20000 in
theorem x_most_1 {vs : Nat} {be de : Int64} {sz : Int32} {ro co mi : Nat → Int64} {T : Nat → Nat → Int64} {B : Nat → Nat → Nat → Int32} {hd : Nat → Nat → Int32} {df : Nat → Int32} {b : Nat} (hb : b < 4) {k : Nat} (hk : k < 3) (h0 : ¬ detX 1 (lyT 1 (B 6) T) = 0) : ∃ (be2 de2 : Int64) (sz2 : Int32) (ro2 co2 mi2 : Nat → Int64) (T2 : Nat → Nat → Int64), KX2_most l D ca ad [.ref 0, .int (Int32.ofNat b), .int (Int32.ofNat k)] (XW 1 (Int32.ofNat vs) be de sz ro co mi T B hd df) (some (.int (mbX 1 (fun i => emX (B 6 i) k 1 * (roX 1 (lyT 1 (B 6) T) (hd b) ro) i)).1)) (XW 1 (Int32.ofNat vs) be2 de2 sz2 ro2 co2 mi2 T2 B hd df) := by
  obtain ⟨de2, co2, mi2, T2, hk2⟩ := c_solve1_6 (l := l) (D := D) (ca := ca) (ad := ad) (n := 1) (vs := vs) (be := be) (de := de) (sz := sz) (ro := ro) (co := co) (mi := mi) (df := df) (by decide) hb h0
  obtain ⟨r1, er1⟩ : ∃ z, z = roX 1 (lyT 1 (B 6) T) (hd b) ro := ⟨_, rfl⟩
  rw [← er1] at hk2
  obtain ⟨dt, edt⟩ : ∃ z, z = detX 1 (lyT 1 (B 6) T) := ⟨_, rfl⟩
  rw [← edt] at hk2 h0
  rw [← er1]
  obtain ⟨f, ef⟩ : ∃ z : Nat → Int64, z = fun i => emX (B 6 i) k 1 * r1 i := ⟨_, rfl⟩
  rw [← ef]
  refine ⟨absX dt, de2, 1, r1, co2, mi2, T2, ?_⟩
  refine PX2_most (Nat.le_of_ble_eq_true rfl) ?_
  intro G hT hC hR
  refine mB hT 1 rfl ?_
  refine hC.1 _ [_] _ _ _ _ (c_isBasket_t hb) rfl (Nat.le_of_ble_eq_true rfl) rfl ?_
  refine mB hT 2 rfl ?_
  refine hC.2.1 _ [_] _ _ _ _ (c_isStuff_t hk) rfl (Nat.le_of_ble_eq_true rfl) rfl ?_
  refine mB hT 10 rfl ?_
  refine mAaldH hT (List.mem_of_getElem? (i := 14) rfl) hb ?_
  refine hC.2.2.1 _ 1 [_, _, _] _ _ _ _ _ (hk2) rfl rfl (Nat.le_of_ble_eq_true rfl) rfl ?_
  refine mB hT 18 rfl ?_
  refine mNf (lv2 := [(6, .int 0), (4, .long 0), (3, .int (-1)), (0, .ref 0), (1, .int (Int32.ofNat b)), (2, .int (Int32.ofNat k))]) (st2 := [.int 1, .int 0, .int (Int32.ofNat k), .ref 10, .ref 1]) rfl rfl ?_
  refine hC.2.2.2 _ 1 [_, _, _, _] _ _ _ _ _ (show KX1_brought l D ca ad _ _ (some (.long (f 0))) _ from (by rw [ef]; exact c_brought_6_0 k 1 hk (by decide))) rfl rfl (Nat.le_of_ble_eq_true rfl) rfl ?_
  refine mB hT 15 rfl ?_
  exact hR _ (by decide) _ _ _ (by have e1 : mbX 1 f = (0, f 0) := rfl; rw [e1]; rfl) rfl
set_option maxRecDepth 20000 in
theorem x_turned_B_2 {vs : Nat} {be de : Int64} {sz : Int32} {ro co mi : Nat → Int64} {T : Nat → Nat → Int64} {B : Nat → Nat → Nat → Int32} {hd : Nat → Nat → Int32} {df : Nat → Int32} {b : Nat} (hb : b < 4) (h0 : detX 2 (lyT 2 (B 6) T) = 0) : ∃ (be2 de2 : Int64) (sz2 : Int32) (ro2 co2 mi2 : Nat → Int64) (T2 : Nat → Nat → Int64), KX2_turned l D ca ad [.ref 0, .int (Int32.ofNat b)] (XW 2 (Int32.ofNat vs) be de sz ro co mi T B hd df) (some (.int (-104))) (XW 2 (Int32.ofNat vs) be2 de2 sz2 ro2 co2 mi2 T2 B hd df) := by
  obtain ⟨de2, mi2, T2, hk2⟩ := c_solve0_6 (l := l) (D := D) (ca := ca) (ad := ad) (n := 2) (vs := vs) (be := be) (de := de) (sz := sz) (ro := ro) (co := co) (mi := mi) (df := df) (by decide) hb h0
  refine ⟨be, de2, 2, ro, co, mi2, T2, ?_⟩
  refine PX2_turned (Nat.le_of_ble_eq_true rfl) ?_
  intro G hT hC hR
  refine mB hT 1 rfl ?_
  refine hC.1 _ [_] _ _ _ _ (c_isBasket_t hb) rfl (Nat.le_of_ble_eq_true rfl) rfl ?_
  refine mB hT 10 rfl ?_
  refine mAaldH hT (List.mem_of_getElem? (i := 12) rfl) hb ?_
  refine hC.2 _ 1 [_, _, _] _ _ _ _ _ (hk2) rfl rfl (Nat.le_of_ble_eq_true rfl) rfl ?_
  refine mB hT 2 rfl ?_
  exact hR _ (by decide) _ _ _ rfl rfl
set_option maxRecDepth 20000 in
theorem x_turned_2 {vs : Nat} {be de : Int64} {sz : Int32} {ro co mi : Nat → Int64} {T : Nat → Nat → Int64} {B : Nat → Nat → Nat → Int32} {hd : Nat → Nat → Int32} {df : Nat → Int32} {b : Nat} (hb : b < 4) (h0 : ¬ detX 2 (lyT 2 (B 6) T) = 0) : ∃ (be2 de2 : Int64) (sz2 : Int32) (ro2 co2 mi2 : Nat → Int64) (T2 : Nat → Nat → Int64), KX2_turned l D ca ad [.ref 0, .int (Int32.ofNat b)] (XW 2 (Int32.ofNat vs) be de sz ro co mi T B hd df) (some (.int (tnF 2 0 (roX 2 (lyT 2 (B 6) T) (hd b) ro)))) (XW 2 (Int32.ofNat vs) be2 de2 sz2 ro2 co2 mi2 T2 B hd df) := by
  obtain ⟨de2, co2, mi2, T2, hk2⟩ := c_solve1_6 (l := l) (D := D) (ca := ca) (ad := ad) (n := 2) (vs := vs) (be := be) (de := de) (sz := sz) (ro := ro) (co := co) (mi := mi) (df := df) (by decide) hb h0
  obtain ⟨r1, er1⟩ : ∃ z, z = roX 2 (lyT 2 (B 6) T) (hd b) ro := ⟨_, rfl⟩
  rw [← er1] at hk2
  obtain ⟨dt, edt⟩ : ∃ z, z = detX 2 (lyT 2 (B 6) T) := ⟨_, rfl⟩
  rw [← edt] at hk2 h0
  rw [← er1]
  refine ⟨absX dt, de2, 2, r1, co2, mi2, T2, ?_⟩
  refine PX2_turned (Nat.le_of_ble_eq_true rfl) ?_
  intro G hT hC hR
  refine mB hT 1 rfl ?_
  refine hC.1 _ [_] _ _ _ _ (c_isBasket_t hb) rfl (Nat.le_of_ble_eq_true rfl) rfl ?_
  refine mB hT 10 rfl ?_
  refine mAaldH hT (List.mem_of_getElem? (i := 12) rfl) hb ?_
  refine hC.2 _ 1 [_, _, _] _ _ _ _ _ (hk2) rfl rfl (Nat.le_of_ble_eq_true rfl) rfl ?_
  refine mB hT 15 rfl ?_
  refine mIf (fun h1 => ?_) (fun h1 => ?_)
  · refine mB hT 14 rfl ?_
    refine mIf (fun h2 => ?_) (fun h2 => ?_)
    · refine mNf (lv2 := [(2, .int 1), (0, .ref 0), (1, .int (Int32.ofNat b))]) (st2 := []) rfl rfl ?_
      refine mB hT 7 rfl ?_
      exact hR _ (by decide) _ _ _ (by simp only [tnF, if_neg (Int64.not_lt.mpr (lc_ge.mp h1)), if_neg (Int64.not_lt.mpr (lc_ge.mp h2))]; rfl) rfl
    · refine mNf (lv2 := [(2, .int 1), (0, .ref 0), (1, .int (Int32.ofNat b))]) (st2 := []) rfl rfl ?_
      refine mB hT 1 rfl ?_
      exact hR _ (by decide) _ _ _ (by simp only [tnF, if_neg (Int64.not_lt.mpr (lc_ge.mp h1)), if_pos (Int64.not_le.mp (fun q => h2 (lc_ge.mpr q)))]; rfl) rfl
  · refine mB hT 1 rfl ?_
    exact hR _ (by decide) _ _ _ (by simp only [tnF, if_pos (Int64.not_le.mp (fun q => h1 (lc_ge.mpr q)))]; rfl) rfl
set_option maxRecDepth 20000 in
theorem x_most_B_2 {vs : Nat} {be de : Int64} {sz : Int32} {ro co mi : Nat → Int64} {T : Nat → Nat → Int64} {B : Nat → Nat → Nat → Int32} {hd : Nat → Nat → Int32} {df : Nat → Int32} {b : Nat} (hb : b < 4) {k : Nat} (hk : k < 3) (h0 : detX 2 (lyT 2 (B 6) T) = 0) : ∃ (be2 de2 : Int64) (sz2 : Int32) (ro2 co2 mi2 : Nat → Int64) (T2 : Nat → Nat → Int64), KX2_most l D ca ad [.ref 0, .int (Int32.ofNat b), .int (Int32.ofNat k)] (XW 2 (Int32.ofNat vs) be de sz ro co mi T B hd df) (some (.int (-104))) (XW 2 (Int32.ofNat vs) be2 de2 sz2 ro2 co2 mi2 T2 B hd df) := by
  obtain ⟨de2, mi2, T2, hk2⟩ := c_solve0_6 (l := l) (D := D) (ca := ca) (ad := ad) (n := 2) (vs := vs) (be := be) (de := de) (sz := sz) (ro := ro) (co := co) (mi := mi) (df := df) (by decide) hb h0
  refine ⟨be, de2, 2, ro, co, mi2, T2, ?_⟩
  refine PX2_most (Nat.le_of_ble_eq_true rfl) ?_
  intro G hT hC hR
  refine mB hT 1 rfl ?_
  refine hC.1 _ [_] _ _ _ _ (c_isBasket_t hb) rfl (Nat.le_of_ble_eq_true rfl) rfl ?_
  refine mB hT 2 rfl ?_
  refine hC.2.1 _ [_] _ _ _ _ (c_isStuff_t hk) rfl (Nat.le_of_ble_eq_true rfl) rfl ?_
  refine mB hT 10 rfl ?_
  refine mAaldH hT (List.mem_of_getElem? (i := 14) rfl) hb ?_
  refine hC.2.2.1 _ 1 [_, _, _] _ _ _ _ _ (hk2) rfl rfl (Nat.le_of_ble_eq_true rfl) rfl ?_
  refine mB hT 2 rfl ?_
  exact hR _ (by decide) _ _ _ rfl rfl
set_option maxRecDepth 20000 in
theorem x_most_2 {vs : Nat} {be de : Int64} {sz : Int32} {ro co mi : Nat → Int64} {T : Nat → Nat → Int64} {B : Nat → Nat → Nat → Int32} {hd : Nat → Nat → Int32} {df : Nat → Int32} {b : Nat} (hb : b < 4) {k : Nat} (hk : k < 3) (h0 : ¬ detX 2 (lyT 2 (B 6) T) = 0) : ∃ (be2 de2 : Int64) (sz2 : Int32) (ro2 co2 mi2 : Nat → Int64) (T2 : Nat → Nat → Int64), KX2_most l D ca ad [.ref 0, .int (Int32.ofNat b), .int (Int32.ofNat k)] (XW 2 (Int32.ofNat vs) be de sz ro co mi T B hd df) (some (.int (mbX 2 (fun i => emX (B 6 i) k 1 * (roX 2 (lyT 2 (B 6) T) (hd b) ro) i)).1)) (XW 2 (Int32.ofNat vs) be2 de2 sz2 ro2 co2 mi2 T2 B hd df) := by
  obtain ⟨de2, co2, mi2, T2, hk2⟩ := c_solve1_6 (l := l) (D := D) (ca := ca) (ad := ad) (n := 2) (vs := vs) (be := be) (de := de) (sz := sz) (ro := ro) (co := co) (mi := mi) (df := df) (by decide) hb h0
  obtain ⟨r1, er1⟩ : ∃ z, z = roX 2 (lyT 2 (B 6) T) (hd b) ro := ⟨_, rfl⟩
  rw [← er1] at hk2
  obtain ⟨dt, edt⟩ : ∃ z, z = detX 2 (lyT 2 (B 6) T) := ⟨_, rfl⟩
  rw [← edt] at hk2 h0
  rw [← er1]
  obtain ⟨f, ef⟩ : ∃ z : Nat → Int64, z = fun i => emX (B 6 i) k 1 * r1 i := ⟨_, rfl⟩
  rw [← ef]
  refine ⟨absX dt, de2, 2, r1, co2, mi2, T2, ?_⟩
  refine PX2_most (Nat.le_of_ble_eq_true rfl) ?_
  intro G hT hC hR
  refine mB hT 1 rfl ?_
  refine hC.1 _ [_] _ _ _ _ (c_isBasket_t hb) rfl (Nat.le_of_ble_eq_true rfl) rfl ?_
  refine mB hT 2 rfl ?_
  refine hC.2.1 _ [_] _ _ _ _ (c_isStuff_t hk) rfl (Nat.le_of_ble_eq_true rfl) rfl ?_
  refine mB hT 10 rfl ?_
  refine mAaldH hT (List.mem_of_getElem? (i := 14) rfl) hb ?_
  refine hC.2.2.1 _ 1 [_, _, _] _ _ _ _ _ (hk2) rfl rfl (Nat.le_of_ble_eq_true rfl) rfl ?_
  refine mB hT 18 rfl ?_
  refine mNf (lv2 := [(6, .int 0), (4, .long 0), (3, .int (-1)), (0, .ref 0), (1, .int (Int32.ofNat b)), (2, .int (Int32.ofNat k))]) (st2 := [.int 1, .int 0, .int (Int32.ofNat k), .ref 10, .ref 1]) rfl rfl ?_
  refine hC.2.2.2 _ 1 [_, _, _, _] _ _ _ _ _ (show KX1_brought l D ca ad _ _ (some (.long (f 0))) _ from (by rw [ef]; exact c_brought_6_0 k 1 hk (by decide))) rfl rfl (Nat.le_of_ble_eq_true rfl) rfl ?_
  refine mB hT 21 rfl ?_
  refine mNf (lv2 := [(6, .int 1), (4, .long (f 0)), (3, .int 0), (7, .long (f 0)), (0, .ref 0), (1, .int (Int32.ofNat b)), (2, .int (Int32.ofNat k))]) (st2 := [.int 1, .int 1, .int (Int32.ofNat k), .ref 10, .ref 1]) rfl rfl ?_
  refine hC.2.2.2 _ 1 [_, _, _, _] _ _ _ _ _ (show KX1_brought l D ca ad _ _ (some (.long (f 1))) _ from (by rw [ef]; exact c_brought_6_1 k 1 hk (by decide))) rfl rfl (Nat.le_of_ble_eq_true rfl) rfl ?_
  refine mB hT 8 rfl ?_
  refine mIf (fun h1 => ?_) (fun h1 => ?_)
  · refine mB hT 7 rfl ?_
    exact hR _ (by decide) _ _ _ (by have e1 : mbX 1 f = (0, f 0) := rfl; have e2 : mbX 2 f = (0, f 0) := (by show (if (mbX 1 f).2 < f 1 then ((Int32.ofNat 1, f 1) : Int32 × Int64) else mbX 1 f) = _; rw [e1]; exact if_neg (Int64.not_lt.mpr (lc_le.mp h1))); rw [e2]; rfl) rfl
  · refine mB hT 11 rfl ?_
    exact hR _ (by decide) _ _ _ (by have e1 : mbX 1 f = (0, f 0) := rfl; have e2 : mbX 2 f = (1, f 1) := (by show (if (mbX 1 f).2 < f 1 then ((Int32.ofNat 1, f 1) : Int32 × Int64) else mbX 1 f) = _; rw [e1]; exact if_pos (Int64.not_le.mp (fun q => h1 (lc_le.mpr q)))); rw [e2]; rfl) rfl
set_option maxRecDepth 20000 in
theorem x_turned_B_3 {vs : Nat} {be de : Int64} {sz : Int32} {ro co mi : Nat → Int64} {T : Nat → Nat → Int64} {B : Nat → Nat → Nat → Int32} {hd : Nat → Nat → Int32} {df : Nat → Int32} {b : Nat} (hb : b < 4) (h0 : detX 3 (lyT 3 (B 6) T) = 0) : ∃ (be2 de2 : Int64) (sz2 : Int32) (ro2 co2 mi2 : Nat → Int64) (T2 : Nat → Nat → Int64), KX2_turned l D ca ad [.ref 0, .int (Int32.ofNat b)] (XW 3 (Int32.ofNat vs) be de sz ro co mi T B hd df) (some (.int (-104))) (XW 3 (Int32.ofNat vs) be2 de2 sz2 ro2 co2 mi2 T2 B hd df) := by
  obtain ⟨de2, mi2, T2, hk2⟩ := c_solve0_6 (l := l) (D := D) (ca := ca) (ad := ad) (n := 3) (vs := vs) (be := be) (de := de) (sz := sz) (ro := ro) (co := co) (mi := mi) (df := df) (by decide) hb h0
  refine ⟨be, de2, 3, ro, co, mi2, T2, ?_⟩
  refine PX2_turned (Nat.le_of_ble_eq_true rfl) ?_
  intro G hT hC hR
  refine mB hT 1 rfl ?_
  refine hC.1 _ [_] _ _ _ _ (c_isBasket_t hb) rfl (Nat.le_of_ble_eq_true rfl) rfl ?_
  refine mB hT 10 rfl ?_
  refine mAaldH hT (List.mem_of_getElem? (i := 12) rfl) hb ?_
  refine hC.2 _ 1 [_, _, _] _ _ _ _ _ (hk2) rfl rfl (Nat.le_of_ble_eq_true rfl) rfl ?_
  refine mB hT 2 rfl ?_
  exact hR _ (by decide) _ _ _ rfl rfl
set_option maxRecDepth 20000 in
theorem x_turned_3 {vs : Nat} {be de : Int64} {sz : Int32} {ro co mi : Nat → Int64} {T : Nat → Nat → Int64} {B : Nat → Nat → Nat → Int32} {hd : Nat → Nat → Int32} {df : Nat → Int32} {b : Nat} (hb : b < 4) (h0 : ¬ detX 3 (lyT 3 (B 6) T) = 0) : ∃ (be2 de2 : Int64) (sz2 : Int32) (ro2 co2 mi2 : Nat → Int64) (T2 : Nat → Nat → Int64), KX2_turned l D ca ad [.ref 0, .int (Int32.ofNat b)] (XW 3 (Int32.ofNat vs) be de sz ro co mi T B hd df) (some (.int (tnF 3 0 (roX 3 (lyT 3 (B 6) T) (hd b) ro)))) (XW 3 (Int32.ofNat vs) be2 de2 sz2 ro2 co2 mi2 T2 B hd df) := by
  obtain ⟨de2, co2, mi2, T2, hk2⟩ := c_solve1_6 (l := l) (D := D) (ca := ca) (ad := ad) (n := 3) (vs := vs) (be := be) (de := de) (sz := sz) (ro := ro) (co := co) (mi := mi) (df := df) (by decide) hb h0
  obtain ⟨r1, er1⟩ : ∃ z, z = roX 3 (lyT 3 (B 6) T) (hd b) ro := ⟨_, rfl⟩
  rw [← er1] at hk2
  obtain ⟨dt, edt⟩ : ∃ z, z = detX 3 (lyT 3 (B 6) T) := ⟨_, rfl⟩
  rw [← edt] at hk2 h0
  rw [← er1]
  refine ⟨absX dt, de2, 3, r1, co2, mi2, T2, ?_⟩
  refine PX2_turned (Nat.le_of_ble_eq_true rfl) ?_
  intro G hT hC hR
  refine mB hT 1 rfl ?_
  refine hC.1 _ [_] _ _ _ _ (c_isBasket_t hb) rfl (Nat.le_of_ble_eq_true rfl) rfl ?_
  refine mB hT 10 rfl ?_
  refine mAaldH hT (List.mem_of_getElem? (i := 12) rfl) hb ?_
  refine hC.2 _ 1 [_, _, _] _ _ _ _ _ (hk2) rfl rfl (Nat.le_of_ble_eq_true rfl) rfl ?_
  refine mB hT 15 rfl ?_
  refine mIf (fun h1 => ?_) (fun h1 => ?_)
  · refine mB hT 14 rfl ?_
    refine mIf (fun h2 => ?_) (fun h2 => ?_)
    · refine mNf (lv2 := [(2, .int 1), (0, .ref 0), (1, .int (Int32.ofNat b))]) (st2 := []) rfl rfl ?_
      refine mB hT 14 rfl ?_
      refine mIf (fun h3 => ?_) (fun h3 => ?_)
      · refine mB hT 7 rfl ?_
        exact hR _ (by decide) _ _ _ (by simp only [tnF, if_neg (Int64.not_lt.mpr (lc_ge.mp h1)), if_neg (Int64.not_lt.mpr (lc_ge.mp h2)), if_neg (Int64.not_lt.mpr (lc_ge.mp h3))]; rfl) rfl
      · refine mB hT 1 rfl ?_
        exact hR _ (by decide) _ _ _ (by simp only [tnF, if_neg (Int64.not_lt.mpr (lc_ge.mp h1)), if_neg (Int64.not_lt.mpr (lc_ge.mp h2)), if_pos (Int64.not_le.mp (fun q => h3 (lc_ge.mpr q)))]; rfl) rfl
    · refine mNf (lv2 := [(2, .int 1), (0, .ref 0), (1, .int (Int32.ofNat b))]) (st2 := []) rfl rfl ?_
      refine mB hT 1 rfl ?_
      exact hR _ (by decide) _ _ _ (by simp only [tnF, if_neg (Int64.not_lt.mpr (lc_ge.mp h1)), if_pos (Int64.not_le.mp (fun q => h2 (lc_ge.mpr q)))]; rfl) rfl
  · refine mB hT 1 rfl ?_
    exact hR _ (by decide) _ _ _ (by simp only [tnF, if_pos (Int64.not_le.mp (fun q => h1 (lc_ge.mpr q)))]; rfl) rfl
set_option maxRecDepth 20000 in
theorem x_most_B_3 {vs : Nat} {be de : Int64} {sz : Int32} {ro co mi : Nat → Int64} {T : Nat → Nat → Int64} {B : Nat → Nat → Nat → Int32} {hd : Nat → Nat → Int32} {df : Nat → Int32} {b : Nat} (hb : b < 4) {k : Nat} (hk : k < 3) (h0 : detX 3 (lyT 3 (B 6) T) = 0) : ∃ (be2 de2 : Int64) (sz2 : Int32) (ro2 co2 mi2 : Nat → Int64) (T2 : Nat → Nat → Int64), KX2_most l D ca ad [.ref 0, .int (Int32.ofNat b), .int (Int32.ofNat k)] (XW 3 (Int32.ofNat vs) be de sz ro co mi T B hd df) (some (.int (-104))) (XW 3 (Int32.ofNat vs) be2 de2 sz2 ro2 co2 mi2 T2 B hd df) := by
  obtain ⟨de2, mi2, T2, hk2⟩ := c_solve0_6 (l := l) (D := D) (ca := ca) (ad := ad) (n := 3) (vs := vs) (be := be) (de := de) (sz := sz) (ro := ro) (co := co) (mi := mi) (df := df) (by decide) hb h0
  refine ⟨be, de2, 3, ro, co, mi2, T2, ?_⟩
  refine PX2_most (Nat.le_of_ble_eq_true rfl) ?_
  intro G hT hC hR
  refine mB hT 1 rfl ?_
  refine hC.1 _ [_] _ _ _ _ (c_isBasket_t hb) rfl (Nat.le_of_ble_eq_true rfl) rfl ?_
  refine mB hT 2 rfl ?_
  refine hC.2.1 _ [_] _ _ _ _ (c_isStuff_t hk) rfl (Nat.le_of_ble_eq_true rfl) rfl ?_
  refine mB hT 10 rfl ?_
  refine mAaldH hT (List.mem_of_getElem? (i := 14) rfl) hb ?_
  refine hC.2.2.1 _ 1 [_, _, _] _ _ _ _ _ (hk2) rfl rfl (Nat.le_of_ble_eq_true rfl) rfl ?_
  refine mB hT 2 rfl ?_
  exact hR _ (by decide) _ _ _ rfl rfl
set_option maxRecDepth 20000 in
theorem x_most_3 {vs : Nat} {be de : Int64} {sz : Int32} {ro co mi : Nat → Int64} {T : Nat → Nat → Int64} {B : Nat → Nat → Nat → Int32} {hd : Nat → Nat → Int32} {df : Nat → Int32} {b : Nat} (hb : b < 4) {k : Nat} (hk : k < 3) (h0 : ¬ detX 3 (lyT 3 (B 6) T) = 0) : ∃ (be2 de2 : Int64) (sz2 : Int32) (ro2 co2 mi2 : Nat → Int64) (T2 : Nat → Nat → Int64), KX2_most l D ca ad [.ref 0, .int (Int32.ofNat b), .int (Int32.ofNat k)] (XW 3 (Int32.ofNat vs) be de sz ro co mi T B hd df) (some (.int (mbX 3 (fun i => emX (B 6 i) k 1 * (roX 3 (lyT 3 (B 6) T) (hd b) ro) i)).1)) (XW 3 (Int32.ofNat vs) be2 de2 sz2 ro2 co2 mi2 T2 B hd df) := by
  obtain ⟨de2, co2, mi2, T2, hk2⟩ := c_solve1_6 (l := l) (D := D) (ca := ca) (ad := ad) (n := 3) (vs := vs) (be := be) (de := de) (sz := sz) (ro := ro) (co := co) (mi := mi) (df := df) (by decide) hb h0
  obtain ⟨r1, er1⟩ : ∃ z, z = roX 3 (lyT 3 (B 6) T) (hd b) ro := ⟨_, rfl⟩
  rw [← er1] at hk2
  obtain ⟨dt, edt⟩ : ∃ z, z = detX 3 (lyT 3 (B 6) T) := ⟨_, rfl⟩
  rw [← edt] at hk2 h0
  rw [← er1]
  obtain ⟨f, ef⟩ : ∃ z : Nat → Int64, z = fun i => emX (B 6 i) k 1 * r1 i := ⟨_, rfl⟩
  rw [← ef]
  refine ⟨absX dt, de2, 3, r1, co2, mi2, T2, ?_⟩
  refine PX2_most (Nat.le_of_ble_eq_true rfl) ?_
  intro G hT hC hR
  refine mB hT 1 rfl ?_
  refine hC.1 _ [_] _ _ _ _ (c_isBasket_t hb) rfl (Nat.le_of_ble_eq_true rfl) rfl ?_
  refine mB hT 2 rfl ?_
  refine hC.2.1 _ [_] _ _ _ _ (c_isStuff_t hk) rfl (Nat.le_of_ble_eq_true rfl) rfl ?_
  refine mB hT 10 rfl ?_
  refine mAaldH hT (List.mem_of_getElem? (i := 14) rfl) hb ?_
  refine hC.2.2.1 _ 1 [_, _, _] _ _ _ _ _ (hk2) rfl rfl (Nat.le_of_ble_eq_true rfl) rfl ?_
  refine mB hT 18 rfl ?_
  refine mNf (lv2 := [(6, .int 0), (4, .long 0), (3, .int (-1)), (0, .ref 0), (1, .int (Int32.ofNat b)), (2, .int (Int32.ofNat k))]) (st2 := [.int 1, .int 0, .int (Int32.ofNat k), .ref 10, .ref 1]) rfl rfl ?_
  refine hC.2.2.2 _ 1 [_, _, _, _] _ _ _ _ _ (show KX1_brought l D ca ad _ _ (some (.long (f 0))) _ from (by rw [ef]; exact c_brought_6_0 k 1 hk (by decide))) rfl rfl (Nat.le_of_ble_eq_true rfl) rfl ?_
  refine mB hT 21 rfl ?_
  refine mNf (lv2 := [(6, .int 1), (4, .long (f 0)), (3, .int 0), (7, .long (f 0)), (0, .ref 0), (1, .int (Int32.ofNat b)), (2, .int (Int32.ofNat k))]) (st2 := [.int 1, .int 1, .int (Int32.ofNat k), .ref 10, .ref 1]) rfl rfl ?_
  refine hC.2.2.2 _ 1 [_, _, _, _] _ _ _ _ _ (show KX1_brought l D ca ad _ _ (some (.long (f 1))) _ from (by rw [ef]; exact c_brought_6_1 k 1 hk (by decide))) rfl rfl (Nat.le_of_ble_eq_true rfl) rfl ?_
  refine mB hT 8 rfl ?_
  refine mIf (fun h1 => ?_) (fun h1 => ?_)
  · refine mB hT 13 rfl ?_
    refine mNf (lv2 := [(6, .int 2), (7, .long (f 1)), (4, .long (f 0)), (3, .int 0), (0, .ref 0), (1, .int (Int32.ofNat b)), (2, .int (Int32.ofNat k))]) (st2 := [.int 1, .int 2, .int (Int32.ofNat k), .ref 10, .ref 1]) rfl rfl ?_
    refine hC.2.2.2 _ 1 [_, _, _, _] _ _ _ _ _ (show KX1_brought l D ca ad _ _ (some (.long (f 2))) _ from (by rw [ef]; exact c_brought_6_2 k 1 hk (by decide))) rfl rfl (Nat.le_of_ble_eq_true rfl) rfl ?_
    refine mB hT 8 rfl ?_
    refine mIf (fun h2 => ?_) (fun h2 => ?_)
    · refine mB hT 7 rfl ?_
      exact hR _ (by decide) _ _ _ (by have e1 : mbX 1 f = (0, f 0) := rfl; have e2 : mbX 2 f = (0, f 0) := (by show (if (mbX 1 f).2 < f 1 then ((Int32.ofNat 1, f 1) : Int32 × Int64) else mbX 1 f) = _; rw [e1]; exact if_neg (Int64.not_lt.mpr (lc_le.mp h1))); have e3 : mbX 3 f = (0, f 0) := (by show (if (mbX 2 f).2 < f 2 then ((Int32.ofNat 2, f 2) : Int32 × Int64) else mbX 2 f) = _; rw [e2]; exact if_neg (Int64.not_lt.mpr (lc_le.mp h2))); rw [e3]; rfl) rfl
    · refine mB hT 11 rfl ?_
      exact hR _ (by decide) _ _ _ (by have e1 : mbX 1 f = (0, f 0) := rfl; have e2 : mbX 2 f = (0, f 0) := (by show (if (mbX 1 f).2 < f 1 then ((Int32.ofNat 1, f 1) : Int32 × Int64) else mbX 1 f) = _; rw [e1]; exact if_neg (Int64.not_lt.mpr (lc_le.mp h1))); have e3 : mbX 3 f = (2, f 2) := (by show (if (mbX 2 f).2 < f 2 then ((Int32.ofNat 2, f 2) : Int32 × Int64) else mbX 2 f) = _; rw [e2]; exact if_pos (Int64.not_le.mp (fun q => h2 (lc_le.mpr q)))); rw [e3]; rfl) rfl
  · refine mB hT 17 rfl ?_
    refine mNf (lv2 := [(6, .int 2), (4, .long (f 1)), (3, .int 1), (7, .long (f 1)), (0, .ref 0), (1, .int (Int32.ofNat b)), (2, .int (Int32.ofNat k))]) (st2 := [.int 1, .int 2, .int (Int32.ofNat k), .ref 10, .ref 1]) rfl rfl ?_
    refine hC.2.2.2 _ 1 [_, _, _, _] _ _ _ _ _ (show KX1_brought l D ca ad _ _ (some (.long (f 2))) _ from (by rw [ef]; exact c_brought_6_2 k 1 hk (by decide))) rfl rfl (Nat.le_of_ble_eq_true rfl) rfl ?_
    refine mB hT 8 rfl ?_
    refine mIf (fun h3 => ?_) (fun h3 => ?_)
    · refine mB hT 7 rfl ?_
      exact hR _ (by decide) _ _ _ (by have e1 : mbX 1 f = (0, f 0) := rfl; have e2 : mbX 2 f = (1, f 1) := (by show (if (mbX 1 f).2 < f 1 then ((Int32.ofNat 1, f 1) : Int32 × Int64) else mbX 1 f) = _; rw [e1]; exact if_pos (Int64.not_le.mp (fun q => h1 (lc_le.mpr q)))); have e3 : mbX 3 f = (1, f 1) := (by show (if (mbX 2 f).2 < f 2 then ((Int32.ofNat 2, f 2) : Int32 × Int64) else mbX 2 f) = _; rw [e2]; exact if_neg (Int64.not_lt.mpr (lc_le.mp h3))); rw [e3]; rfl) rfl
    · refine mB hT 11 rfl ?_
      exact hR _ (by decide) _ _ _ (by have e1 : mbX 1 f = (0, f 0) := rfl; have e2 : mbX 2 f = (1, f 1) := (by show (if (mbX 1 f).2 < f 1 then ((Int32.ofNat 1, f 1) : Int32 × Int64) else mbX 1 f) = _; rw [e1]; exact if_pos (Int64.not_le.mp (fun q => h1 (lc_le.mpr q)))); have e3 : mbX 3 f = (2, f 2) := (by show (if (mbX 2 f).2 < f 2 then ((Int32.ofNat 2, f 2) : Int32 × Int64) else mbX 2 f) = _; rw [e2]; exact if_pos (Int64.not_le.mp (fun q => h3 (lc_le.mpr q)))); rw [e3]; rfl) rfl
set_option maxRecDepth 20000 in
theorem x_turned_B_4 {vs : Nat} {be de : Int64} {sz : Int32} {ro co mi : Nat → Int64} {T : Nat → Nat → Int64} {B : Nat → Nat → Nat → Int32} {hd : Nat → Nat → Int32} {df : Nat → Int32} {b : Nat} (hb : b < 4) (h0 : detX 4 (lyT 4 (B 6) T) = 0) : ∃ (be2 de2 : Int64) (sz2 : Int32) (ro2 co2 mi2 : Nat → Int64) (T2 : Nat → Nat → Int64), KX2_turned l D ca ad [.ref 0, .int (Int32.ofNat b)] (XW 4 (Int32.ofNat vs) be de sz ro co mi T B hd df) (some (.int (-104))) (XW 4 (Int32.ofNat vs) be2 de2 sz2 ro2 co2 mi2 T2 B hd df) := by
  obtain ⟨de2, mi2, T2, hk2⟩ := c_solve0_6 (l := l) (D := D) (ca := ca) (ad := ad) (n := 4) (vs := vs) (be := be) (de := de) (sz := sz) (ro := ro) (co := co) (mi := mi) (df := df) (by decide) hb h0
  refine ⟨be, de2, 4, ro, co, mi2, T2, ?_⟩
  refine PX2_turned (Nat.le_of_ble_eq_true rfl) ?_
  intro G hT hC hR
  refine mB hT 1 rfl ?_
  refine hC.1 _ [_] _ _ _ _ (c_isBasket_t hb) rfl (Nat.le_of_ble_eq_true rfl) rfl ?_
  refine mB hT 10 rfl ?_
  refine mAaldH hT (List.mem_of_getElem? (i := 12) rfl) hb ?_
  refine hC.2 _ 1 [_, _, _] _ _ _ _ _ (hk2) rfl rfl (Nat.le_of_ble_eq_true rfl) rfl ?_
  refine mB hT 2 rfl ?_
  exact hR _ (by decide) _ _ _ rfl rfl
set_option maxRecDepth 20000 in
theorem x_turned_4 {vs : Nat} {be de : Int64} {sz : Int32} {ro co mi : Nat → Int64} {T : Nat → Nat → Int64} {B : Nat → Nat → Nat → Int32} {hd : Nat → Nat → Int32} {df : Nat → Int32} {b : Nat} (hb : b < 4) (h0 : ¬ detX 4 (lyT 4 (B 6) T) = 0) : ∃ (be2 de2 : Int64) (sz2 : Int32) (ro2 co2 mi2 : Nat → Int64) (T2 : Nat → Nat → Int64), KX2_turned l D ca ad [.ref 0, .int (Int32.ofNat b)] (XW 4 (Int32.ofNat vs) be de sz ro co mi T B hd df) (some (.int (tnF 4 0 (roX 4 (lyT 4 (B 6) T) (hd b) ro)))) (XW 4 (Int32.ofNat vs) be2 de2 sz2 ro2 co2 mi2 T2 B hd df) := by
  obtain ⟨de2, co2, mi2, T2, hk2⟩ := c_solve1_6 (l := l) (D := D) (ca := ca) (ad := ad) (n := 4) (vs := vs) (be := be) (de := de) (sz := sz) (ro := ro) (co := co) (mi := mi) (df := df) (by decide) hb h0
  obtain ⟨r1, er1⟩ : ∃ z, z = roX 4 (lyT 4 (B 6) T) (hd b) ro := ⟨_, rfl⟩
  rw [← er1] at hk2
  obtain ⟨dt, edt⟩ : ∃ z, z = detX 4 (lyT 4 (B 6) T) := ⟨_, rfl⟩
  rw [← edt] at hk2 h0
  rw [← er1]
  refine ⟨absX dt, de2, 4, r1, co2, mi2, T2, ?_⟩
  refine PX2_turned (Nat.le_of_ble_eq_true rfl) ?_
  intro G hT hC hR
  refine mB hT 1 rfl ?_
  refine hC.1 _ [_] _ _ _ _ (c_isBasket_t hb) rfl (Nat.le_of_ble_eq_true rfl) rfl ?_
  refine mB hT 10 rfl ?_
  refine mAaldH hT (List.mem_of_getElem? (i := 12) rfl) hb ?_
  refine hC.2 _ 1 [_, _, _] _ _ _ _ _ (hk2) rfl rfl (Nat.le_of_ble_eq_true rfl) rfl ?_
  refine mB hT 15 rfl ?_
  refine mIf (fun h1 => ?_) (fun h1 => ?_)
  · refine mB hT 14 rfl ?_
    refine mIf (fun h2 => ?_) (fun h2 => ?_)
    · refine mNf (lv2 := [(2, .int 1), (0, .ref 0), (1, .int (Int32.ofNat b))]) (st2 := []) rfl rfl ?_
      refine mB hT 14 rfl ?_
      refine mIf (fun h3 => ?_) (fun h3 => ?_)
      · refine mB hT 14 rfl ?_
        refine mIf (fun h4 => ?_) (fun h4 => ?_)
        · refine mNf (lv2 := [(2, .int 3), (0, .ref 0), (1, .int (Int32.ofNat b))]) (st2 := []) rfl rfl ?_
          refine mB hT 7 rfl ?_
          exact hR _ (by decide) _ _ _ (by simp only [tnF, if_neg (Int64.not_lt.mpr (lc_ge.mp h1)), if_neg (Int64.not_lt.mpr (lc_ge.mp h2)), if_neg (Int64.not_lt.mpr (lc_ge.mp h3)), if_neg (Int64.not_lt.mpr (lc_ge.mp h4))]; rfl) rfl
        · refine mNf (lv2 := [(2, .int 3), (0, .ref 0), (1, .int (Int32.ofNat b))]) (st2 := []) rfl rfl ?_
          refine mB hT 1 rfl ?_
          exact hR _ (by decide) _ _ _ (by simp only [tnF, if_neg (Int64.not_lt.mpr (lc_ge.mp h1)), if_neg (Int64.not_lt.mpr (lc_ge.mp h2)), if_neg (Int64.not_lt.mpr (lc_ge.mp h3)), if_pos (Int64.not_le.mp (fun q => h4 (lc_ge.mpr q)))]; rfl) rfl
      · refine mB hT 1 rfl ?_
        exact hR _ (by decide) _ _ _ (by simp only [tnF, if_neg (Int64.not_lt.mpr (lc_ge.mp h1)), if_neg (Int64.not_lt.mpr (lc_ge.mp h2)), if_pos (Int64.not_le.mp (fun q => h3 (lc_ge.mpr q)))]; rfl) rfl
    · refine mNf (lv2 := [(2, .int 1), (0, .ref 0), (1, .int (Int32.ofNat b))]) (st2 := []) rfl rfl ?_
      refine mB hT 1 rfl ?_
      exact hR _ (by decide) _ _ _ (by simp only [tnF, if_neg (Int64.not_lt.mpr (lc_ge.mp h1)), if_pos (Int64.not_le.mp (fun q => h2 (lc_ge.mpr q)))]; rfl) rfl
  · refine mB hT 1 rfl ?_
    exact hR _ (by decide) _ _ _ (by simp only [tnF, if_pos (Int64.not_le.mp (fun q => h1 (lc_ge.mpr q)))]; rfl) rfl
set_option maxRecDepth 20000 in
theorem x_most_B_4 {vs : Nat} {be de : Int64} {sz : Int32} {ro co mi : Nat → Int64} {T : Nat → Nat → Int64} {B : Nat → Nat → Nat → Int32} {hd : Nat → Nat → Int32} {df : Nat → Int32} {b : Nat} (hb : b < 4) {k : Nat} (hk : k < 3) (h0 : detX 4 (lyT 4 (B 6) T) = 0) : ∃ (be2 de2 : Int64) (sz2 : Int32) (ro2 co2 mi2 : Nat → Int64) (T2 : Nat → Nat → Int64), KX2_most l D ca ad [.ref 0, .int (Int32.ofNat b), .int (Int32.ofNat k)] (XW 4 (Int32.ofNat vs) be de sz ro co mi T B hd df) (some (.int (-104))) (XW 4 (Int32.ofNat vs) be2 de2 sz2 ro2 co2 mi2 T2 B hd df) := by
  obtain ⟨de2, mi2, T2, hk2⟩ := c_solve0_6 (l := l) (D := D) (ca := ca) (ad := ad) (n := 4) (vs := vs) (be := be) (de := de) (sz := sz) (ro := ro) (co := co) (mi := mi) (df := df) (by decide) hb h0
  refine ⟨be, de2, 4, ro, co, mi2, T2, ?_⟩
  refine PX2_most (Nat.le_of_ble_eq_true rfl) ?_
  intro G hT hC hR
  refine mB hT 1 rfl ?_
  refine hC.1 _ [_] _ _ _ _ (c_isBasket_t hb) rfl (Nat.le_of_ble_eq_true rfl) rfl ?_
  refine mB hT 2 rfl ?_
  refine hC.2.1 _ [_] _ _ _ _ (c_isStuff_t hk) rfl (Nat.le_of_ble_eq_true rfl) rfl ?_
  refine mB hT 10 rfl ?_
  refine mAaldH hT (List.mem_of_getElem? (i := 14) rfl) hb ?_
  refine hC.2.2.1 _ 1 [_, _, _] _ _ _ _ _ (hk2) rfl rfl (Nat.le_of_ble_eq_true rfl) rfl ?_
  refine mB hT 2 rfl ?_
  exact hR _ (by decide) _ _ _ rfl rfl
set_option maxRecDepth 20000 in
theorem x_most_4 {vs : Nat} {be de : Int64} {sz : Int32} {ro co mi : Nat → Int64} {T : Nat → Nat → Int64} {B : Nat → Nat → Nat → Int32} {hd : Nat → Nat → Int32} {df : Nat → Int32} {b : Nat} (hb : b < 4) {k : Nat} (hk : k < 3) (h0 : ¬ detX 4 (lyT 4 (B 6) T) = 0) : ∃ (be2 de2 : Int64) (sz2 : Int32) (ro2 co2 mi2 : Nat → Int64) (T2 : Nat → Nat → Int64), KX2_most l D ca ad [.ref 0, .int (Int32.ofNat b), .int (Int32.ofNat k)] (XW 4 (Int32.ofNat vs) be de sz ro co mi T B hd df) (some (.int (mbX 4 (fun i => emX (B 6 i) k 1 * (roX 4 (lyT 4 (B 6) T) (hd b) ro) i)).1)) (XW 4 (Int32.ofNat vs) be2 de2 sz2 ro2 co2 mi2 T2 B hd df) := by
  obtain ⟨de2, co2, mi2, T2, hk2⟩ := c_solve1_6 (l := l) (D := D) (ca := ca) (ad := ad) (n := 4) (vs := vs) (be := be) (de := de) (sz := sz) (ro := ro) (co := co) (mi := mi) (df := df) (by decide) hb h0
  obtain ⟨r1, er1⟩ : ∃ z, z = roX 4 (lyT 4 (B 6) T) (hd b) ro := ⟨_, rfl⟩
  rw [← er1] at hk2
  obtain ⟨dt, edt⟩ : ∃ z, z = detX 4 (lyT 4 (B 6) T) := ⟨_, rfl⟩
  rw [← edt] at hk2 h0
  rw [← er1]
  obtain ⟨f, ef⟩ : ∃ z : Nat → Int64, z = fun i => emX (B 6 i) k 1 * r1 i := ⟨_, rfl⟩
  rw [← ef]
  refine ⟨absX dt, de2, 4, r1, co2, mi2, T2, ?_⟩
  refine PX2_most (Nat.le_of_ble_eq_true rfl) ?_
  intro G hT hC hR
  refine mB hT 1 rfl ?_
  refine hC.1 _ [_] _ _ _ _ (c_isBasket_t hb) rfl (Nat.le_of_ble_eq_true rfl) rfl ?_
  refine mB hT 2 rfl ?_
  refine hC.2.1 _ [_] _ _ _ _ (c_isStuff_t hk) rfl (Nat.le_of_ble_eq_true rfl) rfl ?_
  refine mB hT 10 rfl ?_
  refine mAaldH hT (List.mem_of_getElem? (i := 14) rfl) hb ?_
  refine hC.2.2.1 _ 1 [_, _, _] _ _ _ _ _ (hk2) rfl rfl (Nat.le_of_ble_eq_true rfl) rfl ?_
  refine mB hT 18 rfl ?_
  refine mNf (lv2 := [(6, .int 0), (4, .long 0), (3, .int (-1)), (0, .ref 0), (1, .int (Int32.ofNat b)), (2, .int (Int32.ofNat k))]) (st2 := [.int 1, .int 0, .int (Int32.ofNat k), .ref 10, .ref 1]) rfl rfl ?_
  refine hC.2.2.2 _ 1 [_, _, _, _] _ _ _ _ _ (show KX1_brought l D ca ad _ _ (some (.long (f 0))) _ from (by rw [ef]; exact c_brought_6_0 k 1 hk (by decide))) rfl rfl (Nat.le_of_ble_eq_true rfl) rfl ?_
  refine mB hT 21 rfl ?_
  refine mNf (lv2 := [(6, .int 1), (4, .long (f 0)), (3, .int 0), (7, .long (f 0)), (0, .ref 0), (1, .int (Int32.ofNat b)), (2, .int (Int32.ofNat k))]) (st2 := [.int 1, .int 1, .int (Int32.ofNat k), .ref 10, .ref 1]) rfl rfl ?_
  refine hC.2.2.2 _ 1 [_, _, _, _] _ _ _ _ _ (show KX1_brought l D ca ad _ _ (some (.long (f 1))) _ from (by rw [ef]; exact c_brought_6_1 k 1 hk (by decide))) rfl rfl (Nat.le_of_ble_eq_true rfl) rfl ?_
  refine mB hT 8 rfl ?_
  refine mIf (fun h1 => ?_) (fun h1 => ?_)
  · refine mB hT 13 rfl ?_
    refine mNf (lv2 := [(6, .int 2), (7, .long (f 1)), (4, .long (f 0)), (3, .int 0), (0, .ref 0), (1, .int (Int32.ofNat b)), (2, .int (Int32.ofNat k))]) (st2 := [.int 1, .int 2, .int (Int32.ofNat k), .ref 10, .ref 1]) rfl rfl ?_
    refine hC.2.2.2 _ 1 [_, _, _, _] _ _ _ _ _ (show KX1_brought l D ca ad _ _ (some (.long (f 2))) _ from (by rw [ef]; exact c_brought_6_2 k 1 hk (by decide))) rfl rfl (Nat.le_of_ble_eq_true rfl) rfl ?_
    refine mB hT 8 rfl ?_
    refine mIf (fun h2 => ?_) (fun h2 => ?_)
    · refine mB hT 13 rfl ?_
      refine mNf (lv2 := [(6, .int 3), (7, .long (f 2)), (4, .long (f 0)), (3, .int 0), (0, .ref 0), (1, .int (Int32.ofNat b)), (2, .int (Int32.ofNat k))]) (st2 := [.int 1, .int 3, .int (Int32.ofNat k), .ref 10, .ref 1]) rfl rfl ?_
      refine hC.2.2.2 _ 1 [_, _, _, _] _ _ _ _ _ (show KX1_brought l D ca ad _ _ (some (.long (f 3))) _ from (by rw [ef]; exact c_brought_6_3 k 1 hk (by decide))) rfl rfl (Nat.le_of_ble_eq_true rfl) rfl ?_
      refine mB hT 8 rfl ?_
      refine mIf (fun h3 => ?_) (fun h3 => ?_)
      · refine mB hT 7 rfl ?_
        exact hR _ (by decide) _ _ _ (by have e1 : mbX 1 f = (0, f 0) := rfl; have e2 : mbX 2 f = (0, f 0) := (by show (if (mbX 1 f).2 < f 1 then ((Int32.ofNat 1, f 1) : Int32 × Int64) else mbX 1 f) = _; rw [e1]; exact if_neg (Int64.not_lt.mpr (lc_le.mp h1))); have e3 : mbX 3 f = (0, f 0) := (by show (if (mbX 2 f).2 < f 2 then ((Int32.ofNat 2, f 2) : Int32 × Int64) else mbX 2 f) = _; rw [e2]; exact if_neg (Int64.not_lt.mpr (lc_le.mp h2))); have e4 : mbX 4 f = (0, f 0) := (by show (if (mbX 3 f).2 < f 3 then ((Int32.ofNat 3, f 3) : Int32 × Int64) else mbX 3 f) = _; rw [e3]; exact if_neg (Int64.not_lt.mpr (lc_le.mp h3))); rw [e4]; rfl) rfl
      · refine mB hT 11 rfl ?_
        exact hR _ (by decide) _ _ _ (by have e1 : mbX 1 f = (0, f 0) := rfl; have e2 : mbX 2 f = (0, f 0) := (by show (if (mbX 1 f).2 < f 1 then ((Int32.ofNat 1, f 1) : Int32 × Int64) else mbX 1 f) = _; rw [e1]; exact if_neg (Int64.not_lt.mpr (lc_le.mp h1))); have e3 : mbX 3 f = (0, f 0) := (by show (if (mbX 2 f).2 < f 2 then ((Int32.ofNat 2, f 2) : Int32 × Int64) else mbX 2 f) = _; rw [e2]; exact if_neg (Int64.not_lt.mpr (lc_le.mp h2))); have e4 : mbX 4 f = (3, f 3) := (by show (if (mbX 3 f).2 < f 3 then ((Int32.ofNat 3, f 3) : Int32 × Int64) else mbX 3 f) = _; rw [e3]; exact if_pos (Int64.not_le.mp (fun q => h3 (lc_le.mpr q)))); rw [e4]; rfl) rfl
    · refine mB hT 17 rfl ?_
      refine mNf (lv2 := [(6, .int 3), (4, .long (f 2)), (3, .int 2), (7, .long (f 2)), (0, .ref 0), (1, .int (Int32.ofNat b)), (2, .int (Int32.ofNat k))]) (st2 := [.int 1, .int 3, .int (Int32.ofNat k), .ref 10, .ref 1]) rfl rfl ?_
      refine hC.2.2.2 _ 1 [_, _, _, _] _ _ _ _ _ (show KX1_brought l D ca ad _ _ (some (.long (f 3))) _ from (by rw [ef]; exact c_brought_6_3 k 1 hk (by decide))) rfl rfl (Nat.le_of_ble_eq_true rfl) rfl ?_
      refine mB hT 8 rfl ?_
      refine mIf (fun h4 => ?_) (fun h4 => ?_)
      · refine mB hT 7 rfl ?_
        exact hR _ (by decide) _ _ _ (by have e1 : mbX 1 f = (0, f 0) := rfl; have e2 : mbX 2 f = (0, f 0) := (by show (if (mbX 1 f).2 < f 1 then ((Int32.ofNat 1, f 1) : Int32 × Int64) else mbX 1 f) = _; rw [e1]; exact if_neg (Int64.not_lt.mpr (lc_le.mp h1))); have e3 : mbX 3 f = (2, f 2) := (by show (if (mbX 2 f).2 < f 2 then ((Int32.ofNat 2, f 2) : Int32 × Int64) else mbX 2 f) = _; rw [e2]; exact if_pos (Int64.not_le.mp (fun q => h2 (lc_le.mpr q)))); have e4 : mbX 4 f = (2, f 2) := (by show (if (mbX 3 f).2 < f 3 then ((Int32.ofNat 3, f 3) : Int32 × Int64) else mbX 3 f) = _; rw [e3]; exact if_neg (Int64.not_lt.mpr (lc_le.mp h4))); rw [e4]; rfl) rfl
      · refine mB hT 11 rfl ?_
        exact hR _ (by decide) _ _ _ (by have e1 : mbX 1 f = (0, f 0) := rfl; have e2 : mbX 2 f = (0, f 0) := (by show (if (mbX 1 f).2 < f 1 then ((Int32.ofNat 1, f 1) : Int32 × Int64) else mbX 1 f) = _; rw [e1]; exact if_neg (Int64.not_lt.mpr (lc_le.mp h1))); have e3 : mbX 3 f = (2, f 2) := (by show (if (mbX 2 f).2 < f 2 then ((Int32.ofNat 2, f 2) : Int32 × Int64) else mbX 2 f) = _; rw [e2]; exact if_pos (Int64.not_le.mp (fun q => h2 (lc_le.mpr q)))); have e4 : mbX 4 f = (3, f 3) := (by show (if (mbX 3 f).2 < f 3 then ((Int32.ofNat 3, f 3) : Int32 × Int64) else mbX 3 f) = _; rw [e3]; exact if_pos (Int64.not_le.mp (fun q => h4 (lc_le.mpr q)))); rw [e4]; rfl) rfl
  · refine mB hT 17 rfl ?_
    refine mNf (lv2 := [(6, .int 2), (4, .long (f 1)), (3, .int 1), (7, .long (f 1)), (0, .ref 0), (1, .int (Int32.ofNat b)), (2, .int (Int32.ofNat k))]) (st2 := [.int 1, .int 2, .int (Int32.ofNat k), .ref 10, .ref 1]) rfl rfl ?_
    refine hC.2.2.2 _ 1 [_, _, _, _] _ _ _ _ _ (show KX1_brought l D ca ad _ _ (some (.long (f 2))) _ from (by rw [ef]; exact c_brought_6_2 k 1 hk (by decide))) rfl rfl (Nat.le_of_ble_eq_true rfl) rfl ?_
    refine mB hT 8 rfl ?_
    refine mIf (fun h5 => ?_) (fun h5 => ?_)
    · refine mB hT 13 rfl ?_
      refine mNf (lv2 := [(6, .int 3), (7, .long (f 2)), (4, .long (f 1)), (3, .int 1), (0, .ref 0), (1, .int (Int32.ofNat b)), (2, .int (Int32.ofNat k))]) (st2 := [.int 1, .int 3, .int (Int32.ofNat k), .ref 10, .ref 1]) rfl rfl ?_
      refine hC.2.2.2 _ 1 [_, _, _, _] _ _ _ _ _ (show KX1_brought l D ca ad _ _ (some (.long (f 3))) _ from (by rw [ef]; exact c_brought_6_3 k 1 hk (by decide))) rfl rfl (Nat.le_of_ble_eq_true rfl) rfl ?_
      refine mB hT 8 rfl ?_
      refine mIf (fun h6 => ?_) (fun h6 => ?_)
      · refine mB hT 7 rfl ?_
        exact hR _ (by decide) _ _ _ (by have e1 : mbX 1 f = (0, f 0) := rfl; have e2 : mbX 2 f = (1, f 1) := (by show (if (mbX 1 f).2 < f 1 then ((Int32.ofNat 1, f 1) : Int32 × Int64) else mbX 1 f) = _; rw [e1]; exact if_pos (Int64.not_le.mp (fun q => h1 (lc_le.mpr q)))); have e3 : mbX 3 f = (1, f 1) := (by show (if (mbX 2 f).2 < f 2 then ((Int32.ofNat 2, f 2) : Int32 × Int64) else mbX 2 f) = _; rw [e2]; exact if_neg (Int64.not_lt.mpr (lc_le.mp h5))); have e4 : mbX 4 f = (1, f 1) := (by show (if (mbX 3 f).2 < f 3 then ((Int32.ofNat 3, f 3) : Int32 × Int64) else mbX 3 f) = _; rw [e3]; exact if_neg (Int64.not_lt.mpr (lc_le.mp h6))); rw [e4]; rfl) rfl
      · refine mB hT 11 rfl ?_
        exact hR _ (by decide) _ _ _ (by have e1 : mbX 1 f = (0, f 0) := rfl; have e2 : mbX 2 f = (1, f 1) := (by show (if (mbX 1 f).2 < f 1 then ((Int32.ofNat 1, f 1) : Int32 × Int64) else mbX 1 f) = _; rw [e1]; exact if_pos (Int64.not_le.mp (fun q => h1 (lc_le.mpr q)))); have e3 : mbX 3 f = (1, f 1) := (by show (if (mbX 2 f).2 < f 2 then ((Int32.ofNat 2, f 2) : Int32 × Int64) else mbX 2 f) = _; rw [e2]; exact if_neg (Int64.not_lt.mpr (lc_le.mp h5))); have e4 : mbX 4 f = (3, f 3) := (by show (if (mbX 3 f).2 < f 3 then ((Int32.ofNat 3, f 3) : Int32 × Int64) else mbX 3 f) = _; rw [e3]; exact if_pos (Int64.not_le.mp (fun q => h6 (lc_le.mpr q)))); rw [e4]; rfl) rfl
    · refine mB hT 17 rfl ?_
      refine mNf (lv2 := [(6, .int 3), (4, .long (f 2)), (3, .int 2), (7, .long (f 2)), (0, .ref 0), (1, .int (Int32.ofNat b)), (2, .int (Int32.ofNat k))]) (st2 := [.int 1, .int 3, .int (Int32.ofNat k), .ref 10, .ref 1]) rfl rfl ?_
      refine hC.2.2.2 _ 1 [_, _, _, _] _ _ _ _ _ (show KX1_brought l D ca ad _ _ (some (.long (f 3))) _ from (by rw [ef]; exact c_brought_6_3 k 1 hk (by decide))) rfl rfl (Nat.le_of_ble_eq_true rfl) rfl ?_
      refine mB hT 8 rfl ?_
      refine mIf (fun h7 => ?_) (fun h7 => ?_)
      · refine mB hT 7 rfl ?_
        exact hR _ (by decide) _ _ _ (by have e1 : mbX 1 f = (0, f 0) := rfl; have e2 : mbX 2 f = (1, f 1) := (by show (if (mbX 1 f).2 < f 1 then ((Int32.ofNat 1, f 1) : Int32 × Int64) else mbX 1 f) = _; rw [e1]; exact if_pos (Int64.not_le.mp (fun q => h1 (lc_le.mpr q)))); have e3 : mbX 3 f = (2, f 2) := (by show (if (mbX 2 f).2 < f 2 then ((Int32.ofNat 2, f 2) : Int32 × Int64) else mbX 2 f) = _; rw [e2]; exact if_pos (Int64.not_le.mp (fun q => h5 (lc_le.mpr q)))); have e4 : mbX 4 f = (2, f 2) := (by show (if (mbX 3 f).2 < f 3 then ((Int32.ofNat 3, f 3) : Int32 × Int64) else mbX 3 f) = _; rw [e3]; exact if_neg (Int64.not_lt.mpr (lc_le.mp h7))); rw [e4]; rfl) rfl
      · refine mB hT 11 rfl ?_
        exact hR _ (by decide) _ _ _ (by have e1 : mbX 1 f = (0, f 0) := rfl; have e2 : mbX 2 f = (1, f 1) := (by show (if (mbX 1 f).2 < f 1 then ((Int32.ofNat 1, f 1) : Int32 × Int64) else mbX 1 f) = _; rw [e1]; exact if_pos (Int64.not_le.mp (fun q => h1 (lc_le.mpr q)))); have e3 : mbX 3 f = (2, f 2) := (by show (if (mbX 2 f).2 < f 2 then ((Int32.ofNat 2, f 2) : Int32 × Int64) else mbX 2 f) = _; rw [e2]; exact if_pos (Int64.not_le.mp (fun q => h5 (lc_le.mpr q)))); have e4 : mbX 4 f = (3, f 3) := (by show (if (mbX 3 f).2 < f 3 then ((Int32.ofNat 3, f 3) : Int32 × Int64) else mbX 3 f) = _; rw [e3]; exact if_pos (Int64.not_le.mp (fun q => h7 (lc_le.mpr q)))); rw [e4]; rfl) rfl
theorem x_turned {n vs : Nat} {be de : Int64} {sz : Int32} {ro co mi : Nat → Int64} {T : Nat → Nat → Int64} {B : Nat → Nat → Nat → Int32} {hd : Nat → Nat → Int32} {df : Nat → Int32} (hn : n ≤ 4) {b : Nat} (hb : b < 4) (h0 : ¬ detX n (lyT n (B 6) T) = 0) : ∃ (be2 de2 : Int64) (sz2 : Int32) (ro2 co2 mi2 : Nat → Int64) (T2 : Nat → Nat → Int64), KX2_turned l D ca ad [.ref 0, .int (Int32.ofNat b)] (XW (Int32.ofNat n) (Int32.ofNat vs) be de sz ro co mi T B hd df) (some (.int (tnF n 0 (roX n (lyT n (B 6) T) (hd b) ro)))) (XW (Int32.ofNat n) (Int32.ofNat vs) be2 de2 sz2 ro2 co2 mi2 T2 B hd df) := by
  match n, hn, h0 with
  | 0, _, h0 => exact x_turned_0 hb h0
  | 1, _, h0 => exact x_turned_1 hb h0
  | 2, _, h0 => exact x_turned_2 hb h0
  | 3, _, h0 => exact x_turned_3 hb h0
  | 4, _, h0 => exact x_turned_4 hb h0
theorem x_turned_B {n vs : Nat} {be de : Int64} {sz : Int32} {ro co mi : Nat → Int64} {T : Nat → Nat → Int64} {B : Nat → Nat → Nat → Int32} {hd : Nat → Nat → Int32} {df : Nat → Int32} (hn : n ≤ 4) {b : Nat} (hb : b < 4) (h0 : detX n (lyT n (B 6) T) = 0) : ∃ (be2 de2 : Int64) (sz2 : Int32) (ro2 co2 mi2 : Nat → Int64) (T2 : Nat → Nat → Int64), KX2_turned l D ca ad [.ref 0, .int (Int32.ofNat b)] (XW (Int32.ofNat n) (Int32.ofNat vs) be de sz ro co mi T B hd df) (some (.int (-104))) (XW (Int32.ofNat n) (Int32.ofNat vs) be2 de2 sz2 ro2 co2 mi2 T2 B hd df) := by
  match n, hn, h0 with
  | 0, _, h0 => exact absurd (show (1 : Int64) = 0 from h0) (by decide)
  | 1, _, h0 => exact x_turned_B_1 hb h0
  | 2, _, h0 => exact x_turned_B_2 hb h0
  | 3, _, h0 => exact x_turned_B_3 hb h0
  | 4, _, h0 => exact x_turned_B_4 hb h0
theorem x_most {n vs : Nat} {be de : Int64} {sz : Int32} {ro co mi : Nat → Int64} {T : Nat → Nat → Int64} {B : Nat → Nat → Nat → Int32} {hd : Nat → Nat → Int32} {df : Nat → Int32} (hn : n ≤ 4) {b : Nat} (hb : b < 4) {k : Nat} (hk : k < 3) (h0 : ¬ detX n (lyT n (B 6) T) = 0) : ∃ (be2 de2 : Int64) (sz2 : Int32) (ro2 co2 mi2 : Nat → Int64) (T2 : Nat → Nat → Int64), KX2_most l D ca ad [.ref 0, .int (Int32.ofNat b), .int (Int32.ofNat k)] (XW (Int32.ofNat n) (Int32.ofNat vs) be de sz ro co mi T B hd df) (some (.int (mbX n (fun i => emX (B 6 i) k 1 * (roX n (lyT n (B 6) T) (hd b) ro) i)).1)) (XW (Int32.ofNat n) (Int32.ofNat vs) be2 de2 sz2 ro2 co2 mi2 T2 B hd df) := by
  match n, hn, h0 with
  | 0, _, h0 => exact x_most_0 hb hk h0
  | 1, _, h0 => exact x_most_1 hb hk h0
  | 2, _, h0 => exact x_most_2 hb hk h0
  | 3, _, h0 => exact x_most_3 hb hk h0
  | 4, _, h0 => exact x_most_4 hb hk h0
theorem x_most_B {n vs : Nat} {be de : Int64} {sz : Int32} {ro co mi : Nat → Int64} {T : Nat → Nat → Int64} {B : Nat → Nat → Nat → Int32} {hd : Nat → Nat → Int32} {df : Nat → Int32} (hn : n ≤ 4) {b : Nat} (hb : b < 4) {k : Nat} (hk : k < 3) (h0 : detX n (lyT n (B 6) T) = 0) : ∃ (be2 de2 : Int64) (sz2 : Int32) (ro2 co2 mi2 : Nat → Int64) (T2 : Nat → Nat → Int64), KX2_most l D ca ad [.ref 0, .int (Int32.ofNat b), .int (Int32.ofNat k)] (XW (Int32.ofNat n) (Int32.ofNat vs) be de sz ro co mi T B hd df) (some (.int (-104))) (XW (Int32.ofNat n) (Int32.ofNat vs) be2 de2 sz2 ro2 co2 mi2 T2 B hd df) := by
  match n, hn, h0 with
  | 0, _, h0 => exact absurd (show (1 : Int64) = 0 from h0) (by decide)
  | 1, _, h0 => exact x_most_B_1 hb hk h0
  | 2, _, h0 => exact x_most_B_2 hb hk h0
  | 3, _, h0 => exact x_most_B_3 hb hk h0
  | 4, _, h0 => exact x_most_B_4 hb hk h0
end
