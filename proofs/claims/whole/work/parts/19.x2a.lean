
theorem mDiv {G : mS → Prop} {tb : List (Nat × mR)} (hT : mTb G tb) {pc n : Nat} {f : Int64 → Int64 → Int64} (hm : (pc, r_lld n f) ∈ tb) {lv : mL} {x y : Int64} {st : List Value} {w : mW} (hy : ¬ y = 0) (k : G (n, lv, .long (f x y) :: st, w)) : G (pc, lv, .long y :: .long x :: st, w) := hT.1 _ hm lv _ w _ (if_neg hy) k
def sdX (r : Int64) (s : Nat) : Nat := if r < 0 then 2 - s else s
theorem sdX_lt (r : Int64) {s : Nat} (h : s < 3) : sdX r s < 3 := by unfold sdX; split <;> omega
theorem two_sub {s : Nat} (h : s < 3) : (2 : Int32) - Int32.ofNat s = Int32.ofNat (2 - s) := by
  match s, h with
  | 0, _ => rfl
  | 1, _ => rfl
  | 2, _ => rfl
def smX (n : Nat) (rows : Nat → Nat → Int32) (ro : Nat → Int64) (k s : Nat) : Int64 := match n with
  | 0 => 0
  | m + 1 => smX m rows ro k s + emX (rows m) k (sdX (ro m) s) * ro m
theorem ofNat_nneg {i : Nat} (h : i < 2 ^ 31) : ¬ Int32.ofNat i < 0 := nI_pos h
theorem ofNat_lt {i n : Nat} (h : i < n) (hn : n < 2 ^ 31) : Int32.ofNat i < Int32.ofNat n := nI_lt h hn
theorem ofNat_nle {i n : Nat} (h : i < n) (hn : n < 2 ^ 31) : ¬ Int32.ofNat n ≤ Int32.ofNat i := nI_ge h hn
def thX (a b : Int64) : Int64 := if b = 0 then -9000000000000000004 else fdX (1000 * a) b

section
variable {l : Launch} {D : va_G} {ca : Nat → ClassId} {ad : Nat → Nat}

set_option maxRecDepth 20000 in
theorem c_brought_6_0 {n vs : Int32} {be de : Int64} {sz : Int32} {ro co mi : Nat → Int64} {T : Nat → Nat → Int64} {B : Nat → Nat → Nat → Int32} {hd : Nat → Nat → Int32} {df : Nat → Int32} (k s : Nat) (hk : k < 3) (hs : s < 3) : KX1_brought l D ca ad [.ref 1, .ref 10, .int (Int32.ofNat k), .int 0, .int (Int32.ofNat s)] (XW n vs be de sz ro co mi T B hd df) (some (.long (emX (B 6 0) k s * ro 0))) (XW n vs be de sz ro co mi T B hd df) := by
  refine PX1_brought (Nat.le_of_ble_eq_true rfl) ?_
  intro G hT hC hR
  refine mB hT 4 rfl ?_
  refine hC _ 10 [_, _, _] _ _ _ _ _ (c_emission_6_0 k s hk hs) rfl rfl (Nat.le_of_ble_eq_true rfl) rfl ?_
  refine mB hT 5 rfl ?_
  exact hR _ (by decide) _ _ _ rfl rfl
set_option maxRecDepth 20000 in
theorem c_brought_6_1 {n vs : Int32} {be de : Int64} {sz : Int32} {ro co mi : Nat → Int64} {T : Nat → Nat → Int64} {B : Nat → Nat → Nat → Int32} {hd : Nat → Nat → Int32} {df : Nat → Int32} (k s : Nat) (hk : k < 3) (hs : s < 3) : KX1_brought l D ca ad [.ref 1, .ref 10, .int (Int32.ofNat k), .int 1, .int (Int32.ofNat s)] (XW n vs be de sz ro co mi T B hd df) (some (.long (emX (B 6 1) k s * ro 1))) (XW n vs be de sz ro co mi T B hd df) := by
  refine PX1_brought (Nat.le_of_ble_eq_true rfl) ?_
  intro G hT hC hR
  refine mB hT 4 rfl ?_
  refine hC _ 10 [_, _, _] _ _ _ _ _ (c_emission_6_1 k s hk hs) rfl rfl (Nat.le_of_ble_eq_true rfl) rfl ?_
  refine mB hT 5 rfl ?_
  exact hR _ (by decide) _ _ _ rfl rfl
set_option maxRecDepth 20000 in
theorem c_brought_6_2 {n vs : Int32} {be de : Int64} {sz : Int32} {ro co mi : Nat → Int64} {T : Nat → Nat → Int64} {B : Nat → Nat → Nat → Int32} {hd : Nat → Nat → Int32} {df : Nat → Int32} (k s : Nat) (hk : k < 3) (hs : s < 3) : KX1_brought l D ca ad [.ref 1, .ref 10, .int (Int32.ofNat k), .int 2, .int (Int32.ofNat s)] (XW n vs be de sz ro co mi T B hd df) (some (.long (emX (B 6 2) k s * ro 2))) (XW n vs be de sz ro co mi T B hd df) := by
  refine PX1_brought (Nat.le_of_ble_eq_true rfl) ?_
  intro G hT hC hR
  refine mB hT 4 rfl ?_
  refine hC _ 10 [_, _, _] _ _ _ _ _ (c_emission_6_2 k s hk hs) rfl rfl (Nat.le_of_ble_eq_true rfl) rfl ?_
  refine mB hT 5 rfl ?_
  exact hR _ (by decide) _ _ _ rfl rfl
set_option maxRecDepth 20000 in
theorem c_brought_6_3 {n vs : Int32} {be de : Int64} {sz : Int32} {ro co mi : Nat → Int64} {T : Nat → Nat → Int64} {B : Nat → Nat → Nat → Int32} {hd : Nat → Nat → Int32} {df : Nat → Int32} (k s : Nat) (hk : k < 3) (hs : s < 3) : KX1_brought l D ca ad [.ref 1, .ref 10, .int (Int32.ofNat k), .int 3, .int (Int32.ofNat s)] (XW n vs be de sz ro co mi T B hd df) (some (.long (emX (B 6 3) k s * ro 3))) (XW n vs be de sz ro co mi T B hd df) := by
  refine PX1_brought (Nat.le_of_ble_eq_true rfl) ?_
  intro G hT hC hR
  refine mB hT 4 rfl ?_
  refine hC _ 10 [_, _, _] _ _ _ _ _ (c_emission_6_3 k s hk hs) rfl rfl (Nat.le_of_ble_eq_true rfl) rfl ?_
  refine mB hT 5 rfl ?_
  exact hR _ (by decide) _ _ _ rfl rfl
set_option maxRecDepth 20000 in
theorem c_brought_7_0 {n vs : Int32} {be de : Int64} {sz : Int32} {ro co mi : Nat → Int64} {T : Nat → Nat → Int64} {B : Nat → Nat → Nat → Int32} {hd : Nat → Nat → Int32} {df : Nat → Int32} (k s : Nat) (hk : k < 3) (hs : s < 3) : KX1_brought l D ca ad [.ref 1, .ref 16, .int (Int32.ofNat k), .int 0, .int (Int32.ofNat s)] (XW n vs be de sz ro co mi T B hd df) (some (.long (emX (B 7 0) k s * ro 0))) (XW n vs be de sz ro co mi T B hd df) := by
  refine PX1_brought (Nat.le_of_ble_eq_true rfl) ?_
  intro G hT hC hR
  refine mB hT 4 rfl ?_
  refine hC _ 16 [_, _, _] _ _ _ _ _ (c_emission_7_0 k s hk hs) rfl rfl (Nat.le_of_ble_eq_true rfl) rfl ?_
  refine mB hT 5 rfl ?_
  exact hR _ (by decide) _ _ _ rfl rfl
set_option maxRecDepth 20000 in
theorem c_brought_7_1 {n vs : Int32} {be de : Int64} {sz : Int32} {ro co mi : Nat → Int64} {T : Nat → Nat → Int64} {B : Nat → Nat → Nat → Int32} {hd : Nat → Nat → Int32} {df : Nat → Int32} (k s : Nat) (hk : k < 3) (hs : s < 3) : KX1_brought l D ca ad [.ref 1, .ref 16, .int (Int32.ofNat k), .int 1, .int (Int32.ofNat s)] (XW n vs be de sz ro co mi T B hd df) (some (.long (emX (B 7 1) k s * ro 1))) (XW n vs be de sz ro co mi T B hd df) := by
  refine PX1_brought (Nat.le_of_ble_eq_true rfl) ?_
  intro G hT hC hR
  refine mB hT 4 rfl ?_
  refine hC _ 16 [_, _, _] _ _ _ _ _ (c_emission_7_1 k s hk hs) rfl rfl (Nat.le_of_ble_eq_true rfl) rfl ?_
  refine mB hT 5 rfl ?_
  exact hR _ (by decide) _ _ _ rfl rfl
set_option maxRecDepth 20000 in
theorem c_brought_7_2 {n vs : Int32} {be de : Int64} {sz : Int32} {ro co mi : Nat → Int64} {T : Nat → Nat → Int64} {B : Nat → Nat → Nat → Int32} {hd : Nat → Nat → Int32} {df : Nat → Int32} (k s : Nat) (hk : k < 3) (hs : s < 3) : KX1_brought l D ca ad [.ref 1, .ref 16, .int (Int32.ofNat k), .int 2, .int (Int32.ofNat s)] (XW n vs be de sz ro co mi T B hd df) (some (.long (emX (B 7 2) k s * ro 2))) (XW n vs be de sz ro co mi T B hd df) := by
  refine PX1_brought (Nat.le_of_ble_eq_true rfl) ?_
  intro G hT hC hR
  refine mB hT 4 rfl ?_
  refine hC _ 16 [_, _, _] _ _ _ _ _ (c_emission_7_2 k s hk hs) rfl rfl (Nat.le_of_ble_eq_true rfl) rfl ?_
  refine mB hT 5 rfl ?_
  exact hR _ (by decide) _ _ _ rfl rfl
set_option maxRecDepth 20000 in
theorem c_brought_7_3 {n vs : Int32} {be de : Int64} {sz : Int32} {ro co mi : Nat → Int64} {T : Nat → Nat → Int64} {B : Nat → Nat → Nat → Int32} {hd : Nat → Nat → Int32} {df : Nat → Int32} (k s : Nat) (hk : k < 3) (hs : s < 3) : KX1_brought l D ca ad [.ref 1, .ref 16, .int (Int32.ofNat k), .int 3, .int (Int32.ofNat s)] (XW n vs be de sz ro co mi T B hd df) (some (.long (emX (B 7 3) k s * ro 3))) (XW n vs be de sz ro co mi T B hd df) := by
  refine PX1_brought (Nat.le_of_ble_eq_true rfl) ?_
  intro G hT hC hR
  refine mB hT 4 rfl ?_
  refine hC _ 16 [_, _, _] _ _ _ _ _ (c_emission_7_3 k s hk hs) rfl rfl (Nat.le_of_ble_eq_true rfl) rfl ?_
  refine mB hT 5 rfl ?_
  exact hR _ (by decide) _ _ _ rfl rfl
set_option maxRecDepth 20000 in
theorem c_sum_6_0 {n vs : Int32} {be de : Int64} {ro co mi : Nat → Int64} {T : Nat → Nat → Int64} {B : Nat → Nat → Nat → Int32} {hd : Nat → Nat → Int32} {df : Nat → Int32} (k s : Nat) (hk : k < 3) (hs : s < 3) : KX1_sumOfEmissions l D ca ad [.ref 1, .ref 10, .int (Int32.ofNat k), .int (Int32.ofNat s)] (XW n vs be de 0 ro co mi T B hd df) (some (.long (smX 0 (B 6) ro k s))) (XW n vs be de 0 ro co mi T B hd df) := by
  refine PX1_sumOfEmissions (Nat.le_of_ble_eq_true rfl) ?_
  intro G hT hC hR
  refine mB hT 9 rfl ?_
  exact hR _ (by decide) _ _ _ (by rfl) rfl
set_option maxRecDepth 20000 in
theorem c_sum_6_1 {n vs : Int32} {be de : Int64} {ro co mi : Nat → Int64} {T : Nat → Nat → Int64} {B : Nat → Nat → Nat → Int32} {hd : Nat → Nat → Int32} {df : Nat → Int32} (k s : Nat) (hk : k < 3) (hs : s < 3) : KX1_sumOfEmissions l D ca ad [.ref 1, .ref 10, .int (Int32.ofNat k), .int (Int32.ofNat s)] (XW n vs be de 1 ro co mi T B hd df) (some (.long (smX 1 (B 6) ro k s))) (XW n vs be de 1 ro co mi T B hd df) := by
  refine PX1_sumOfEmissions (Nat.le_of_ble_eq_true rfl) ?_
  intro G hT hC hR
  refine mB hT 15 rfl ?_
  have J0 : ∀ t0 : Nat, t0 < 3 → t0 = sdX (ro 0) s → G (34, [(6, .int 0), (4, .long 0), (0, .ref 1), (1, .ref 10), (2, .int (Int32.ofNat k)), (3, .int (Int32.ofNat s))], [.int (Int32.ofNat t0)], (XW n vs be de 1 ro co mi T B hd df)) := by
    intro t0 ht0 et0
    refine mB hT 7 rfl ?_
    refine hC _ 1 [_, _, _, _] _ _ _ _ _ (c_brought_6_0 k t0 hk ht0) rfl rfl (Nat.le_of_ble_eq_true rfl) rfl ?_
    refine mB hT 9 rfl ?_
    exact hR _ (by decide) _ _ _ (by subst et0; rfl) rfl
  refine mIf (fun h => ?_) (fun h => ?_)
  · refine mB hT 1 rfl ?_
    exact J0 s hs (if_neg (Int64.not_lt.mpr (lc_ge.mp h))).symm
  · refine mB hT 4 rfl ?_
    refine mNf rfl (congrArg (fun z => [Value.int z]) (two_sub hs)) ?_
    exact J0 (2 - s) (by omega) (if_pos (Int64.not_le.mp (fun q => h (lc_ge.mpr q)))).symm
set_option maxRecDepth 20000 in
theorem c_sum_6_2 {n vs : Int32} {be de : Int64} {ro co mi : Nat → Int64} {T : Nat → Nat → Int64} {B : Nat → Nat → Nat → Int32} {hd : Nat → Nat → Int32} {df : Nat → Int32} (k s : Nat) (hk : k < 3) (hs : s < 3) : KX1_sumOfEmissions l D ca ad [.ref 1, .ref 10, .int (Int32.ofNat k), .int (Int32.ofNat s)] (XW n vs be de 2 ro co mi T B hd df) (some (.long (smX 2 (B 6) ro k s))) (XW n vs be de 2 ro co mi T B hd df) := by
  refine PX1_sumOfEmissions (Nat.le_of_ble_eq_true rfl) ?_
  intro G hT hC hR
  refine mB hT 15 rfl ?_
  have J0 : ∀ t0 : Nat, t0 < 3 → t0 = sdX (ro 0) s → G (34, [(6, .int 0), (4, .long 0), (0, .ref 1), (1, .ref 10), (2, .int (Int32.ofNat k)), (3, .int (Int32.ofNat s))], [.int (Int32.ofNat t0)], (XW n vs be de 2 ro co mi T B hd df)) := by
    intro t0 ht0 et0
    refine mB hT 7 rfl ?_
    refine hC _ 1 [_, _, _, _] _ _ _ _ _ (c_brought_6_0 k t0 hk ht0) rfl rfl (Nat.le_of_ble_eq_true rfl) rfl ?_
    refine mB hT 15 rfl ?_
    have J1 : ∀ t1 : Nat, t1 < 3 → t1 = sdX (ro 1) s → G (34, [(6, .int 1), (4, .long (0 + (emX (B 6 0) k t0 * ro 0))), (7, .int (Int32.ofNat t0)), (0, .ref 1), (1, .ref 10), (2, .int (Int32.ofNat k)), (3, .int (Int32.ofNat s))], [.int (Int32.ofNat t1)], (XW n vs be de 2 ro co mi T B hd df)) := by
      intro t1 ht1 et1
      refine mB hT 7 rfl ?_
      refine hC _ 1 [_, _, _, _] _ _ _ _ _ (c_brought_6_1 k t1 hk ht1) rfl rfl (Nat.le_of_ble_eq_true rfl) rfl ?_
      refine mB hT 9 rfl ?_
      exact hR _ (by decide) _ _ _ (by subst et0 et1; rfl) rfl
    refine mIf (fun h => ?_) (fun h => ?_)
    · refine mB hT 1 rfl ?_
      exact J1 s hs (if_neg (Int64.not_lt.mpr (lc_ge.mp h))).symm
    · refine mB hT 4 rfl ?_
      refine mNf rfl (congrArg (fun z => [Value.int z]) (two_sub hs)) ?_
      exact J1 (2 - s) (by omega) (if_pos (Int64.not_le.mp (fun q => h (lc_ge.mpr q)))).symm
  refine mIf (fun h => ?_) (fun h => ?_)
  · refine mB hT 1 rfl ?_
    exact J0 s hs (if_neg (Int64.not_lt.mpr (lc_ge.mp h))).symm
  · refine mB hT 4 rfl ?_
    refine mNf rfl (congrArg (fun z => [Value.int z]) (two_sub hs)) ?_
    exact J0 (2 - s) (by omega) (if_pos (Int64.not_le.mp (fun q => h (lc_ge.mpr q)))).symm
set_option maxRecDepth 20000 in
theorem c_sum_6_3 {n vs : Int32} {be de : Int64} {ro co mi : Nat → Int64} {T : Nat → Nat → Int64} {B : Nat → Nat → Nat → Int32} {hd : Nat → Nat → Int32} {df : Nat → Int32} (k s : Nat) (hk : k < 3) (hs : s < 3) : KX1_sumOfEmissions l D ca ad [.ref 1, .ref 10, .int (Int32.ofNat k), .int (Int32.ofNat s)] (XW n vs be de 3 ro co mi T B hd df) (some (.long (smX 3 (B 6) ro k s))) (XW n vs be de 3 ro co mi T B hd df) := by
  refine PX1_sumOfEmissions (Nat.le_of_ble_eq_true rfl) ?_
  intro G hT hC hR
  refine mB hT 15 rfl ?_
  have J0 : ∀ t0 : Nat, t0 < 3 → t0 = sdX (ro 0) s → G (34, [(6, .int 0), (4, .long 0), (0, .ref 1), (1, .ref 10), (2, .int (Int32.ofNat k)), (3, .int (Int32.ofNat s))], [.int (Int32.ofNat t0)], (XW n vs be de 3 ro co mi T B hd df)) := by
    intro t0 ht0 et0
    refine mB hT 7 rfl ?_
    refine hC _ 1 [_, _, _, _] _ _ _ _ _ (c_brought_6_0 k t0 hk ht0) rfl rfl (Nat.le_of_ble_eq_true rfl) rfl ?_
    refine mB hT 15 rfl ?_
    have J1 : ∀ t1 : Nat, t1 < 3 → t1 = sdX (ro 1) s → G (34, [(6, .int 1), (4, .long (0 + (emX (B 6 0) k t0 * ro 0))), (7, .int (Int32.ofNat t0)), (0, .ref 1), (1, .ref 10), (2, .int (Int32.ofNat k)), (3, .int (Int32.ofNat s))], [.int (Int32.ofNat t1)], (XW n vs be de 3 ro co mi T B hd df)) := by
      intro t1 ht1 et1
      refine mB hT 7 rfl ?_
      refine hC _ 1 [_, _, _, _] _ _ _ _ _ (c_brought_6_1 k t1 hk ht1) rfl rfl (Nat.le_of_ble_eq_true rfl) rfl ?_
      refine mB hT 15 rfl ?_
      have J2 : ∀ t2 : Nat, t2 < 3 → t2 = sdX (ro 2) s → G (34, [(6, .int 2), (4, .long ((0 + (emX (B 6 0) k t0 * ro 0)) + (emX (B 6 1) k t1 * ro 1))), (7, .int (Int32.ofNat t1)), (0, .ref 1), (1, .ref 10), (2, .int (Int32.ofNat k)), (3, .int (Int32.ofNat s))], [.int (Int32.ofNat t2)], (XW n vs be de 3 ro co mi T B hd df)) := by
        intro t2 ht2 et2
        refine mB hT 7 rfl ?_
        refine hC _ 1 [_, _, _, _] _ _ _ _ _ (c_brought_6_2 k t2 hk ht2) rfl rfl (Nat.le_of_ble_eq_true rfl) rfl ?_
        refine mB hT 9 rfl ?_
        exact hR _ (by decide) _ _ _ (by subst et0 et1 et2; rfl) rfl
      refine mIf (fun h => ?_) (fun h => ?_)
      · refine mB hT 1 rfl ?_
        exact J2 s hs (if_neg (Int64.not_lt.mpr (lc_ge.mp h))).symm
      · refine mB hT 4 rfl ?_
        refine mNf rfl (congrArg (fun z => [Value.int z]) (two_sub hs)) ?_
        exact J2 (2 - s) (by omega) (if_pos (Int64.not_le.mp (fun q => h (lc_ge.mpr q)))).symm
    refine mIf (fun h => ?_) (fun h => ?_)
    · refine mB hT 1 rfl ?_
      exact J1 s hs (if_neg (Int64.not_lt.mpr (lc_ge.mp h))).symm
    · refine mB hT 4 rfl ?_
      refine mNf rfl (congrArg (fun z => [Value.int z]) (two_sub hs)) ?_
      exact J1 (2 - s) (by omega) (if_pos (Int64.not_le.mp (fun q => h (lc_ge.mpr q)))).symm
  refine mIf (fun h => ?_) (fun h => ?_)
  · refine mB hT 1 rfl ?_
    exact J0 s hs (if_neg (Int64.not_lt.mpr (lc_ge.mp h))).symm
  · refine mB hT 4 rfl ?_
    refine mNf rfl (congrArg (fun z => [Value.int z]) (two_sub hs)) ?_
    exact J0 (2 - s) (by omega) (if_pos (Int64.not_le.mp (fun q => h (lc_ge.mpr q)))).symm
set_option maxRecDepth 20000 in
theorem c_sum_6_4 {n vs : Int32} {be de : Int64} {ro co mi : Nat → Int64} {T : Nat → Nat → Int64} {B : Nat → Nat → Nat → Int32} {hd : Nat → Nat → Int32} {df : Nat → Int32} (k s : Nat) (hk : k < 3) (hs : s < 3) : KX1_sumOfEmissions l D ca ad [.ref 1, .ref 10, .int (Int32.ofNat k), .int (Int32.ofNat s)] (XW n vs be de 4 ro co mi T B hd df) (some (.long (smX 4 (B 6) ro k s))) (XW n vs be de 4 ro co mi T B hd df) := by
  refine PX1_sumOfEmissions (Nat.le_of_ble_eq_true rfl) ?_
  intro G hT hC hR
  refine mB hT 15 rfl ?_
  have J0 : ∀ t0 : Nat, t0 < 3 → t0 = sdX (ro 0) s → G (34, [(6, .int 0), (4, .long 0), (0, .ref 1), (1, .ref 10), (2, .int (Int32.ofNat k)), (3, .int (Int32.ofNat s))], [.int (Int32.ofNat t0)], (XW n vs be de 4 ro co mi T B hd df)) := by
    intro t0 ht0 et0
    refine mB hT 7 rfl ?_
    refine hC _ 1 [_, _, _, _] _ _ _ _ _ (c_brought_6_0 k t0 hk ht0) rfl rfl (Nat.le_of_ble_eq_true rfl) rfl ?_
    refine mB hT 15 rfl ?_
    have J1 : ∀ t1 : Nat, t1 < 3 → t1 = sdX (ro 1) s → G (34, [(6, .int 1), (4, .long (0 + (emX (B 6 0) k t0 * ro 0))), (7, .int (Int32.ofNat t0)), (0, .ref 1), (1, .ref 10), (2, .int (Int32.ofNat k)), (3, .int (Int32.ofNat s))], [.int (Int32.ofNat t1)], (XW n vs be de 4 ro co mi T B hd df)) := by
      intro t1 ht1 et1
      refine mB hT 7 rfl ?_
      refine hC _ 1 [_, _, _, _] _ _ _ _ _ (c_brought_6_1 k t1 hk ht1) rfl rfl (Nat.le_of_ble_eq_true rfl) rfl ?_
      refine mB hT 15 rfl ?_
      have J2 : ∀ t2 : Nat, t2 < 3 → t2 = sdX (ro 2) s → G (34, [(6, .int 2), (4, .long ((0 + (emX (B 6 0) k t0 * ro 0)) + (emX (B 6 1) k t1 * ro 1))), (7, .int (Int32.ofNat t1)), (0, .ref 1), (1, .ref 10), (2, .int (Int32.ofNat k)), (3, .int (Int32.ofNat s))], [.int (Int32.ofNat t2)], (XW n vs be de 4 ro co mi T B hd df)) := by
        intro t2 ht2 et2
        refine mB hT 7 rfl ?_
        refine hC _ 1 [_, _, _, _] _ _ _ _ _ (c_brought_6_2 k t2 hk ht2) rfl rfl (Nat.le_of_ble_eq_true rfl) rfl ?_
        refine mB hT 15 rfl ?_
        have J3 : ∀ t3 : Nat, t3 < 3 → t3 = sdX (ro 3) s → G (34, [(6, .int 3), (4, .long (((0 + (emX (B 6 0) k t0 * ro 0)) + (emX (B 6 1) k t1 * ro 1)) + (emX (B 6 2) k t2 * ro 2))), (7, .int (Int32.ofNat t2)), (0, .ref 1), (1, .ref 10), (2, .int (Int32.ofNat k)), (3, .int (Int32.ofNat s))], [.int (Int32.ofNat t3)], (XW n vs be de 4 ro co mi T B hd df)) := by
          intro t3 ht3 et3
          refine mB hT 7 rfl ?_
          refine hC _ 1 [_, _, _, _] _ _ _ _ _ (c_brought_6_3 k t3 hk ht3) rfl rfl (Nat.le_of_ble_eq_true rfl) rfl ?_
          refine mB hT 9 rfl ?_
          exact hR _ (by decide) _ _ _ (by subst et0 et1 et2 et3; rfl) rfl
        refine mIf (fun h => ?_) (fun h => ?_)
        · refine mB hT 1 rfl ?_
          exact J3 s hs (if_neg (Int64.not_lt.mpr (lc_ge.mp h))).symm
        · refine mB hT 4 rfl ?_
          refine mNf rfl (congrArg (fun z => [Value.int z]) (two_sub hs)) ?_
          exact J3 (2 - s) (by omega) (if_pos (Int64.not_le.mp (fun q => h (lc_ge.mpr q)))).symm
      refine mIf (fun h => ?_) (fun h => ?_)
      · refine mB hT 1 rfl ?_
        exact J2 s hs (if_neg (Int64.not_lt.mpr (lc_ge.mp h))).symm
      · refine mB hT 4 rfl ?_
        refine mNf rfl (congrArg (fun z => [Value.int z]) (two_sub hs)) ?_
        exact J2 (2 - s) (by omega) (if_pos (Int64.not_le.mp (fun q => h (lc_ge.mpr q)))).symm
    refine mIf (fun h => ?_) (fun h => ?_)
    · refine mB hT 1 rfl ?_
      exact J1 s hs (if_neg (Int64.not_lt.mpr (lc_ge.mp h))).symm
    · refine mB hT 4 rfl ?_
      refine mNf rfl (congrArg (fun z => [Value.int z]) (two_sub hs)) ?_
      exact J1 (2 - s) (by omega) (if_pos (Int64.not_le.mp (fun q => h (lc_ge.mpr q)))).symm
  refine mIf (fun h => ?_) (fun h => ?_)
  · refine mB hT 1 rfl ?_
    exact J0 s hs (if_neg (Int64.not_lt.mpr (lc_ge.mp h))).symm
  · refine mB hT 4 rfl ?_
    refine mNf rfl (congrArg (fun z => [Value.int z]) (two_sub hs)) ?_
    exact J0 (2 - s) (by omega) (if_pos (Int64.not_le.mp (fun q => h (lc_ge.mpr q)))).symm
set_option maxRecDepth 20000 in
theorem c_sum_7_0 {n vs : Int32} {be de : Int64} {ro co mi : Nat → Int64} {T : Nat → Nat → Int64} {B : Nat → Nat → Nat → Int32} {hd : Nat → Nat → Int32} {df : Nat → Int32} (k s : Nat) (hk : k < 3) (hs : s < 3) : KX1_sumOfEmissions l D ca ad [.ref 1, .ref 16, .int (Int32.ofNat k), .int (Int32.ofNat s)] (XW n vs be de 0 ro co mi T B hd df) (some (.long (smX 0 (B 7) ro k s))) (XW n vs be de 0 ro co mi T B hd df) := by
  refine PX1_sumOfEmissions (Nat.le_of_ble_eq_true rfl) ?_
  intro G hT hC hR
  refine mB hT 9 rfl ?_
  exact hR _ (by decide) _ _ _ (by rfl) rfl
set_option maxRecDepth 20000 in
theorem c_sum_7_1 {n vs : Int32} {be de : Int64} {ro co mi : Nat → Int64} {T : Nat → Nat → Int64} {B : Nat → Nat → Nat → Int32} {hd : Nat → Nat → Int32} {df : Nat → Int32} (k s : Nat) (hk : k < 3) (hs : s < 3) : KX1_sumOfEmissions l D ca ad [.ref 1, .ref 16, .int (Int32.ofNat k), .int (Int32.ofNat s)] (XW n vs be de 1 ro co mi T B hd df) (some (.long (smX 1 (B 7) ro k s))) (XW n vs be de 1 ro co mi T B hd df) := by
  refine PX1_sumOfEmissions (Nat.le_of_ble_eq_true rfl) ?_
  intro G hT hC hR
  refine mB hT 15 rfl ?_
  have J0 : ∀ t0 : Nat, t0 < 3 → t0 = sdX (ro 0) s → G (34, [(6, .int 0), (4, .long 0), (0, .ref 1), (1, .ref 16), (2, .int (Int32.ofNat k)), (3, .int (Int32.ofNat s))], [.int (Int32.ofNat t0)], (XW n vs be de 1 ro co mi T B hd df)) := by
    intro t0 ht0 et0
    refine mB hT 7 rfl ?_
    refine hC _ 1 [_, _, _, _] _ _ _ _ _ (c_brought_7_0 k t0 hk ht0) rfl rfl (Nat.le_of_ble_eq_true rfl) rfl ?_
    refine mB hT 9 rfl ?_
    exact hR _ (by decide) _ _ _ (by subst et0; rfl) rfl
  refine mIf (fun h => ?_) (fun h => ?_)
  · refine mB hT 1 rfl ?_
    exact J0 s hs (if_neg (Int64.not_lt.mpr (lc_ge.mp h))).symm
  · refine mB hT 4 rfl ?_
    refine mNf rfl (congrArg (fun z => [Value.int z]) (two_sub hs)) ?_
    exact J0 (2 - s) (by omega) (if_pos (Int64.not_le.mp (fun q => h (lc_ge.mpr q)))).symm
set_option maxRecDepth 20000 in
theorem c_sum_7_2 {n vs : Int32} {be de : Int64} {ro co mi : Nat → Int64} {T : Nat → Nat → Int64} {B : Nat → Nat → Nat → Int32} {hd : Nat → Nat → Int32} {df : Nat → Int32} (k s : Nat) (hk : k < 3) (hs : s < 3) : KX1_sumOfEmissions l D ca ad [.ref 1, .ref 16, .int (Int32.ofNat k), .int (Int32.ofNat s)] (XW n vs be de 2 ro co mi T B hd df) (some (.long (smX 2 (B 7) ro k s))) (XW n vs be de 2 ro co mi T B hd df) := by
  refine PX1_sumOfEmissions (Nat.le_of_ble_eq_true rfl) ?_
  intro G hT hC hR
  refine mB hT 15 rfl ?_
  have J0 : ∀ t0 : Nat, t0 < 3 → t0 = sdX (ro 0) s → G (34, [(6, .int 0), (4, .long 0), (0, .ref 1), (1, .ref 16), (2, .int (Int32.ofNat k)), (3, .int (Int32.ofNat s))], [.int (Int32.ofNat t0)], (XW n vs be de 2 ro co mi T B hd df)) := by
    intro t0 ht0 et0
    refine mB hT 7 rfl ?_
    refine hC _ 1 [_, _, _, _] _ _ _ _ _ (c_brought_7_0 k t0 hk ht0) rfl rfl (Nat.le_of_ble_eq_true rfl) rfl ?_
    refine mB hT 15 rfl ?_
    have J1 : ∀ t1 : Nat, t1 < 3 → t1 = sdX (ro 1) s → G (34, [(6, .int 1), (4, .long (0 + (emX (B 7 0) k t0 * ro 0))), (7, .int (Int32.ofNat t0)), (0, .ref 1), (1, .ref 16), (2, .int (Int32.ofNat k)), (3, .int (Int32.ofNat s))], [.int (Int32.ofNat t1)], (XW n vs be de 2 ro co mi T B hd df)) := by
      intro t1 ht1 et1
      refine mB hT 7 rfl ?_
      refine hC _ 1 [_, _, _, _] _ _ _ _ _ (c_brought_7_1 k t1 hk ht1) rfl rfl (Nat.le_of_ble_eq_true rfl) rfl ?_
      refine mB hT 9 rfl ?_
      exact hR _ (by decide) _ _ _ (by subst et0 et1; rfl) rfl
    refine mIf (fun h => ?_) (fun h => ?_)
    · refine mB hT 1 rfl ?_
      exact J1 s hs (if_neg (Int64.not_lt.mpr (lc_ge.mp h))).symm
    · refine mB hT 4 rfl ?_
      refine mNf rfl (congrArg (fun z => [Value.int z]) (two_sub hs)) ?_
      exact J1 (2 - s) (by omega) (if_pos (Int64.not_le.mp (fun q => h (lc_ge.mpr q)))).symm
  refine mIf (fun h => ?_) (fun h => ?_)
  · refine mB hT 1 rfl ?_
    exact J0 s hs (if_neg (Int64.not_lt.mpr (lc_ge.mp h))).symm
  · refine mB hT 4 rfl ?_
    refine mNf rfl (congrArg (fun z => [Value.int z]) (two_sub hs)) ?_
    exact J0 (2 - s) (by omega) (if_pos (Int64.not_le.mp (fun q => h (lc_ge.mpr q)))).symm
set_option maxRecDepth 20000 in
theorem c_sum_7_3 {n vs : Int32} {be de : Int64} {ro co mi : Nat → Int64} {T : Nat → Nat → Int64} {B : Nat → Nat → Nat → Int32} {hd : Nat → Nat → Int32} {df : Nat → Int32} (k s : Nat) (hk : k < 3) (hs : s < 3) : KX1_sumOfEmissions l D ca ad [.ref 1, .ref 16, .int (Int32.ofNat k), .int (Int32.ofNat s)] (XW n vs be de 3 ro co mi T B hd df) (some (.long (smX 3 (B 7) ro k s))) (XW n vs be de 3 ro co mi T B hd df) := by
  refine PX1_sumOfEmissions (Nat.le_of_ble_eq_true rfl) ?_
  intro G hT hC hR
  refine mB hT 15 rfl ?_
  have J0 : ∀ t0 : Nat, t0 < 3 → t0 = sdX (ro 0) s → G (34, [(6, .int 0), (4, .long 0), (0, .ref 1), (1, .ref 16), (2, .int (Int32.ofNat k)), (3, .int (Int32.ofNat s))], [.int (Int32.ofNat t0)], (XW n vs be de 3 ro co mi T B hd df)) := by
    intro t0 ht0 et0
    refine mB hT 7 rfl ?_
    refine hC _ 1 [_, _, _, _] _ _ _ _ _ (c_brought_7_0 k t0 hk ht0) rfl rfl (Nat.le_of_ble_eq_true rfl) rfl ?_
    refine mB hT 15 rfl ?_
    have J1 : ∀ t1 : Nat, t1 < 3 → t1 = sdX (ro 1) s → G (34, [(6, .int 1), (4, .long (0 + (emX (B 7 0) k t0 * ro 0))), (7, .int (Int32.ofNat t0)), (0, .ref 1), (1, .ref 16), (2, .int (Int32.ofNat k)), (3, .int (Int32.ofNat s))], [.int (Int32.ofNat t1)], (XW n vs be de 3 ro co mi T B hd df)) := by
      intro t1 ht1 et1
      refine mB hT 7 rfl ?_
      refine hC _ 1 [_, _, _, _] _ _ _ _ _ (c_brought_7_1 k t1 hk ht1) rfl rfl (Nat.le_of_ble_eq_true rfl) rfl ?_
      refine mB hT 15 rfl ?_
      have J2 : ∀ t2 : Nat, t2 < 3 → t2 = sdX (ro 2) s → G (34, [(6, .int 2), (4, .long ((0 + (emX (B 7 0) k t0 * ro 0)) + (emX (B 7 1) k t1 * ro 1))), (7, .int (Int32.ofNat t1)), (0, .ref 1), (1, .ref 16), (2, .int (Int32.ofNat k)), (3, .int (Int32.ofNat s))], [.int (Int32.ofNat t2)], (XW n vs be de 3 ro co mi T B hd df)) := by
        intro t2 ht2 et2
        refine mB hT 7 rfl ?_
        refine hC _ 1 [_, _, _, _] _ _ _ _ _ (c_brought_7_2 k t2 hk ht2) rfl rfl (Nat.le_of_ble_eq_true rfl) rfl ?_
        refine mB hT 9 rfl ?_
        exact hR _ (by decide) _ _ _ (by subst et0 et1 et2; rfl) rfl
      refine mIf (fun h => ?_) (fun h => ?_)
      · refine mB hT 1 rfl ?_
        exact J2 s hs (if_neg (Int64.not_lt.mpr (lc_ge.mp h))).symm
      · refine mB hT 4 rfl ?_
        refine mNf rfl (congrArg (fun z => [Value.int z]) (two_sub hs)) ?_
        exact J2 (2 - s) (by omega) (if_pos (Int64.not_le.mp (fun q => h (lc_ge.mpr q)))).symm
    refine mIf (fun h => ?_) (fun h => ?_)
    · refine mB hT 1 rfl ?_
      exact J1 s hs (if_neg (Int64.not_lt.mpr (lc_ge.mp h))).symm
    · refine mB hT 4 rfl ?_
      refine mNf rfl (congrArg (fun z => [Value.int z]) (two_sub hs)) ?_
      exact J1 (2 - s) (by omega) (if_pos (Int64.not_le.mp (fun q => h (lc_ge.mpr q)))).symm
  refine mIf (fun h => ?_) (fun h => ?_)
  · refine mB hT 1 rfl ?_
    exact J0 s hs (if_neg (Int64.not_lt.mpr (lc_ge.mp h))).symm
  · refine mB hT 4 rfl ?_
    refine mNf rfl (congrArg (fun z => [Value.int z]) (two_sub hs)) ?_
    exact J0 (2 - s) (by omega) (if_pos (Int64.not_le.mp (fun q => h (lc_ge.mpr q)))).symm
set_option maxRecDepth 20000 in
theorem c_sum_7_4 {n vs : Int32} {be de : Int64} {ro co mi : Nat → Int64} {T : Nat → Nat → Int64} {B : Nat → Nat → Nat → Int32} {hd : Nat → Nat → Int32} {df : Nat → Int32} (k s : Nat) (hk : k < 3) (hs : s < 3) : KX1_sumOfEmissions l D ca ad [.ref 1, .ref 16, .int (Int32.ofNat k), .int (Int32.ofNat s)] (XW n vs be de 4 ro co mi T B hd df) (some (.long (smX 4 (B 7) ro k s))) (XW n vs be de 4 ro co mi T B hd df) := by
  refine PX1_sumOfEmissions (Nat.le_of_ble_eq_true rfl) ?_
  intro G hT hC hR
  refine mB hT 15 rfl ?_
  have J0 : ∀ t0 : Nat, t0 < 3 → t0 = sdX (ro 0) s → G (34, [(6, .int 0), (4, .long 0), (0, .ref 1), (1, .ref 16), (2, .int (Int32.ofNat k)), (3, .int (Int32.ofNat s))], [.int (Int32.ofNat t0)], (XW n vs be de 4 ro co mi T B hd df)) := by
    intro t0 ht0 et0
    refine mB hT 7 rfl ?_
    refine hC _ 1 [_, _, _, _] _ _ _ _ _ (c_brought_7_0 k t0 hk ht0) rfl rfl (Nat.le_of_ble_eq_true rfl) rfl ?_
    refine mB hT 15 rfl ?_
    have J1 : ∀ t1 : Nat, t1 < 3 → t1 = sdX (ro 1) s → G (34, [(6, .int 1), (4, .long (0 + (emX (B 7 0) k t0 * ro 0))), (7, .int (Int32.ofNat t0)), (0, .ref 1), (1, .ref 16), (2, .int (Int32.ofNat k)), (3, .int (Int32.ofNat s))], [.int (Int32.ofNat t1)], (XW n vs be de 4 ro co mi T B hd df)) := by
      intro t1 ht1 et1
      refine mB hT 7 rfl ?_
      refine hC _ 1 [_, _, _, _] _ _ _ _ _ (c_brought_7_1 k t1 hk ht1) rfl rfl (Nat.le_of_ble_eq_true rfl) rfl ?_
      refine mB hT 15 rfl ?_
      have J2 : ∀ t2 : Nat, t2 < 3 → t2 = sdX (ro 2) s → G (34, [(6, .int 2), (4, .long ((0 + (emX (B 7 0) k t0 * ro 0)) + (emX (B 7 1) k t1 * ro 1))), (7, .int (Int32.ofNat t1)), (0, .ref 1), (1, .ref 16), (2, .int (Int32.ofNat k)), (3, .int (Int32.ofNat s))], [.int (Int32.ofNat t2)], (XW n vs be de 4 ro co mi T B hd df)) := by
        intro t2 ht2 et2
        refine mB hT 7 rfl ?_
        refine hC _ 1 [_, _, _, _] _ _ _ _ _ (c_brought_7_2 k t2 hk ht2) rfl rfl (Nat.le_of_ble_eq_true rfl) rfl ?_
        refine mB hT 15 rfl ?_
        have J3 : ∀ t3 : Nat, t3 < 3 → t3 = sdX (ro 3) s → G (34, [(6, .int 3), (4, .long (((0 + (emX (B 7 0) k t0 * ro 0)) + (emX (B 7 1) k t1 * ro 1)) + (emX (B 7 2) k t2 * ro 2))), (7, .int (Int32.ofNat t2)), (0, .ref 1), (1, .ref 16), (2, .int (Int32.ofNat k)), (3, .int (Int32.ofNat s))], [.int (Int32.ofNat t3)], (XW n vs be de 4 ro co mi T B hd df)) := by
          intro t3 ht3 et3
          refine mB hT 7 rfl ?_
          refine hC _ 1 [_, _, _, _] _ _ _ _ _ (c_brought_7_3 k t3 hk ht3) rfl rfl (Nat.le_of_ble_eq_true rfl) rfl ?_
          refine mB hT 9 rfl ?_
          exact hR _ (by decide) _ _ _ (by subst et0 et1 et2 et3; rfl) rfl
        refine mIf (fun h => ?_) (fun h => ?_)
        · refine mB hT 1 rfl ?_
          exact J3 s hs (if_neg (Int64.not_lt.mpr (lc_ge.mp h))).symm
        · refine mB hT 4 rfl ?_
          refine mNf rfl (congrArg (fun z => [Value.int z]) (two_sub hs)) ?_
          exact J3 (2 - s) (by omega) (if_pos (Int64.not_le.mp (fun q => h (lc_ge.mpr q)))).symm
      refine mIf (fun h => ?_) (fun h => ?_)
      · refine mB hT 1 rfl ?_
        exact J2 s hs (if_neg (Int64.not_lt.mpr (lc_ge.mp h))).symm
      · refine mB hT 4 rfl ?_
        refine mNf rfl (congrArg (fun z => [Value.int z]) (two_sub hs)) ?_
        exact J2 (2 - s) (by omega) (if_pos (Int64.not_le.mp (fun q => h (lc_ge.mpr q)))).symm
    refine mIf (fun h => ?_) (fun h => ?_)
    · refine mB hT 1 rfl ?_
      exact J1 s hs (if_neg (Int64.not_lt.mpr (lc_ge.mp h))).symm
    · refine mB hT 4 rfl ?_
      refine mNf rfl (congrArg (fun z => [Value.int z]) (two_sub hs)) ?_
      exact J1 (2 - s) (by omega) (if_pos (Int64.not_le.mp (fun q => h (lc_ge.mpr q)))).symm
  refine mIf (fun h => ?_) (fun h => ?_)
  · refine mB hT 1 rfl ?_
    exact J0 s hs (if_neg (Int64.not_lt.mpr (lc_ge.mp h))).symm
  · refine mB hT 4 rfl ?_
    refine mNf rfl (congrArg (fun z => [Value.int z]) (two_sub hs)) ?_
    exact J0 (2 - s) (by omega) (if_pos (Int64.not_le.mp (fun q => h (lc_ge.mpr q)))).symm
set_option maxRecDepth 20000 in
theorem c_isWithin_t {w : mW} {x a b : Int32} (h1 : a ≤ x) (h2 : x ≤ b) : KX2_isWithin l D ca ad [.int x, .int a, .int b] w (some (.int 1)) w := by
  refine PX2_isWithin (Nat.le_of_ble_eq_true rfl) (Or.inr rfl) ?_
  intro G hT hC hR
  refine mB hT 3 rfl ?_
  refine mIf (fun hp => absurd hp (Int32.not_lt.mpr h1)) (fun _ => ?_)
  refine mB hT 3 rfl ?_
  refine mIf (fun hp => absurd hp (Int32.not_lt.mpr h2)) (fun _ => ?_)
  refine mB hT 2 rfl ?_
  exact hR _ (by decide) _ _ _ rfl rfl
set_option maxRecDepth 20000 in
theorem c_isWithin_f {w : mW} {x a b : Int32} (hf : ¬ (a ≤ x ∧ x ≤ b)) : KX2_isWithin l D ca ad [.int x, .int a, .int b] w (some (.int 0)) w := by
  refine PX2_isWithin (Nat.le_of_ble_eq_true rfl) (Or.inl rfl) ?_
  intro G hT hC hR
  refine mB hT 3 rfl ?_
  refine mIf (fun h1 => ?_) (fun h1 => ?_)
  · refine mB hT 1 rfl ?_
    exact hR _ (by decide) _ _ _ rfl rfl
  · refine mB hT 3 rfl ?_
    refine mIf (fun h2 => ?_) (fun h2 => ?_)
    · refine mB hT 1 rfl ?_
      exact hR _ (by decide) _ _ _ rfl rfl
    · refine mB hT 2 rfl ?_
      exact absurd (⟨Int32.not_lt.mp h1, Int32.not_lt.mp h2⟩ : a ≤ x ∧ x ≤ b) hf
set_option maxRecDepth 20000 in
theorem c_isMaking_t {n : Nat} {vs : Int32} {be de : Int64} {sz : Int32} {ro co mi : Nat → Int64} {T : Nat → Nat → Int64} {B : Nat → Nat → Nat → Int32} {hd : Nat → Nat → Int32} {df : Nat → Int32}  {i : Nat} (hi : i < n) (hn : n ≤ 4) : KX2_isMaking l D ca ad [.ref 0, .int (Int32.ofNat i)] (XW (Int32.ofNat n) vs be de sz ro co mi T B hd df) (some (.int 1)) (XW (Int32.ofNat n) vs be de sz ro co mi T B hd df) := by
  refine PX2_isMaking (Nat.le_of_ble_eq_true rfl) (Or.inr rfl) ?_
  intro G hT hC hR
  refine mB hT 2 rfl ?_
  refine mIf (fun hp => absurd hp (ofNat_nneg (by omega))) (fun _ => ?_)
  refine mB hT 4 rfl ?_
  refine mIf (fun hp => absurd hp (ofNat_nle hi (by omega))) (fun _ => ?_)
  refine mB hT 2 rfl ?_
  exact hR _ (by decide) _ _ _ rfl rfl
set_option maxRecDepth 20000 in
theorem c_isMaking_f {n : Nat} {vs : Int32} {be de : Int64} {sz : Int32} {ro co mi : Nat → Int64} {T : Nat → Nat → Int64} {B : Nat → Nat → Nat → Int32} {hd : Nat → Nat → Int32} {df : Nat → Int32}  {i : Int32} (hf : ¬ (0 ≤ i ∧ i < Int32.ofNat n)) : KX2_isMaking l D ca ad [.ref 0, .int i] (XW (Int32.ofNat n) vs be de sz ro co mi T B hd df) (some (.int 0)) (XW (Int32.ofNat n) vs be de sz ro co mi T B hd df) := by
  refine PX2_isMaking (Nat.le_of_ble_eq_true rfl) (Or.inl rfl) ?_
  intro G hT hC hR
  refine mB hT 2 rfl ?_
  refine mIf (fun h1 => ?_) (fun h1 => ?_)
  · refine mB hT 1 rfl ?_
    exact hR _ (by decide) _ _ _ rfl rfl
  · refine mB hT 4 rfl ?_
    refine mIf (fun h2 => ?_) (fun h2 => ?_)
    · refine mB hT 1 rfl ?_
      exact hR _ (by decide) _ _ _ rfl rfl
    · refine mB hT 2 rfl ?_
      exact absurd (⟨Int32.not_lt.mp h1, Int32.not_le.mp h2⟩ : 0 ≤ i ∧ i < Int32.ofNat n) hf
set_option maxRecDepth 20000 in
theorem c_isVersion_t {n : Int32} {vs : Nat} {be de : Int64} {sz : Int32} {ro co mi : Nat → Int64} {T : Nat → Nat → Int64} {B : Nat → Nat → Nat → Int32} {hd : Nat → Nat → Int32} {df : Nat → Int32}  {i : Nat} (hi : i < vs) (hn : vs ≤ 6) : KX2_isVersion l D ca ad [.ref 0, .int (Int32.ofNat i)] (XW n (Int32.ofNat vs) be de sz ro co mi T B hd df) (some (.int 1)) (XW n (Int32.ofNat vs) be de sz ro co mi T B hd df) := by
  refine PX2_isVersion (Nat.le_of_ble_eq_true rfl) (Or.inr rfl) ?_
  intro G hT hC hR
  refine mB hT 2 rfl ?_
  refine mIf (fun hp => absurd hp (ofNat_nneg (by omega))) (fun _ => ?_)
  refine mB hT 4 rfl ?_
  refine mIf (fun hp => absurd hp (ofNat_nle hi (by omega))) (fun _ => ?_)
  refine mB hT 2 rfl ?_
  exact hR _ (by decide) _ _ _ rfl rfl
set_option maxRecDepth 20000 in
theorem c_isVersion_f {n : Int32} {vs : Nat} {be de : Int64} {sz : Int32} {ro co mi : Nat → Int64} {T : Nat → Nat → Int64} {B : Nat → Nat → Nat → Int32} {hd : Nat → Nat → Int32} {df : Nat → Int32}  {i : Int32} (hf : ¬ (0 ≤ i ∧ i < Int32.ofNat vs)) : KX2_isVersion l D ca ad [.ref 0, .int i] (XW n (Int32.ofNat vs) be de sz ro co mi T B hd df) (some (.int 0)) (XW n (Int32.ofNat vs) be de sz ro co mi T B hd df) := by
  refine PX2_isVersion (Nat.le_of_ble_eq_true rfl) (Or.inl rfl) ?_
  intro G hT hC hR
  refine mB hT 2 rfl ?_
  refine mIf (fun h1 => ?_) (fun h1 => ?_)
  · refine mB hT 1 rfl ?_
    exact hR _ (by decide) _ _ _ rfl rfl
  · refine mB hT 4 rfl ?_
    refine mIf (fun h2 => ?_) (fun h2 => ?_)
    · refine mB hT 1 rfl ?_
      exact hR _ (by decide) _ _ _ rfl rfl
    · refine mB hT 2 rfl ?_
      exact absurd (⟨Int32.not_lt.mp h1, Int32.not_le.mp h2⟩ : 0 ≤ i ∧ i < Int32.ofNat vs) hf
set_option maxRecDepth 20000 in
theorem c_isBasket_t {w : mW} {i : Nat} (hi : i < 4) : KX2_isBasket l D ca ad [.int (Int32.ofNat i)] w (some (.int 1)) w := by
  refine PX2_isBasket (Nat.le_of_ble_eq_true rfl) (Or.inr rfl) ?_
  intro G hT hC hR
  refine mB hT 2 rfl ?_
  refine mIf (fun hp => absurd hp (ofNat_nneg (by omega))) (fun _ => ?_)
  refine mB hT 3 rfl ?_
  refine mIf (fun hp => absurd hp (ofNat_nle (n := 4) hi (by omega))) (fun _ => ?_)
  refine mB hT 2 rfl ?_
  exact hR _ (by decide) _ _ _ rfl rfl
set_option maxRecDepth 20000 in
theorem c_isBasket_f {w : mW} {i : Int32} (hf : ¬ (0 ≤ i ∧ i < 4)) : KX2_isBasket l D ca ad [.int i] w (some (.int 0)) w := by
  refine PX2_isBasket (Nat.le_of_ble_eq_true rfl) (Or.inl rfl) ?_
  intro G hT hC hR
  refine mB hT 2 rfl ?_
  refine mIf (fun h1 => ?_) (fun h1 => ?_)
  · refine mB hT 1 rfl ?_
    exact hR _ (by decide) _ _ _ rfl rfl
  · refine mB hT 3 rfl ?_
    refine mIf (fun h2 => ?_) (fun h2 => ?_)
    · refine mB hT 1 rfl ?_
      exact hR _ (by decide) _ _ _ rfl rfl
    · refine mB hT 2 rfl ?_
      exact absurd (⟨Int32.not_lt.mp h1, Int32.not_le.mp h2⟩ : 0 ≤ i ∧ i < 4) hf
set_option maxRecDepth 20000 in
theorem c_isStuff_t {w : mW} {i : Nat} (hi : i < 3) : KX2_isStuff l D ca ad [.int (Int32.ofNat i)] w (some (.int 1)) w := by
  refine PX2_isStuff (Nat.le_of_ble_eq_true rfl) (Or.inr rfl) ?_
  intro G hT hC hR
  refine mB hT 2 rfl ?_
  refine mIf (fun hp => absurd hp (ofNat_nneg (by omega))) (fun _ => ?_)
  refine mB hT 3 rfl ?_
  refine mIf (fun hp => absurd hp (ofNat_nle (n := 3) hi (by omega))) (fun _ => ?_)
  refine mB hT 2 rfl ?_
  exact hR _ (by decide) _ _ _ rfl rfl
set_option maxRecDepth 20000 in
theorem c_isStuff_f {w : mW} {i : Int32} (hf : ¬ (0 ≤ i ∧ i < 3)) : KX2_isStuff l D ca ad [.int i] w (some (.int 0)) w := by
  refine PX2_isStuff (Nat.le_of_ble_eq_true rfl) (Or.inl rfl) ?_
  intro G hT hC hR
  refine mB hT 2 rfl ?_
  refine mIf (fun h1 => ?_) (fun h1 => ?_)
  · refine mB hT 1 rfl ?_
    exact hR _ (by decide) _ _ _ rfl rfl
  · refine mB hT 3 rfl ?_
    refine mIf (fun h2 => ?_) (fun h2 => ?_)
    · refine mB hT 1 rfl ?_
      exact hR _ (by decide) _ _ _ rfl rfl
    · refine mB hT 2 rfl ?_
      exact absurd (⟨Int32.not_lt.mp h1, Int32.not_le.mp h2⟩ : 0 ≤ i ∧ i < 3) hf
set_option maxRecDepth 20000 in
theorem c_floorDiv {w : mW} {x y : Int64} (hne : ¬ y = 0) : KJ9_floorDiv_f86c9 l D ca ad [.long x, .long y] w (some (.long (fdX x y))) w := by
  refine PJ9_floorDiv_f86c9 (Nat.le_of_ble_eq_true rfl) ?_
  intro G hT hC hR
  refine mB hT 2 rfl ?_
  refine mDiv hT (List.mem_of_getElem? (i := 2) rfl) hne ?_
  refine mB hT 7 rfl ?_
  refine mIf (fun h1 => ?_) (fun h1 => ?_)
  · refine mB hT 1 rfl ?_
    exact hR _ (by decide) _ _ _ (congrArg (fun z => [Value.long z]) (if_neg (fun q => Int64.not_lt.mpr (lc_ge.mp h1) q.1)).symm) rfl
  · refine mB hT 6 rfl ?_
    refine mIf (fun h2 => ?_) (fun h2 => ?_)
    · refine mB hT 1 rfl ?_
      exact hR _ (by decide) _ _ _ (congrArg (fun z => [Value.long z]) (if_neg (fun q => q.2 (lc_eq.mp h2))).symm) rfl
    · refine mB hT 3 rfl ?_
      exact hR _ (by decide) _ _ _ (congrArg (fun z => [Value.long z]) (if_pos ⟨Int64.not_le.mp (fun q => h1 (lc_ge.mpr q)), fun q => h2 (lc_eq.mpr q)⟩).symm) rfl
set_option maxRecDepth 20000 in
theorem c_th {w : mW} {a b : Int64} (hne : ¬ b = 0) : KX2_thousandths l D ca ad [.long a, .long b] w (some (.long (thX a b))) w := by
  refine PX2_thousandths (Nat.le_of_ble_eq_true rfl) ?_
  intro G hT hC hR
  refine mB hT 4 rfl ?_
  refine mIf (fun hp => absurd hp (fun q => hne (lc_eq.mp q))) (fun _ => ?_)
  refine mB hT 4 rfl ?_
  refine hC _ [_, _] _ _ _ _ (c_floorDiv hne) rfl (Nat.le_of_ble_eq_true rfl) rfl ?_
  exact hR _ (by decide) _ _ _ (congrArg (fun z => [Value.long z]) (if_neg hne).symm) rfl
end
